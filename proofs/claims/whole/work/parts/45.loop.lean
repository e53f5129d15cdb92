/-! the law's loop and its beginning -/
theorem dt_law_39 : decode mL_law.2.1 39 = .ok (.tableswitch (2076) 0 26 #[121, 189, 269, 349, 429, 497, 565, 621, 677, 690, 781, 872, 952, 1008, 1064, 1144, 1252, 1348, 1404, 1484, 1564, 1632, 1700, 1780, 1872, 1952, 2020], 121) := by decide +kernel
def sgl (a : Nat) (x : hC) : hM := fun q => if q = a then some x else none
theorem sgl_s (a : Nat) (x : hC) : sgl a x a = some x := if_pos rfl
theorem jn_new {M2 C : hM} {a : Nat} {x : hC} (h1 : M2 a = some x) (h2 : ∀ q, q ≠ a → M2 q = C q) (h3 : C a = none) : ∀ q, M2 q = jn (sgl a x) C q := by
  intro q
  by_cases e : q = a
  · rw [e, jn_n h3, sgl_s, h1]
  · rw [h2 q e]
    cases hC : C q with
    | some y => rw [jn_f hC]
    | none => rw [jn_n hC]; exact (if_neg e).symm
theorem dis_new {C : hM} {a : Nat} {x : hC} (h3 : C a = none) : dis C (sgl a x) := by
  intro q y hq
  by_cases e : q = a
  · rw [e, h3] at hq; cases hq
  · exact if_neg e
set_option maxRecDepth 20000 in
theorem law_loop {X : hX} {b L h r bm o : Nat} {zs : Nat → Int} (hX : Cok X mL_law) (hst : X.1.2.1.stackTraces = false) (hS : LSc X b L zs) (hend : ∀ (i : Int) (v5 v6 : Value) (M : hM) (sz : Nat), G X 2121 [.ref b, .ref h, .ref r, .ref o, .int (iZ i), v5, v6] [] M sz 601024 7293034) : ∀ (k9 : Nat) (i : Int) (σ : SG) (M : hM) (sz cs ss : Nat) (v5 v6 : Value), 0 ≤ i → i ≤ 3000 → (L : Int) < i + 5 * ((k9 : Int) + 1) → cs + 10 * k9 ≤ 601024 → ss + 250 * k9 ≤ 7293034 → LWs X.2.2.2.2.2 h r bm o σ M → SV σ → G X 23 [.ref b, .ref h, .ref r, .ref o, .int (iZ i), v5, v6] [] M sz cs ss := by
  have hL := hS.2.2.2.1
  intro k9
  induction k9 with
  | zero =>
    intro i σ M sz cs ss v5 v6 hi0 hi1 hk hcs hss hW hV
    refine g_iload hX dL_law_23 rfl ?_
    refine g_aload hX dL_law_25 rfl rfl ?_
    refine z_slen hX hS dL_law_26 ?_
    refine g_const hX dL_law_27 ?_
    refine z_isub hX dL_law_28 ?_
    refine z_icmp_gt hX dL_law_29 (by constructor <;> omega) (by constructor <;> omega) (fun c29 => ?_) (fun c29 => absurd c29 (by omega))
    exact g_wide (by omega) (by omega) (hend i v5 v6 M sz)
  | succ k9 ih =>
    intro i σ M sz cs ss v5 v6 hi0 hi1 hk hcs hss hW hV
    refine g_iload hX dL_law_23 rfl ?_
    refine g_aload hX dL_law_25 rfl rfl ?_
    refine z_slen hX hS dL_law_26 ?_
    refine g_const hX dL_law_27 ?_
    refine z_isub hX dL_law_28 ?_
    refine z_icmp_gt hX dL_law_29 (by constructor <;> omega) (by constructor <;> omega) (fun c29 => ?_) (fun c29 => ?_)
    · exact g_wide (by omega) (by omega) (hend i v5 v6 M sz)
    have hi : 0 ≤ i ∧ i + 5 ≤ (L : Int) := by omega
    have hcs9 : cs + 10 ≤ 601024 := by omega
    have hss9 : ss + 250 ≤ 7293034 := Nat.le_trans (show ss + 250 ≤ ss + 250 * (k9 + 1) by omega) hss
    have hn : ∀ (σ' : SG) (M' : hM) (sz' : Nat) (w5 w6 : Value), LWs X.2.2.2.2.2 h r bm o σ' M' → SV σ' → G X 2115 [.ref b, .ref h, .ref r, .ref o, .int (iZ i), w5, w6] [] M' sz' (cs + 10) (ss + 250) := by
      intro σ' M' sz' w5 w6 hW' hV'
      refine z_iinc hX dL_law_2115 rfl ?_
      dsimp only [List.set]
      refine g_goto hX dL_law_2118 ?_
      exact ih (i + 5) σ' M' sz' (cs + 10) (ss + 250) w5 w6 (by omega) (by omega) (by omega) (Nat.le_trans (show cs + 10 + 10 * k9 ≤ cs + 10 * (k9 + 1) by omega) hcs) (Nat.le_trans (show ss + 250 + 250 * k9 ≤ ss + 250 * (k9 + 1) by omega) hss) hW' hV'
    refine g_aload hX dL_law_32 rfl rfl ?_
    refine g_iload hX dL_law_33 rfl ?_
    refine z_sld hX hS dL_law_35 (by omega) (by omega) rfl ?_
    refine g_const hX dL_law_36 ?_
    refine g_iand hX dL_law_38 ?_
    generalize iZ (zs i.toNat) &&& iZ 31 = x
    rcases (show x.toInt = 0 ∨ x.toInt = 1 ∨ x.toInt = 2 ∨ x.toInt = 3 ∨ x.toInt = 4 ∨ x.toInt = 5 ∨ x.toInt = 6 ∨ x.toInt = 7 ∨ x.toInt = 8 ∨ x.toInt = 9 ∨ x.toInt = 10 ∨ x.toInt = 11 ∨ x.toInt = 12 ∨ x.toInt = 13 ∨ x.toInt = 14 ∨ x.toInt = 15 ∨ x.toInt = 16 ∨ x.toInt = 17 ∨ x.toInt = 18 ∨ x.toInt = 19 ∨ x.toInt = 20 ∨ x.toInt = 21 ∨ x.toInt = 22 ∨ x.toInt = 23 ∨ x.toInt = 24 ∨ x.toInt = 25 ∨ x.toInt = 26 ∨ (x.toInt < 0 ∨ 26 < x.toInt) by omega) with e9 | e9 | e9 | e9 | e9 | e9 | e9 | e9 | e9 | e9 | e9 | e9 | e9 | e9 | e9 | e9 | e9 | e9 | e9 | e9 | e9 | e9 | e9 | e9 | e9 | e9 | e9 | e9
    · refine g_tabIn (off := 121) (t := 160) hX dt_law_39 (by rw [e9]; decide) (by rw [e9]; decide) (by rw [e9]; rfl) (by decide) ?_
      exact law_text hX hst hS hi hW hV hcs9 hss9 hn
    · refine g_tabIn (off := 189) (t := 228) hX dt_law_39 (by rw [e9]; decide) (by rw [e9]; decide) (by rw [e9]; rfl) (by decide) ?_
      exact law_line hX hst hS hi hW hV hcs9 hss9 hn
    · refine g_tabIn (off := 269) (t := 308) hX dt_law_39 (by rw [e9]; decide) (by rw [e9]; decide) (by rw [e9]; rfl) (by decide) ?_
      exact law_tune hX hst hS hi hW hV hcs9 hss9 hn
    · refine g_tabIn (off := 349) (t := 388) hX dt_law_39 (by rw [e9]; decide) (by rw [e9]; decide) (by rw [e9]; rfl) (by decide) ?_
      exact law_phrase hX hst hS hi hW hV hcs9 hss9 hn
    · refine g_tabIn (off := 429) (t := 468) hX dt_law_39 (by rw [e9]; decide) (by rw [e9]; decide) (by rw [e9]; rfl) (by decide) ?_
      exact law_fits hX hst hS hi hW hV hcs9 hss9 hn
    · refine g_tabIn (off := 497) (t := 536) hX dt_law_39 (by rw [e9]; decide) (by rw [e9]; decide) (by rw [e9]; rfl) (by decide) ?_
      exact law_clashes hX hst hS hi hW hV hcs9 hss9 hn
    · refine g_tabIn (off := 565) (t := 604) hX dt_law_39 (by rw [e9]; decide) (by rw [e9]; decide) (by rw [e9]; rfl) (by decide) ?_
      exact law_best hX hst hS hi hW hV hcs9 hss9 hn
    · refine g_tabIn (off := 621) (t := 660) hX dt_law_39 (by rw [e9]; decide) (by rw [e9]; decide) (by rw [e9]; rfl) (by decide) ?_
      exact law_alike hX hst hS hi hW hV hcs9 hss9 hn
    · refine g_tabIn (off := 677) (t := 716) hX dt_law_39 (by rw [e9]; decide) (by rw [e9]; decide) (by rw [e9]; rfl) (by decide) ?_
      exact law_metres hX hst hS hi hW hV hcs9 hss9 hn
    · refine g_tabIn (off := 690) (t := 729) hX dt_law_39 (by rw [e9]; decide) (by rw [e9]; decide) (by rw [e9]; rfl) (by decide) ?_
      exact law_allowText hX hst hS hi hW hV hcs9 hss9 hn
    · refine g_tabIn (off := 781) (t := 820) hX dt_law_39 (by rw [e9]; decide) (by rw [e9]; decide) (by rw [e9]; rfl) (by decide) ?_
      exact law_allowTune hX hst hS hi hW hV hcs9 hss9 hn
    · refine g_tabIn (off := 872) (t := 911) hX dt_law_39 (by rw [e9]; decide) (by rw [e9]; decide) (by rw [e9]; rfl) (by decide) ?_
      exact law_shift hX hst hS hi hW hV hcs9 hss9 hn
    · refine g_tabIn (off := 952) (t := 991) hX dt_law_39 (by rw [e9]; decide) (by rw [e9]; decide) (by rw [e9]; rfl) (by decide) ?_
      exact law_easter hX hst hS hi hW hV hcs9 hss9 hn
    · refine g_tabIn (off := 1008) (t := 1047) hX dt_law_39 (by rw [e9]; decide) (by rw [e9]; decide) (by rw [e9]; rfl) (by decide) ?_
      exact law_easterAnew hX hst hS hi hW hV hcs9 hss9 hn
    · refine g_tabIn (off := 1064) (t := 1103) hX dt_law_39 (by rw [e9]; decide) (by rw [e9]; decide) (by rw [e9]; rfl) (by decide) ?_
      exact law_weekday hX hst hS hi hW hV hcs9 hss9 hn
    · refine g_tabIn (off := 1144) (t := 1183) hX dt_law_39 (by rw [e9]; decide) (by rw [e9]; decide) (by rw [e9]; rfl) (by decide) ?_
      exact law_feast hX hst hS hi hW hV hcs9 hss9 hn
    · refine g_tabIn (off := 1252) (t := 1291) hX dt_law_39 (by rw [e9]; decide) (by rw [e9]; decide) (by rw [e9]; rfl) (by decide) ?_
      exact law_moving hX hst hS hi hW hV hcs9 hss9 hn
    · refine g_tabIn (off := 1348) (t := 1387) hX dt_law_39 (by rw [e9]; decide) (by rw [e9]; decide) (by rw [e9]; rfl) (by decide) ?_
      exact law_sundays hX hst hS hi hW hV hcs9 hss9 hn
    · refine g_tabIn (off := 1404) (t := 1443) hX dt_law_39 (by rw [e9]; decide) (by rw [e9]; decide) (by rw [e9]; rfl) (by decide) ?_
      exact law_reading hX hst hS hi hW hV hcs9 hss9 hn
    · refine g_tabIn (off := 1484) (t := 1523) hX dt_law_39 (by rw [e9]; decide) (by rw [e9]; decide) (by rw [e9]; rfl) (by decide) ?_
      exact law_kept hX hst hS hi hW hV hcs9 hss9 hn
    · refine g_tabIn (off := 1564) (t := 1603) hX dt_law_39 (by rw [e9]; decide) (by rw [e9]; decide) (by rw [e9]; rfl) (by decide) ?_
      exact law_when hX hst hS hi hW hV hcs9 hss9 hn
    · refine g_tabIn (off := 1632) (t := 1671) hX dt_law_39 (by rw [e9]; decide) (by rw [e9]; decide) (by rw [e9]; rfl) (by decide) ?_
      exact law_whenAnew hX hst hS hi hW hV hcs9 hss9 hn
    · refine g_tabIn (off := 1700) (t := 1739) hX dt_law_39 (by rw [e9]; decide) (by rw [e9]; decide) (by rw [e9]; rfl) (by decide) ?_
      exact law_theme hX hst hS hi hW hV hcs9 hss9 hn
    · refine g_tabIn (off := 1780) (t := 1819) hX dt_law_39 (by rw [e9]; decide) (by rw [e9]; decide) (by rw [e9]; rfl) (by decide) ?_
      exact law_why hX hst hS hi hW hV hcs9 hss9 hn
    · refine g_tabIn (off := 1872) (t := 1911) hX dt_law_39 (by rw [e9]; decide) (by rw [e9]; decide) (by rw [e9]; rfl) (by decide) ?_
      exact law_sing hX hst hS hi hW hV hcs9 hss9 hn
    · refine g_tabIn (off := 1952) (t := 1991) hX dt_law_39 (by rw [e9]; decide) (by rw [e9]; decide) (by rw [e9]; rfl) (by decide) ?_
      exact law_service hX hst hS hi hW hV hcs9 hss9 hn
    · refine g_tabIn (off := 2020) (t := 2059) hX dt_law_39 (by rw [e9]; decide) (by rw [e9]; decide) (by rw [e9]; rfl) (by decide) ?_
      exact law_sung hX hst hS hi hW hV hcs9 hss9 hn
    · refine g_tabOut (t := 2115) hX dt_law_39 e9 (by decide) ?_
      exact g_wide (by omega) (by omega) (hn σ M sz v5 v6 hW hV)
set_option maxRecDepth 20000 in
theorem law_body {X : hX} {b L sz : Nat} {zs : Nat → Int} (hX : Cok X mL_law) (hst : X.1.2.1.stackTraces = false) (hS : LSc X b L zs) (hend : ∀ (h r o : Nat) (i : Int) (v5 v6 : Value) (M : hM) (sz : Nat), G X 2121 [.ref b, .ref h, .ref r, .ref o, .int (iZ i), v5, v6] [] M sz 601024 7293034) : G X 0 [.ref b, U9, U9, U9, U9, U9, U9] [] (fun _ => none) sz 0 0 := by
  have hL := hS.2.2.2.1
  refine o_new hX dL_law_0 rfl (show 0 + 1 ≤ 601024 by decide) (show 0 + 7 ≤ 7293034 by decide) (fun M1 hs1 hn1 => ?_)
  refine g_dup hX dL_law_3 rfl ?_
  refine g_eqM (M' := jn M1 (fun _ => none)) (fun q => (jn_n rfl).symm) ?_
  refine g_cIf (As := []) (a := sz) (rest := [.ref sz]) (c2 := 10) (s2 := 414) hX (s_X9_init hst) dL_law_4 rfl rfl (by first | exact Nat.le_of_ble_eq_true rfl | simp [cat_rf, Value.category]) ⟨rfl, rfl, (show 10 ≤ 601024 by decide), (show 414 ≤ 7293034 by decide)⟩ (fun q x h9 => by cases h9) ?_
  refine ⟨sz, _, _, _, _, _, _, _, rfl, hs1, fun C h0 l0 r4 r5 p6 p7 p8 hd hs => Kc_v ?_⟩
  refine g_eqM (M' := C) (fun q => jn_n rfl) ?_
  refine g_dom hX (fun hdom => ?_)
  have haD : C X.2.2.2.2.2.2.2.2.2 = none := by
    cases hq : C X.2.2.2.2.2.2.2.2.2 with
    | none => rfl
    | some x => have := (hdom _ x hq).2; have := hX.aD; omega
  have hH := hx_0 (h := sz) (sz := sz + 1) (by omega) haD h0 l0 r4 r5 p6 p7 p8
  have hC1 : ∀ q, sz + 1 + 9 ≤ q → C q = none := fun q hq => by
    cases hc : C q with
    | none => rfl
    | some x => have := (hdom q x hc).1; omega
  refine g_astore hX dL_law_7 rfl ?_
  dsimp only [List.set]
  refine o_new hX dL_law_8 rfl (show 10 + 1 ≤ 601024 by decide) (show 414 + 31 ≤ 7293034 by decide) (fun M2 hs2 hn2 => ?_)
  refine g_dup hX dL_law_11 rfl ?_
  have hs3 : M2 (sz + 1 + 9) = some (.inl (10, [.int (iZ 0), .null, .null, .null, .null, .null, .null, .int (iZ 0), .null, .null, .null, .null, .null, .null, .null, .int (iZ 0), .null, .null, .null, .null, .null, .int (iZ 0), .null, .null, .null, .int (iZ 0), .null, .null, .null, .null, .int (iZ 0)])) := hs2.trans (by rw [← z_0])
  refine g_eqM (jn_new hs3 hn2 (hC1 _ (Nat.le_refl _))) ?_
  refine g_cIf (As := []) (a := sz + 1 + 9) (rest := [.ref (sz + 1 + 9)]) (c2 := 36) (s2 := 1726) hX (s_X10_init hst) dL_law_12 rfl rfl (by first | exact Nat.le_of_ble_eq_true rfl | simp [cat_rf, Value.category]) ⟨rfl, rfl, (show 36 ≤ 601024 by decide), (show 1726 ≤ 7293034 by decide)⟩ (dis_new (hC1 _ (Nat.le_refl _))) ?_
  refine ⟨sz + 1 + 9, _, _, _, _, _, _, _, _, _, _, _, _, _, _, _, _, _, _, _, _, _, _, _, _, _, rfl, sgl_s _ _, fun B hB hd2 hsB => Kc_v ?_⟩
  refine g_astore hX dL_law_15 rfl ?_
  dsimp only [List.set]
  refine g_dom hX (fun hdom2 => ?_)
  refine g_const hX dL_law_16 ?_
  refine o_newa hX dL_law_17 (N := 1) rfl (by decide) (show 36 + 1 ≤ 601024 by decide) (show 1726 + 1 ≤ 7293034 by decide) (fun M3 hs4 hn4 => ?_)
  refine g_astore hX dL_law_19 rfl ?_
  dsimp only [List.set]
  refine g_const hX dL_law_20 ?_
  refine g_istore hX dL_law_21 ?_
  dsimp only [List.set]
  have hCo : C (sz + 1 + 9 + 1 + 25) = none := hC1 _ (by omega)
  have hBo : B (sz + 1 + 9 + 1 + 25) = none := by
    cases hq : B (sz + 1 + 9 + 1 + 25) with
    | none => rfl
    | some x => have := (hdom2 _ x (jn_m hd2 hq)).1; omega
  refine law_loop hX hst hS (hend _ _ _) 512 0 σ0 M3 _ _ _ _ _ (by omega) (by omega) (by omega) (by decide) (by decide) ⟨_, _, _, _, _, _, fun _ => 0, C, B, hH, hB, hCo, ?_, fun q => ?_⟩ SV_0
  · intro q x hq
    have hqo : q ≠ sz + 1 + 9 + 1 + 25 := fun e => by rw [e, hBo] at hq; cases hq
    rw [jn_n (show sg _ _ q = none from if_neg hqo)]
    cases hc : C q with
    | none => rfl
    | some y => have := hd2 q y hc; rw [hq] at this; cases this
  · by_cases e : q = sz + 1 + 9 + 1 + 25
    · rw [e, jn_n hBo, jn_f (sg_s _ _)]
      exact hs4
    · rw [hn4 q e, jn_comm hd2 q]
      cases hb : B q with
      | some x => rw [jn_f hb, jn_f hb]
      | none => rw [jn_n hb, jn_n hb, jn_n (show sg _ _ q = none from if_neg e)]
