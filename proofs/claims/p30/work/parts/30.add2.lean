/-! the calls that add -/
theorem adT_c {σ : SG} {a b : Int} (c : Nat) (g1 : c ≠ 0) (g2 : c ≠ 10) (g3 : c ≠ 11) : adT σ a b c = σ c := by
  unfold adT
  rw [sup_c _ _ g1, sup_c _ _ g3, sup_c _ _ g2]
theorem adT_i {σ : SG} {a b : Int} {c i : Nat} (hc : c ≠ 0) (hi : i ≠ (σ 0 0 0).toNat) : adT σ a b c i = σ c i := by
  unfold adT
  rw [sup_c _ _ hc, sup_i _ _ hi, sup_i _ _ hi]
theorem adT_v {σ : SG} {a b : Int} : adT σ a b 10 (σ 0 0 0).toNat 0 = a ∧ adT σ a b 11 (σ 0 0 0).toNat 0 = b ∧ adT σ a b 0 0 0 = σ 0 0 0 + 1 := by
  unfold adT
  refine ⟨?_, ?_, sup_s _ _ _ _ _⟩
  · rw [sup_c _ _ (by decide), sup_c _ _ (by decide), sup_s]
  · rw [sup_c _ _ (by decide), sup_s]
theorem adU_c {σ : SG} {a lo hi : Int} (c : Nat) (g1 : c ≠ 1) (g2 : c ≠ 20) (g3 : c ≠ 21) (g4 : c ≠ 22) : adU σ a lo hi c = σ c := by
  unfold adU
  rw [sup_c _ _ g1, sup_c _ _ g4, sup_c _ _ g3, sup_c _ _ g2]
theorem adU_i {σ : SG} {a lo hi : Int} {c i : Nat} (hc : c ≠ 1) (hi9 : i ≠ (σ 1 0 0).toNat) : adU σ a lo hi c i = σ c i := by
  unfold adU
  rw [sup_c _ _ hc, sup_i _ _ hi9, sup_i _ _ hi9, sup_i _ _ hi9]
theorem adU_v {σ : SG} {a lo hi : Int} : adU σ a lo hi 20 (σ 1 0 0).toNat 0 = a ∧ adU σ a lo hi 21 (σ 1 0 0).toNat 0 = lo ∧ adU σ a lo hi 22 (σ 1 0 0).toNat 0 = hi ∧ adU σ a lo hi 1 0 0 = σ 1 0 0 + 1 := by
  unfold adU
  refine ⟨?_, ?_, ?_, sup_s _ _ _ _ _⟩
  · rw [sup_c _ _ (by decide), sup_c _ _ (by decide), sup_c _ _ (by decide), sup_s]
  · rw [sup_c _ _ (by decide), sup_c _ _ (by decide), sup_s]
  · rw [sup_c _ _ (by decide), sup_s]

theorem cst_6 {M : hM} {y : Nat} {fs : List Value} (h : M y = some (.inl (6, fs))) : CST M y := ⟨6, 811, fs, _, h, rfl, by decide +kernel⟩

theorem cst_7 {M : hM} {y : Nat} {fs : List Value} (h : M y = some (.inl (7, fs))) : CST M y := ⟨7, 815, fs, _, h, rfl, by decide +kernel⟩

theorem cst_1 {M : hM} {y : Nat} {fs : List Value} (h : M y = some (.inl (1, fs))) : CST M y := ⟨1, 816, fs, _, h, rfl, by decide +kernel⟩

theorem cst_5 {M : hM} {y : Nat} {fs : List Value} (h : M y = some (.inl (5, fs))) : CST M y := ⟨5, 817, fs, _, h, rfl, by decide +kernel⟩

def sp_X9_text (g : hG) : hS := fun as M sz K => ∃ (h : Nat) (A : Nat → Nat → Nat) (ow : Nat → Nat × Nat) (σ : SG) (τ : Nat → Nat → Int) (a : Int) (b : Int), as = [.ref h, .int (iZ a), .int (iZ b)] ∧ HX g.2.2.2.2 h A ow σ τ M ∧ SV σ ∧ inR a ∧ inR b ∧ KO g.2.2.2.2 h (E3 tIAE tISE tISE) (oc_text σ a b) K
theorem s_X9_text {l : Launch} {g : hG} (hst : l.stackTraces = false) : Ctr l g mX9_text (sp_X9_text g) := by
  refine Ctr.mk9 hst (by decide) ?_ ?_
  · rintro as M sz K ⟨h, A, ow, σ, τ, a, b, rfl, hH, hV, hra, hrb, hK⟩
    exact ⟨by simp [mX9_text], cat_ok rfl⟩
  rintro X as M sz K hX rfl rfl hR ⟨h, A, ow, σ, τ, a, b, rfl, hH, hV, hra, hrb, hK⟩
  show G X 0 [.ref h, .int (iZ a), .int (iZ b)] [] M sz 0 0
  obtain ⟨n0, n1, n2, n3, ⟨e0, hn0⟩, ⟨e1, hn1⟩, ⟨e2, hn2⟩, ⟨e3, hn3⟩⟩ := hV.nat
  have hob := hH.ob
  have hl0 := hH.l0 e0
  obtain ⟨mo0, ho0⟩ := hl0.o
  have hl1 := hH.l1 e1
  obtain ⟨mo1, ho1⟩ := hl1.o
  have hl2 := hH.l2 e2
  obtain ⟨mo2, ho2⟩ := hl2.o
  have hl3 := hH.l3 e3
  obtain ⟨mo3, ho3⟩ := hl3.o
  refine g_dom hX (fun hdom => ?_)
  have hdd : ∀ (q : Nat) (x : hC), M q = some x → q < sz := fun q x h9 => (hdom q x h9).1
  have haD : X.2.2.2.2.2.2.2.2.2 < sz := by have := hX.aD; have := hdom h _ hob; omega
  have hH0 := hH
  have hbd := hH.bnd hdd haD
  refine g_iload hX dX9_text_0 rfl ?_
  refine g_const hX dX9_text_1 ?_
  refine g_const hX dX9_text_4 ?_
  refine g_cS3 (c2 := 1) (s2 := 6) hX (s_X9_requireRange hst) dX9_text_7 (by first | exact Nat.le_of_ble_eq_true rfl | simp [cat_rf, Value.category]) ⟨rfl, rfl, by decide, by decide⟩ ?_
  refine ⟨_, _, _, rfl, (by first | assumption | (constructor <;> omega)), (by first | assumption | (constructor <;> omega)), (by first | assumption | (constructor <;> omega)), fun q1 => Kc_v ?_, fun h9 s9 hs9 => Kc_x (gx_out hX hR rfl (by decide) (by decide) (KX hK (c := 1) (if_pos (fun q => h9 q.1)) (by decide) rfl hH hV))⟩
  refine g_iload hX dX9_text_10 rfl ?_
  refine g_const hX dX9_text_11 ?_
  refine g_const hX dX9_text_12 ?_
  refine g_cS3 (c2 := 2) (s2 := 12) hX (s_X9_requireRange hst) dX9_text_14 (by first | exact Nat.le_of_ble_eq_true rfl | simp [cat_rf, Value.category]) ⟨rfl, rfl, by decide, by decide⟩ ?_
  refine ⟨_, _, _, rfl, (by first | assumption | (constructor <;> omega)), (by first | assumption | (constructor <;> omega)), (by first | assumption | (constructor <;> omega)), fun q2 => Kc_v ?_, fun h9 s9 hs9 => Kc_x (gx_out hX hR rfl (by decide) (by decide) (KX hK (c := 1) (if_pos (fun q => h9 q.2)) (by decide) rfl hH hV))⟩
  refine g_aload hX dX9_text_17 rfl rfl ?_
  refine g_get hX dX9_text_18 (by first | assumption | exact hob3 | exact ho9 | exact hob | exact ho0 | exact ho1 | exact ho2 | exact ho3) rfl ?_
  refine g_cV0 (c2 := 2) (s2 := 12) hX (s_Jx4a65c_size_8abf5 hst) dX9_text_21 (by first | assumption | exact hob3 | exact ho9 | exact hob | exact ho0 | exact ho1 | exact ho2 | exact ho3) (by first | exact Nat.le_of_ble_eq_true rfl | simp [cat_rf, Value.category]) ⟨rfl, rfl, by decide, by decide⟩ ?_
  refine ⟨_, _, _, _, _, rfl, hl0, Kc_i ?_⟩
  refine g_const hX dX9_text_24 ?_
  refine z_icmp_lt hX dX9_text_26 (by first | assumption | (constructor <;> omega)) (by first | assumption | (constructor <;> omega)) (fun c26 => ?_) (fun c26 => ?_)
  · refine g_aload hX dX9_text_39 rfl rfl ?_
    refine g_get hX dX9_text_40 (by first | assumption | exact hob3 | exact ho9 | exact hob | exact ho0 | exact ho1 | exact ho2 | exact ho3) rfl ?_
    refine o_new hX dX9_text_43 rfl (by decide) (by decide) (fun M1 hs1 hn1 => ?_)
    have hk1 : ∀ q, q < sz → M1 q = M q := fun q h9 => hn1 q (by omega)
    have hH := hH0.low hdd haD hk1
    have hob := hH.ob
    have hl0 := hH.l0 e0
    obtain ⟨mo0, ho0⟩ := hl0.o
    have hl1 := hH.l1 e1
    obtain ⟨mo1, ho1⟩ := hl1.o
    have hl2 := hH.l2 e2
    obtain ⟨mo2, ho2⟩ := hl2.o
    have hl3 := hH.l3 e3
    obtain ⟨mo3, ho3⟩ := hl3.o
    refine g_dup hX dX9_text_46 rfl ?_
    refine g_aload hX dX9_text_47 rfl rfl ?_
    refine g_get hX dX9_text_48 (by first | assumption | exact hob3 | exact ho9 | exact hob | exact ho0 | exact ho1 | exact ho2 | exact ho3) rfl ?_
    refine g_cV0 (c2 := 3) (s2 := 16) hX (s_Jx4a65c_size_8abf5 hst) dX9_text_51 (by first | assumption | exact hob3 | exact ho9 | exact hob | exact ho0 | exact ho1 | exact ho2 | exact ho3) (by first | exact Nat.le_of_ble_eq_true rfl | simp [cat_rf, Value.category]) ⟨rfl, rfl, by decide, by decide⟩ ?_
    refine ⟨_, _, _, _, _, rfl, hl0, Kc_i ?_⟩
    refine g_iload hX dX9_text_54 rfl ?_
    refine g_iload hX dX9_text_55 rfl ?_
    refine g_cIN3 (c2 := 7) (s2 := 37) hX (s_X6_init hst) dX9_text_56 (by first | exact Nat.le_of_ble_eq_true rfl | simp [cat_rf, Value.category]) ⟨rfl, rfl, by decide, by decide⟩ ?_
    refine ⟨_, _, _, _, _, _, _, _, rfl, hs1, fun M2 t1 t2 t3 t4 t5 t6 => Kc_v ?_⟩
    have hk2 : ∀ q, q < sz → M2 q = M q := fun q h9 => (t6.1 q (by omega) (by omega)).trans (hk1 q h9)
    have hH := hH0.low hdd haD hk2
    have hob := hH.ob
    have hl0 := hH.l0 e0
    obtain ⟨mo0, ho0⟩ := hl0.o
    have hl1 := hH.l1 e1
    obtain ⟨mo1, ho1⟩ := hl1.o
    have hl2 := hH.l2 e2
    obtain ⟨mo2, ho2⟩ := hl2.o
    have hl3 := hH.l3 e3
    obtain ⟨mo3, ho3⟩ := hl3.o
    refine g_cV1 (c2 := 8) (s2 := 237) hX (s_Jx4a65c_add_9ea2d hst) dX9_text_59 (by first | assumption | exact hob3 | exact ho9 | exact hob | exact ho0 | exact ho1 | exact ho2 | exact ho3) (by first | exact Nat.le_of_ble_eq_true rfl | simp [cat_rf, Value.category]) ⟨rfl, rfl, by decide, by decide⟩ ?_
    refine ⟨_, _, _, _, A 7, rfl, hl0, by omega, cst_6 t1, fun i hi => cst_6 (hH.tx (by omega)), fun e9 => (by have := (hbd.2 0 (by decide)).1; omega), fun i hi e9 => (by rw [← e9, hH.tx (by omega)] at ho0; cases ho0), fun M3 sz3 ea3 u1 u2 u3 u4 u5 => Kc_i ?_⟩
    have hb0 := hbd.2 0 (by decide)
    have hbh : h < sz := hdd _ _ hH0.ob
    have hob3 := (u2 h (fun e9 => by rw [e9, ho0] at hob; cases hob) (fun e9 => by
      rcases (hH.2.2.2 0 (by decide)).2.2 with e8 | e8
      · rw [e9, e8, hH.1] at hob; cases hob
      · rw [← e9, ← hH.2.1, (hH.2.2.1 2 0 (Or.inl ⟨by decide, by decide, rfl⟩)).2] at e8; cases e8) (by omega)).trans hob
    obtain ⟨mo9, ho9⟩ := u1.o
    refine g_pop hX dX9_text_62 rfl ?_
    refine g_aload hX dX9_text_63 rfl rfl ?_
    refine g_get hX dX9_text_64 (by first | assumption | exact hob3 | exact ho9 | exact hob | exact ho0 | exact ho1 | exact ho2 | exact ho3) rfl ?_
    refine g_cV0 (c2 := 8) (s2 := 237) hX (s_Jx4a65c_size_8abf5 hst) dX9_text_67 (by first | assumption | exact hob3 | exact ho9 | exact hob | exact ho0 | exact ho1 | exact ho2 | exact ho3) (by first | exact Nat.le_of_ble_eq_true rfl | simp [cat_rf, Value.category]) ⟨rfl, rfl, by decide, by decide⟩ ?_
    refine ⟨_, _, _, _, _, rfl, u1, Kc_i ?_⟩
    refine g_const hX dX9_text_70 ?_
    refine z_isub hX dX9_text_71 ?_
    refine g_iret hX hR dX9_text_72 rfl rfl (by decide) (by decide) ?_
    obtain ⟨na, v7, v8, v9, v10, v11⟩ : ∃ na : Nat → Nat, na 7 = sz ∧ na 8 = sz + 4 ∧ na 9 = sz + 1 ∧ na 10 = sz + 2 ∧ na 11 = sz + 3 := ⟨fun k => if k = 8 then sz + 4 else if k = 7 then sz else sz + (k - 8), rfl, rfl, rfl, rfl, rfl⟩
    obtain ⟨kf, k7, k8, k9, k10, k11⟩ : ∃ kf : Nat → Nat, kf (sz) = 7 ∧ kf (sz + 4) = 8 ∧ kf (sz + 1) = 9 ∧ kf (sz + 2) = 10 ∧ kf (sz + 3) = 11 := ⟨fun q => if q = sz + 4 then 8 else if q = sz then 7 else q - sz + 8, by dsimp only; rw [if_neg (by omega), if_pos rfl], by dsimp only; rw [if_pos rfl], by dsimp only; rw [if_neg (by omega), if_neg (by omega)]; omega, by dsimp only; rw [if_neg (by omega), if_neg (by omega)]; omega, by dsimp only; rw [if_neg (by omega), if_neg (by omega)]; omega⟩
    have hb0 := hbd.2 0 (by decide)
    have hne3 : ∀ q, sz ≤ q → q < sz + 1 + 4 → M3 q = M2 q := fun q z1 z2 => u2 q (by omega) (by omega) z2
    have hnt : (σ 0 0 0).toNat = n0 := by omega
    have hvv := adT_v (σ := σ) (a := a) (b := b)
    rw [hnt] at hvv
    have cnt : adT σ a b 0 0 0 = σ 0 0 0 + 1 := hvv.2.2
    have hz := hV.t n0
    have hz2 := hz.2.2.2.2 (by omega)
    have hz3 := hz.2.2.2.1
    have h14 : σ 14 n0 = fun _ => 0 := funext (fun k => ((hz3.2 k).2.2.1 (by omega)).1)
    have h15 : σ 15 n0 = fun _ => 0 := funext (fun k => ((hz3.2 k).2.2.1 (by omega)).2)
    have z8 : exA A na ea3 0 7 11 n0 8 n0 = sz + 4 := (exA_n (by decide) (by decide)).trans v8
    have z9 : exA A na ea3 0 7 11 n0 9 n0 = sz + 1 := (exA_n (by decide) (by decide)).trans v9
    have z10 : exA A na ea3 0 7 11 n0 10 n0 = sz + 2 := (exA_n (by decide) (by decide)).trans v10
    have z11 : exA A na ea3 0 7 11 n0 11 n0 = sz + 3 := (exA_n (by decide) (by decide)).trans v11
    have hnew : ∀ k, 7 ≤ k → k ≤ 11 → M3 (na k) = some (CELL (exA A na ea3 0 7 11 n0) (adT σ a b) τ k n0) := by
      intro k h1 h2
      rcases (show k = 7 ∨ k = 8 ∨ k = 9 ∨ k = 10 ∨ k = 11 by omega) with rfl | rfl | rfl | rfl | rfl
      · rw [v7, hne3 sz (by omega) (by omega), t1]
        unfold CELL
        simp only [hvv.2.1, z8, z9]
      · rw [v8, hne3 (sz + 4) (by omega) (by omega), show sz + 4 = sz + 1 + 3 from rfl, t5]
        unfold CELL
        simp only [hvv.1, adT_c (σ := σ) (a := a) (b := b) 12 (by decide) (by decide) (by decide), hz2.1]
      · rw [v9, hne3 (sz + 1) (by omega) (by omega), t2]
        unfold CELL
        simp only [z10, z11, adT_c (σ := σ) (a := a) (b := b) 13 (by decide) (by decide) (by decide), hz2.2]
      · rw [v10, hne3 (sz + 2) (by omega) (by omega), show sz + 2 = sz + 1 + 1 from rfl, t3]
        unfold CELL
        simp only [adT_c (σ := σ) (a := a) (b := b) 14 (by decide) (by decide) (by decide), h14]
        rfl
      · rw [v11, hne3 (sz + 3) (by omega) (by omega), show sz + 3 = sz + 1 + 2 from rfl, t4]
        unfold CELL
        simp only [adT_c (σ := σ) (a := a) (b := b) 15 (by decide) (by decide) (by decide), h15]
        rfl
    obtain ⟨ow3, hH3⟩ := hH.ext hV (σ' := adT σ a b) (sz := sz) (ea' := ea3) (n := n0) 0 7 11 na kf (by decide) hbd haD (by decide) (by omega) e0 (by rw [cnt, e0]) (fun i h1 h2 => congrFun (congrFun (adT_c i (by omega) (by omega) (by omega)) 0) 0) (fun k i hv => by
      unfold VLD at hv ⊢
      rw [cnt, adT_c (σ := σ) (a := a) (b := b) 1 (by decide) (by decide) (by decide), adT_c (σ := σ) (a := a) (b := b) 2 (by decide) (by decide) (by decide), adT_c (σ := σ) (a := a) (b := b) 3 (by decide) (by decide) (by decide)] at hv
      omega) (fun k h1 h2 hv => by unfold VLD at hv; omega) (fun k h1 h2 => by
      rcases (show k = 7 ∨ k = 8 ∨ k = 9 ∨ k = 10 ∨ k = 11 by omega) with rfl | rfl | rfl | rfl | rfl
      · exact ⟨by rw [v7]; exact k7, by omega, by omega⟩
      · exact ⟨by rw [v8]; exact k8, by omega, by omega⟩
      · exact ⟨by rw [v9]; exact k9, by omega, by omega⟩
      · exact ⟨by rw [v10]; exact k10, by omega, by omega⟩
      · exact ⟨by rw [v11]; exact k11, by omega, by omega⟩) (u3.imp id (fun z => by omega)) (fun q z1 z2 z3 => u2 q z1 z2 (by omega)) (fun q x hx => (u5 q x hx).imp id (fun z => by omega)) (by decide) (u1.congr (fun k hk => by
      by_cases e9 : k = n0
      · rw [if_pos e9, if_pos e9]; exact v7.symm
      · rw [if_neg e9, if_neg e9]; rfl)) hnew ⟨by rw [adT_c (σ := σ) (a := a) (b := b) 4 (by decide) (by decide) (by decide)], fun c i z1 z2 z3 => adT_i (by omega) (by omega), fun c i z1 z2 z3 => by rw [adT_c c (by omega) (by omega) (by omega)], fun c i z1 z2 z3 => by rw [adT_c c (by omega) (by omega) (by omega)], adT_c (σ := σ) (a := a) (b := b) 35 (by decide) (by decide) (by decide), fun c i z1 z2 z3 => by rw [adT_c c (by omega) (by omega) (by omega)]⟩
    exact kint (KV hK ((if_neg (fun q => q ⟨q1, q2⟩)).trans (if_neg (by omega))) hH3 (SV_adT hV (by omega) q2 (by omega))) (by omega)
  · refine g_throw hX hR dX9_text_29 (by decide) (by decide) (fun sz9 hsz9 => ?_)
    exact KX hK (c := 2) ((if_neg (fun q => q ⟨q1, q2⟩)).trans (if_pos (by omega))) (by decide) rfl hH hV

def sp_X9_tune (g : hG) : hS := fun as M sz K => ∃ (h : Nat) (A : Nat → Nat → Nat) (ow : Nat → Nat × Nat) (σ : SG) (τ : Nat → Nat → Int) (a : Int) (lo : Int) (hi : Int), as = [.ref h, .int (iZ a), .int (iZ lo), .int (iZ hi)] ∧ HX g.2.2.2.2 h A ow σ τ M ∧ SV σ ∧ inR a ∧ inR lo ∧ inR hi ∧ KO g.2.2.2.2 h (E3 tIAE tISE tISE) (oc_tune σ a lo hi) K
theorem s_X9_tune {l : Launch} {g : hG} (hst : l.stackTraces = false) : Ctr l g mX9_tune (sp_X9_tune g) := by
  refine Ctr.mk9 hst (by decide) ?_ ?_
  · rintro as M sz K ⟨h, A, ow, σ, τ, a, lo, hi, rfl, hH, hV, hra, hrlo, hrhi, hK⟩
    exact ⟨by simp [mX9_tune], cat_ok rfl⟩
  rintro X as M sz K hX rfl rfl hR ⟨h, A, ow, σ, τ, a, lo, hi, rfl, hH, hV, hra, hrlo, hrhi, hK⟩
  show G X 0 [.ref h, .int (iZ a), .int (iZ lo), .int (iZ hi)] [] M sz 0 0
  obtain ⟨n0, n1, n2, n3, ⟨e0, hn0⟩, ⟨e1, hn1⟩, ⟨e2, hn2⟩, ⟨e3, hn3⟩⟩ := hV.nat
  have hob := hH.ob
  have hl0 := hH.l0 e0
  obtain ⟨mo0, ho0⟩ := hl0.o
  have hl1 := hH.l1 e1
  obtain ⟨mo1, ho1⟩ := hl1.o
  have hl2 := hH.l2 e2
  obtain ⟨mo2, ho2⟩ := hl2.o
  have hl3 := hH.l3 e3
  obtain ⟨mo3, ho3⟩ := hl3.o
  refine g_dom hX (fun hdom => ?_)
  have hdd : ∀ (q : Nat) (x : hC), M q = some x → q < sz := fun q x h9 => (hdom q x h9).1
  have haD : X.2.2.2.2.2.2.2.2.2 < sz := by have := hX.aD; have := hdom h _ hob; omega
  have hH0 := hH
  have hbd := hH.bnd hdd haD
  refine g_iload hX dX9_tune_0 rfl ?_
  refine g_const hX dX9_tune_1 ?_
  refine g_const hX dX9_tune_4 ?_
  refine g_cS3 (c2 := 1) (s2 := 6) hX (s_X9_requireRange hst) dX9_tune_7 (by first | exact Nat.le_of_ble_eq_true rfl | simp [cat_rf, Value.category]) ⟨rfl, rfl, by decide, by decide⟩ ?_
  refine ⟨_, _, _, rfl, (by first | assumption | (constructor <;> omega)), (by first | assumption | (constructor <;> omega)), (by first | assumption | (constructor <;> omega)), fun q1 => Kc_v ?_, fun h9 s9 hs9 => Kc_x (gx_out hX hR rfl (by decide) (by decide) (KX hK (c := 1) (if_pos (fun q => h9 q.1)) (by decide) rfl hH hV))⟩
  refine g_iload hX dX9_tune_10 rfl ?_
  refine g_const hX dX9_tune_11 ?_
  refine g_const hX dX9_tune_12 ?_
  refine g_cS3 (c2 := 2) (s2 := 12) hX (s_X9_requireRange hst) dX9_tune_14 (by first | exact Nat.le_of_ble_eq_true rfl | simp [cat_rf, Value.category]) ⟨rfl, rfl, by decide, by decide⟩ ?_
  refine ⟨_, _, _, rfl, (by first | assumption | (constructor <;> omega)), (by first | assumption | (constructor <;> omega)), (by first | assumption | (constructor <;> omega)), fun q2 => Kc_v ?_, fun h9 s9 hs9 => Kc_x (gx_out hX hR rfl (by decide) (by decide) (KX hK (c := 1) (if_pos (fun q => h9 q.2.1)) (by decide) rfl hH hV))⟩
  refine g_iload hX dX9_tune_17 rfl ?_
  refine g_iload hX dX9_tune_18 rfl ?_
  refine g_const hX dX9_tune_19 ?_
  refine g_cS3 (c2 := 3) (s2 := 18) hX (s_X9_requireRange hst) dX9_tune_21 (by first | exact Nat.le_of_ble_eq_true rfl | simp [cat_rf, Value.category]) ⟨rfl, rfl, by decide, by decide⟩ ?_
  refine ⟨_, _, _, rfl, (by first | assumption | (constructor <;> omega)), (by first | assumption | (constructor <;> omega)), (by first | assumption | (constructor <;> omega)), fun q3 => Kc_v ?_, fun h9 s9 hs9 => Kc_x (gx_out hX hR rfl (by decide) (by decide) (KX hK (c := 1) (if_pos (fun q => h9 q.2.2)) (by decide) rfl hH hV))⟩
  refine g_aload hX dX9_tune_24 rfl rfl ?_
  refine g_get hX dX9_tune_25 (by first | assumption | exact hob3 | exact ho9 | exact hob | exact ho0 | exact ho1 | exact ho2 | exact ho3) rfl ?_
  refine g_cV0 (c2 := 3) (s2 := 18) hX (s_Jx4a65c_size_8abf5 hst) dX9_tune_28 (by first | assumption | exact hob3 | exact ho9 | exact hob | exact ho0 | exact ho1 | exact ho2 | exact ho3) (by first | exact Nat.le_of_ble_eq_true rfl | simp [cat_rf, Value.category]) ⟨rfl, rfl, by decide, by decide⟩ ?_
  refine ⟨_, _, _, _, _, rfl, hl1, Kc_i ?_⟩
  refine g_const hX dX9_tune_31 ?_
  refine z_icmp_lt hX dX9_tune_33 (by first | assumption | (constructor <;> omega)) (by first | assumption | (constructor <;> omega)) (fun c33 => ?_) (fun c33 => ?_)
  · refine g_aload hX dX9_tune_46 rfl rfl ?_
    refine g_get hX dX9_tune_47 (by first | assumption | exact hob3 | exact ho9 | exact hob | exact ho0 | exact ho1 | exact ho2 | exact ho3) rfl ?_
    refine o_new hX dX9_tune_50 rfl (by decide) (by decide) (fun M1 hs1 hn1 => ?_)
    have hk1 : ∀ q, q < sz → M1 q = M q := fun q h9 => hn1 q (by omega)
    have hH := hH0.low hdd haD hk1
    have hob := hH.ob
    have hl0 := hH.l0 e0
    obtain ⟨mo0, ho0⟩ := hl0.o
    have hl1 := hH.l1 e1
    obtain ⟨mo1, ho1⟩ := hl1.o
    have hl2 := hH.l2 e2
    obtain ⟨mo2, ho2⟩ := hl2.o
    have hl3 := hH.l3 e3
    obtain ⟨mo3, ho3⟩ := hl3.o
    refine g_dup hX dX9_tune_53 rfl ?_
    refine g_aload hX dX9_tune_54 rfl rfl ?_
    refine g_get hX dX9_tune_55 (by first | assumption | exact hob3 | exact ho9 | exact hob | exact ho0 | exact ho1 | exact ho2 | exact ho3) rfl ?_
    refine g_cV0 (c2 := 4) (s2 := 23) hX (s_Jx4a65c_size_8abf5 hst) dX9_tune_58 (by first | assumption | exact hob3 | exact ho9 | exact hob | exact ho0 | exact ho1 | exact ho2 | exact ho3) (by first | exact Nat.le_of_ble_eq_true rfl | simp [cat_rf, Value.category]) ⟨rfl, rfl, by decide, by decide⟩ ?_
    refine ⟨_, _, _, _, _, rfl, hl1, Kc_i ?_⟩
    refine g_iload hX dX9_tune_61 rfl ?_
    refine g_iload hX dX9_tune_62 rfl ?_
    refine g_iload hX dX9_tune_63 rfl ?_
    refine g_cIN4 (c2 := 8) (s2 := 44) hX (s_X7_init hst) dX9_tune_64 (by first | exact Nat.le_of_ble_eq_true rfl | simp [cat_rf, Value.category]) ⟨rfl, rfl, by decide, by decide⟩ ?_
    refine ⟨_, _, _, _, _, _, _, _, _, _, rfl, hs1, fun M2 t1 t2 t3 t4 t5 t6 => Kc_v ?_⟩
    have hk2 : ∀ q, q < sz → M2 q = M q := fun q h9 => (t6.1 q (by omega) (by omega)).trans (hk1 q h9)
    have hH := hH0.low hdd haD hk2
    have hob := hH.ob
    have hl0 := hH.l0 e0
    obtain ⟨mo0, ho0⟩ := hl0.o
    have hl1 := hH.l1 e1
    obtain ⟨mo1, ho1⟩ := hl1.o
    have hl2 := hH.l2 e2
    obtain ⟨mo2, ho2⟩ := hl2.o
    have hl3 := hH.l3 e3
    obtain ⟨mo3, ho3⟩ := hl3.o
    refine g_cV1 (c2 := 9) (s2 := 244) hX (s_Jx4a65c_add_9ea2d hst) dX9_tune_67 (by first | assumption | exact hob3 | exact ho9 | exact hob | exact ho0 | exact ho1 | exact ho2 | exact ho3) (by first | exact Nat.le_of_ble_eq_true rfl | simp [cat_rf, Value.category]) ⟨rfl, rfl, by decide, by decide⟩ ?_
    refine ⟨_, _, _, _, A 12, rfl, hl1, by omega, cst_7 t1, fun i hi => cst_7 (hH.ux (by omega)), fun e9 => (by have := (hbd.2 1 (by decide)).1; omega), fun i hi e9 => (by rw [← e9, hH.ux (by omega)] at ho1; cases ho1), fun M3 sz3 ea3 u1 u2 u3 u4 u5 => Kc_i ?_⟩
    have hb0 := hbd.2 1 (by decide)
    have hbh : h < sz := hdd _ _ hH0.ob
    have hob3 := (u2 h (fun e9 => by rw [e9, ho1] at hob; cases hob) (fun e9 => by
      rcases (hH.2.2.2 1 (by decide)).2.2 with e8 | e8
      · rw [e9, e8, hH.1] at hob; cases hob
      · rw [← e9, ← hH.2.1, (hH.2.2.1 2 0 (Or.inl ⟨by decide, by decide, rfl⟩)).2] at e8; cases e8) (by omega)).trans hob
    obtain ⟨mo9, ho9⟩ := u1.o
    refine g_pop hX dX9_tune_70 rfl ?_
    refine g_aload hX dX9_tune_71 rfl rfl ?_
    refine g_get hX dX9_tune_72 (by first | assumption | exact hob3 | exact ho9 | exact hob | exact ho0 | exact ho1 | exact ho2 | exact ho3) rfl ?_
    refine g_cV0 (c2 := 9) (s2 := 244) hX (s_Jx4a65c_size_8abf5 hst) dX9_tune_75 (by first | assumption | exact hob3 | exact ho9 | exact hob | exact ho0 | exact ho1 | exact ho2 | exact ho3) (by first | exact Nat.le_of_ble_eq_true rfl | simp [cat_rf, Value.category]) ⟨rfl, rfl, by decide, by decide⟩ ?_
    refine ⟨_, _, _, _, _, rfl, u1, Kc_i ?_⟩
    refine g_const hX dX9_tune_78 ?_
    refine z_isub hX dX9_tune_79 ?_
    refine g_iret hX hR dX9_tune_80 rfl rfl (by decide) (by decide) ?_
    obtain ⟨na, v12, v13, v14, v15, v16⟩ : ∃ na : Nat → Nat, na 12 = sz ∧ na 13 = sz + 4 ∧ na 14 = sz + 1 ∧ na 15 = sz + 2 ∧ na 16 = sz + 3 := ⟨fun k => if k = 13 then sz + 4 else if k = 12 then sz else sz + (k - 13), rfl, rfl, rfl, rfl, rfl⟩
    obtain ⟨kf, k12, k13, k14, k15, k16⟩ : ∃ kf : Nat → Nat, kf (sz) = 12 ∧ kf (sz + 4) = 13 ∧ kf (sz + 1) = 14 ∧ kf (sz + 2) = 15 ∧ kf (sz + 3) = 16 := ⟨fun q => if q = sz + 4 then 13 else if q = sz then 12 else q - sz + 13, by dsimp only; rw [if_neg (by omega), if_pos rfl], by dsimp only; rw [if_pos rfl], by dsimp only; rw [if_neg (by omega), if_neg (by omega)]; omega, by dsimp only; rw [if_neg (by omega), if_neg (by omega)]; omega, by dsimp only; rw [if_neg (by omega), if_neg (by omega)]; omega⟩
    have hb0 := hbd.2 1 (by decide)
    have hne3 : ∀ q, sz ≤ q → q < sz + 1 + 4 → M3 q = M2 q := fun q z1 z2 => u2 q (by omega) (by omega) z2
    have hnt : (σ 1 0 0).toNat = n1 := by omega
    have hvv := adU_v (σ := σ) (a := a) (lo := lo) (hi := hi)
    rw [hnt] at hvv
    have cnt : adU σ a lo hi 1 0 0 = σ 1 0 0 + 1 := hvv.2.2.2
    have hz := hV.u n1
    have hz2 := hz.2.2.2.2.2 (by omega)
    have hz3 := hz.2.2.2.2.1
    have h14 : σ 25 n1 = fun _ => 0 := funext (fun k => ((hz3.2 k).2.2.1 (by omega)).1)
    have h15 : σ 26 n1 = fun _ => 0 := funext (fun k => ((hz3.2 k).2.2.1 (by omega)).2)
    have z13 : exA A na ea3 1 12 16 n1 13 n1 = sz + 4 := (exA_n (by decide) (by decide)).trans v13
    have z14 : exA A na ea3 1 12 16 n1 14 n1 = sz + 1 := (exA_n (by decide) (by decide)).trans v14
    have z15 : exA A na ea3 1 12 16 n1 15 n1 = sz + 2 := (exA_n (by decide) (by decide)).trans v15
    have z16 : exA A na ea3 1 12 16 n1 16 n1 = sz + 3 := (exA_n (by decide) (by decide)).trans v16
    have hnew : ∀ k, 12 ≤ k → k ≤ 16 → M3 (na k) = some (CELL (exA A na ea3 1 12 16 n1) (adU σ a lo hi) τ k n1) := by
      intro k h1 h2
      rcases (show k = 12 ∨ k = 13 ∨ k = 14 ∨ k = 15 ∨ k = 16 by omega) with rfl | rfl | rfl | rfl | rfl
      · rw [v12, hne3 sz (by omega) (by omega), t1]
        unfold CELL
        simp only [hvv.2.1, hvv.2.2.1, z13, z14]
      · rw [v13, hne3 (sz + 4) (by omega) (by omega), show sz + 4 = sz + 1 + 3 from rfl, t5]
        unfold CELL
        simp only [hvv.1, adU_c (σ := σ) (a := a) (lo := lo) (hi := hi) 23 (by decide) (by decide) (by decide) (by decide), hz2.1]
      · rw [v14, hne3 (sz + 1) (by omega) (by omega), t2]
        unfold CELL
        simp only [z15, z16, adU_c (σ := σ) (a := a) (lo := lo) (hi := hi) 24 (by decide) (by decide) (by decide) (by decide), hz2.2]
      · rw [v15, hne3 (sz + 2) (by omega) (by omega), show sz + 2 = sz + 1 + 1 from rfl, t3]
        unfold CELL
        simp only [adU_c (σ := σ) (a := a) (lo := lo) (hi := hi) 25 (by decide) (by decide) (by decide) (by decide), h14]
        rfl
      · rw [v16, hne3 (sz + 3) (by omega) (by omega), show sz + 3 = sz + 1 + 2 from rfl, t4]
        unfold CELL
        simp only [adU_c (σ := σ) (a := a) (lo := lo) (hi := hi) 26 (by decide) (by decide) (by decide) (by decide), h15]
        rfl
    obtain ⟨ow3, hH3⟩ := hH.ext hV (σ' := adU σ a lo hi) (sz := sz) (ea' := ea3) (n := n1) 1 12 16 na kf (by decide) hbd haD (by decide) (by omega) e1 (by rw [cnt, e1]) (fun i h1 h2 => congrFun (congrFun (adU_c i (by omega) (by omega) (by omega) (by omega)) 0) 0) (fun k i hv => by
      unfold VLD at hv ⊢
      rw [cnt, adU_c (σ := σ) (a := a) (lo := lo) (hi := hi) 0 (by decide) (by decide) (by decide) (by decide), adU_c (σ := σ) (a := a) (lo := lo) (hi := hi) 2 (by decide) (by decide) (by decide) (by decide), adU_c (σ := σ) (a := a) (lo := lo) (hi := hi) 3 (by decide) (by decide) (by decide) (by decide)] at hv
      omega) (fun k h1 h2 hv => by unfold VLD at hv; omega) (fun k h1 h2 => by
      rcases (show k = 12 ∨ k = 13 ∨ k = 14 ∨ k = 15 ∨ k = 16 by omega) with rfl | rfl | rfl | rfl | rfl
      · exact ⟨by rw [v12]; exact k12, by omega, by omega⟩
      · exact ⟨by rw [v13]; exact k13, by omega, by omega⟩
      · exact ⟨by rw [v14]; exact k14, by omega, by omega⟩
      · exact ⟨by rw [v15]; exact k15, by omega, by omega⟩
      · exact ⟨by rw [v16]; exact k16, by omega, by omega⟩) (u3.imp id (fun z => by omega)) (fun q z1 z2 z3 => u2 q z1 z2 (by omega)) (fun q x hx => (u5 q x hx).imp id (fun z => by omega)) (by decide) (u1.congr (fun k hk => by
      by_cases e9 : k = n1
      · rw [if_pos e9, if_pos e9]; exact v12.symm
      · rw [if_neg e9, if_neg e9]; rfl)) hnew ⟨by rw [adU_c (σ := σ) (a := a) (lo := lo) (hi := hi) 4 (by decide) (by decide) (by decide) (by decide)], fun c i z1 z2 z3 => by rw [adU_c c (by omega) (by omega) (by omega) (by omega)], fun c i z1 z2 z3 => adU_i (by omega) (by omega), fun c i z1 z2 z3 => by rw [adU_c c (by omega) (by omega) (by omega) (by omega)], adU_c (σ := σ) (a := a) (lo := lo) (hi := hi) 35 (by decide) (by decide) (by decide) (by decide), fun c i z1 z2 z3 => by rw [adU_c c (by omega) (by omega) (by omega) (by omega)]⟩
    exact kint (KV hK ((if_neg (fun q => q ⟨q1, q2, q3⟩)).trans (if_neg (by omega))) hH3 (SV_adU hV (by omega) q2 (by omega) (by omega))) (by omega)
  · refine g_throw hX hR dX9_tune_36 (by decide) (by decide) (fun sz9 hsz9 => ?_)
    exact KX hK (c := 2) ((if_neg (fun q => q ⟨q1, q2, q3⟩)).trans (if_pos (by omega))) (by decide) rfl hH hV
