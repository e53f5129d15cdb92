/-! the calls that only answer -/

def sp_X9_fits (g : hG) : hS := fun as M sz K => ∃ (h : Nat) (A : Nat → Nat → Nat) (ow : Nat → Nat × Nat) (σ : SG) (τ : Nat → Nat → Int) (a : Int) (b : Int), as = [.ref h, .int (iZ a), .int (iZ b)] ∧ HX g.2.2.2.2 h A ow σ τ M ∧ SV σ ∧ inR a ∧ inR b ∧ KO g.2.2.2.2 h (E3 tIOB tIOB tIOB) (oc_fits σ a b) K
theorem s_X9_fits {l : Launch} {g : hG} (hst : l.stackTraces = false) : Ctr l g mX9_fits (sp_X9_fits g) := by
  refine Ctr.mk9 hst (by decide) ?_ ?_
  · rintro as M sz K ⟨h, A, ow, σ, τ, a, b, rfl, hH, hV, hra, hrb, hK⟩
    exact ⟨by simp [mX9_fits], cat_ok rfl⟩
  rintro X as M sz K hX rfl rfl hR ⟨h, A, ow, σ, τ, a, b, rfl, hH, hV, hra, hrb, hK⟩
  show G X 0 [.ref h, .int (iZ a), .int (iZ b)] [] M sz 0 0
  obtain ⟨n0, n1, n2, n3, ⟨e0, hn0⟩, ⟨e1, hn1⟩, ⟨e2, hn2⟩, ⟨e3, hn3⟩⟩ := hV.nat
  have hob := hH.ob
  have hl0 := hH.l0 e0
  obtain ⟨mo0, ho0⟩ := hl0.o
  have hl1 := hH.l1 e1
  obtain ⟨mo1, ho1⟩ := hl1.o
  have hl2 := hH.l2 e2
  obtain ⟨mo2, ho2⟩ := hl2.o
  have hl3 := hH.l3 e3
  obtain ⟨mo3, ho3⟩ := hl3.o
  refine g_aload hX dX9_fits_0 rfl rfl ?_
  refine g_iload hX dX9_fits_1 rfl ?_
  refine g_cV1 (c2 := 1) (s2 := 6) hX (s_X9_textAt hst) dX9_fits_2 (by first | exact hob | exact ho0 | exact ho1 | exact ho2 | exact ho3 | exact hH.tx (by omega) | exact hH.ux (by omega) | exact hH.fx (by omega) | exact hH.sx (by omega) | exact hH.tr (by omega) | exact hH.ur (by omega) | exact (hH.tw (by omega)).1 | exact (hH.uw (by omega)).1 | exact hH.fr (by omega) | exact hH.pl.1) (by first | exact Nat.le_of_ble_eq_true rfl | simp [cat_rf, Value.category]) ⟨rfl, rfl, by decide, by decide⟩ ?_
  refine ⟨_, _, _, _, _, _, rfl, hH, hV, (by assumption), fun qa => Kc_i ?_, fun h9 s9 hs9 => Kc_x (gx_out hX hR rfl (by decide) (by decide) (KX hK (c := 1) (if_pos (fun q => h9 q.1)) (by decide) rfl hH hV))⟩
  obtain ⟨t, rfl⟩ : ∃ t : Nat, a = (t : Int) := ⟨a.toNat, by omega⟩
  simp only [Int.toNat_natCast]
  refine g_aload hX dX9_fits_5 rfl rfl ?_
  refine g_iload hX dX9_fits_6 rfl ?_
  refine g_cV1 (c2 := 2) (s2 := 12) hX (s_X9_tuneAt hst) dX9_fits_7 (by first | exact hob | exact ho0 | exact ho1 | exact ho2 | exact ho3 | exact hH.tx (by omega) | exact hH.ux (by omega) | exact hH.fx (by omega) | exact hH.sx (by omega) | exact hH.tr (by omega) | exact hH.ur (by omega) | exact (hH.tw (by omega)).1 | exact (hH.uw (by omega)).1 | exact hH.fr (by omega) | exact hH.pl.1) (by first | exact Nat.le_of_ble_eq_true rfl | simp [cat_rf, Value.category]) ⟨rfl, rfl, by decide, by decide⟩ ?_
  refine ⟨_, _, _, _, _, _, rfl, hH, hV, (by assumption), fun qb => Kc_i ?_, fun h9 s9 hs9 => Kc_x (gx_out hX hR rfl (by decide) (by decide) (KX hK (c := 1) (if_pos (fun q => h9 q.2)) (by decide) rfl hH hV))⟩
  obtain ⟨u, rfl⟩ : ∃ u : Nat, b = (u : Int) := ⟨b.toNat, by omega⟩
  simp only [Int.toNat_natCast]
  refine g_cS2 (c2 := 2) (s2 := 12) hX (s_X9_timesThrough hst) dX9_fits_10 (by first | exact Nat.le_of_ble_eq_true rfl | simp [cat_rf, Value.category]) ⟨rfl, rfl, by decide, by decide⟩ ?_
  refine ⟨_, _, _, _, _, t, u, rfl, hH, hV, by omega, by omega, Kc_i ?_⟩
  have hft := fit_r σ t u
  refine g_iret hX hR dX9_fits_13 rfl rfl (by decide) (by decide) ?_
  exact KV hK (if_neg (fun q => q ⟨qa, qb⟩)) hH hV

def sp_X9_clashes (g : hG) : hS := fun as M sz K => ∃ (h : Nat) (A : Nat → Nat → Nat) (ow : Nat → Nat × Nat) (σ : SG) (τ : Nat → Nat → Int) (a : Int) (b : Int), as = [.ref h, .int (iZ a), .int (iZ b)] ∧ HX g.2.2.2.2 h A ow σ τ M ∧ SV σ ∧ inR a ∧ inR b ∧ KO g.2.2.2.2 h (E3 tIOB tISE tISE) (oc_clashes σ a b) K
theorem s_X9_clashes {l : Launch} {g : hG} (hst : l.stackTraces = false) : Ctr l g mX9_clashes (sp_X9_clashes g) := by
  refine Ctr.mk9 hst (by decide) ?_ ?_
  · rintro as M sz K ⟨h, A, ow, σ, τ, a, b, rfl, hH, hV, hra, hrb, hK⟩
    exact ⟨by simp [mX9_clashes], cat_ok rfl⟩
  rintro X as M sz K hX rfl rfl hR ⟨h, A, ow, σ, τ, a, b, rfl, hH, hV, hra, hrb, hK⟩
  show G X 0 [.ref h, .int (iZ a), .int (iZ b), U9, U9] [] M sz 0 0
  obtain ⟨n0, n1, n2, n3, ⟨e0, hn0⟩, ⟨e1, hn1⟩, ⟨e2, hn2⟩, ⟨e3, hn3⟩⟩ := hV.nat
  have hob := hH.ob
  have hl0 := hH.l0 e0
  obtain ⟨mo0, ho0⟩ := hl0.o
  have hl1 := hH.l1 e1
  obtain ⟨mo1, ho1⟩ := hl1.o
  have hl2 := hH.l2 e2
  obtain ⟨mo2, ho2⟩ := hl2.o
  have hl3 := hH.l3 e3
  obtain ⟨mo3, ho3⟩ := hl3.o
  refine g_aload hX dX9_clashes_0 rfl rfl ?_
  refine g_iload hX dX9_clashes_1 rfl ?_
  refine g_cV1 (c2 := 1) (s2 := 6) hX (s_X9_textAt hst) dX9_clashes_2 (by first | exact hob | exact ho0 | exact ho1 | exact ho2 | exact ho3 | exact hH.tx (by omega) | exact hH.ux (by omega) | exact hH.fx (by omega) | exact hH.sx (by omega) | exact hH.tr (by omega) | exact hH.ur (by omega) | exact (hH.tw (by omega)).1 | exact (hH.uw (by omega)).1 | exact hH.fr (by omega) | exact hH.pl.1) (by first | exact Nat.le_of_ble_eq_true rfl | simp [cat_rf, Value.category]) ⟨rfl, rfl, by decide, by decide⟩ ?_
  refine ⟨_, _, _, _, _, _, rfl, hH, hV, (by assumption), fun qa => Kc_i ?_, fun h9 s9 hs9 => Kc_x (gx_out hX hR rfl (by decide) (by decide) (KX hK (c := 1) (if_pos (fun q => h9 q.1)) (by decide) rfl hH hV))⟩
  obtain ⟨t, rfl⟩ : ∃ t : Nat, a = (t : Int) := ⟨a.toNat, by omega⟩
  simp only [Int.toNat_natCast]
  refine g_astore hX dX9_clashes_5 rfl ?_
  dsimp only [List.set]
  refine g_aload hX dX9_clashes_6 rfl rfl ?_
  refine g_iload hX dX9_clashes_7 rfl ?_
  refine g_cV1 (c2 := 2) (s2 := 12) hX (s_X9_tuneAt hst) dX9_clashes_8 (by first | exact hob | exact ho0 | exact ho1 | exact ho2 | exact ho3 | exact hH.tx (by omega) | exact hH.ux (by omega) | exact hH.fx (by omega) | exact hH.sx (by omega) | exact hH.tr (by omega) | exact hH.ur (by omega) | exact (hH.tw (by omega)).1 | exact (hH.uw (by omega)).1 | exact hH.fr (by omega) | exact hH.pl.1) (by first | exact Nat.le_of_ble_eq_true rfl | simp [cat_rf, Value.category]) ⟨rfl, rfl, by decide, by decide⟩ ?_
  refine ⟨_, _, _, _, _, _, rfl, hH, hV, (by assumption), fun qb => Kc_i ?_, fun h9 s9 hs9 => Kc_x (gx_out hX hR rfl (by decide) (by decide) (KX hK (c := 1) (if_pos (fun q => h9 q.2)) (by decide) rfl hH hV))⟩
  obtain ⟨u, rfl⟩ : ∃ u : Nat, b = (u : Int) := ⟨b.toNat, by omega⟩
  simp only [Int.toNat_natCast]
  refine g_astore hX dX9_clashes_11 rfl ?_
  dsimp only [List.set]
  refine g_aload hX dX9_clashes_13 rfl rfl ?_
  refine g_aload hX dX9_clashes_14 rfl rfl ?_
  refine g_cS2 (c2 := 2) (s2 := 12) hX (s_X9_timesThrough hst) dX9_clashes_16 (by first | exact Nat.le_of_ble_eq_true rfl | simp [cat_rf, Value.category]) ⟨rfl, rfl, by decide, by decide⟩ ?_
  refine ⟨_, _, _, _, _, t, u, rfl, hH, hV, by omega, by omega, Kc_i ?_⟩
  have hft := fit_r σ t u
  refine z_if_ne hX dX9_clashes_19 (by first | assumption | (constructor <;> omega)) (fun c19 => ?_) (fun c19 => ?_)
  · refine g_aload hX dX9_clashes_32 rfl rfl ?_
    refine g_aload hX dX9_clashes_33 rfl rfl ?_
    refine g_cS2 (c2 := 2) (s2 := 12) hX (s_X9_countClashes hst) dX9_clashes_35 (by first | exact Nat.le_of_ble_eq_true rfl | simp [cat_rf, Value.category]) ⟨rfl, rfl, by decide, by decide⟩ ?_
    refine ⟨_, _, _, _, _, t, u, rfl, hH, hV, by omega, by omega, c19, Kc_i ?_⟩
    refine g_iret hX hR dX9_clashes_38 rfl rfl (by decide) (by decide) ?_
    exact KV hK ((if_neg (fun q => q ⟨qa, qb⟩)).trans (if_neg c19)) hH hV
  · refine g_throw hX hR dX9_clashes_22 (by decide) (by decide) (fun sz9 hsz9 => ?_)
    exact KX hK (c := 2) ((if_neg (fun q => q ⟨qa, qb⟩)).trans (if_pos c19)) (by decide) rfl hH hV

def sp_X9_best (g : hG) : hS := fun as M sz K => ∃ (h : Nat) (A : Nat → Nat → Nat) (ow : Nat → Nat × Nat) (σ : SG) (τ : Nat → Nat → Int) (a : Int), as = [.ref h, .int (iZ a)] ∧ HX g.2.2.2.2 h A ow σ τ M ∧ SV σ ∧ inR a ∧ KO g.2.2.2.2 h (E3 tIOB tIOB tIOB) (oc_best σ a) K
theorem s_X9_best {l : Launch} {g : hG} (hst : l.stackTraces = false) : Ctr l g mX9_best (sp_X9_best g) := by
  refine Ctr.mk9 hst (by decide) ?_ ?_
  · rintro as M sz K ⟨h, A, ow, σ, τ, a, rfl, hH, hV, hra, hK⟩
    exact ⟨by simp [mX9_best], cat_ok rfl⟩
  rintro X as M sz K hX rfl rfl hR ⟨h, A, ow, σ, τ, a, rfl, hH, hV, hra, hK⟩
  show G X 0 [.ref h, .int (iZ a), U9] [] M sz 0 0
  obtain ⟨n0, n1, n2, n3, ⟨e0, hn0⟩, ⟨e1, hn1⟩, ⟨e2, hn2⟩, ⟨e3, hn3⟩⟩ := hV.nat
  have hob := hH.ob
  have hl0 := hH.l0 e0
  obtain ⟨mo0, ho0⟩ := hl0.o
  have hl1 := hH.l1 e1
  obtain ⟨mo1, ho1⟩ := hl1.o
  have hl2 := hH.l2 e2
  obtain ⟨mo2, ho2⟩ := hl2.o
  have hl3 := hH.l3 e3
  obtain ⟨mo3, ho3⟩ := hl3.o
  refine g_aload hX dX9_best_0 rfl rfl ?_
  refine g_aload hX dX9_best_1 rfl rfl ?_
  refine g_iload hX dX9_best_2 rfl ?_
  refine g_cV1 (c2 := 1) (s2 := 6) hX (s_X9_textAt hst) dX9_best_3 (by first | exact hob | exact ho0 | exact ho1 | exact ho2 | exact ho3 | exact hH.tx (by omega) | exact hH.ux (by omega) | exact hH.fx (by omega) | exact hH.sx (by omega) | exact hH.tr (by omega) | exact hH.ur (by omega) | exact (hH.tw (by omega)).1 | exact (hH.uw (by omega)).1 | exact hH.fr (by omega) | exact hH.pl.1) (by first | exact Nat.le_of_ble_eq_true rfl | simp [cat_rf, Value.category]) ⟨rfl, rfl, by decide, by decide⟩ ?_
  refine ⟨_, _, _, _, _, _, rfl, hH, hV, (by assumption), fun qa => Kc_i ?_, fun h9 s9 hs9 => Kc_x (gx_out hX hR rfl (by decide) (by decide) (KX hK (c := 1) (if_pos h9) (by decide) rfl hH hV))⟩
  obtain ⟨t, rfl⟩ : ∃ t : Nat, a = (t : Int) := ⟨a.toNat, by omega⟩
  simp only [Int.toNat_natCast]
  refine g_const hX dX9_best_6 ?_
  refine g_const hX dX9_best_7 ?_
  refine g_cV3 (c2 := 1) (s2 := 6) hX (s_X9_bestTune hst) dX9_best_10 (by first | exact hob | exact ho0 | exact ho1 | exact ho2 | exact ho3 | exact hH.tx (by omega) | exact hH.ux (by omega) | exact hH.fx (by omega) | exact hH.sx (by omega) | exact hH.tr (by omega) | exact hH.ur (by omega) | exact (hH.tw (by omega)).1 | exact (hH.uw (by omega)).1 | exact hH.fr (by omega) | exact hH.pl.1) (by first | exact Nat.le_of_ble_eq_true rfl | simp [cat_rf, Value.category]) ⟨rfl, rfl, by decide, by decide⟩ ?_
  refine ⟨_, _, _, _, _, _, _, _, rfl, hH, hV, by omega, Or.inl rfl, by omega, Kc_i ?_⟩
  rw [show bstZ σ t 0 2399 = bstZ σ t 0 0 from bst_any σ t 2399 0 _]
  rcases bstZ_r hV t 0 0 with hb | ⟨hb0, hb1, hb2⟩
  rotate_left
  obtain ⟨u9, hb⟩ : ∃ u9 : Nat, bstZ σ t 0 0 = (u9 : Int) := ⟨(bstZ σ t 0 0).toNat, by omega⟩
  rw [rfZ_s hb]
  rotate_left
  rw [rfZ_n hb]
  rotate_left
  · refine g_astore hX dX9_best_13 rfl ?_
    dsimp only [List.set]
    refine g_aload hX dX9_best_14 rfl rfl ?_
    refine g_ifnonnull (r := some _) hX dX9_best_15 rfl (fun a15 z15 => ?_) (fun z15 => absurd z15 (by simp))
    refine g_aload hX dX9_best_23 rfl rfl ?_
    refine g_get hX dX9_best_24 (by first | exact hob | exact ho0 | exact ho1 | exact ho2 | exact ho3 | exact hH.tx (by omega) | exact hH.ux (by omega) | exact hH.fx (by omega) | exact hH.sx (by omega) | exact hH.tr (by omega) | exact hH.ur (by omega) | exact (hH.tw (by omega)).1 | exact (hH.uw (by omega)).1 | exact hH.fr (by omega) | exact hH.pl.1) rfl ?_
    refine g_iret hX hR dX9_best_27 rfl rfl (by decide) (by decide) ?_
    exact kint (KV hK (if_neg (fun q => q qa)) hH hV) hb
  · refine g_astore hX dX9_best_13 rfl ?_
    dsimp only [List.set]
    refine g_aload hX dX9_best_14 rfl rfl ?_
    refine g_ifnonnull (r := none) hX dX9_best_15 rfl (fun a15 z15 => absurd z15 (by simp)) (fun z15 => ?_)
    refine g_const hX dX9_best_18 ?_
    refine g_goto hX dX9_best_20 ?_
    refine g_iret hX hR dX9_best_27 rfl rfl (by decide) (by decide) ?_
    exact kint (KV hK (if_neg (fun q => q qa)) hH hV) hb

def sp_X9_alike (g : hG) : hS := fun as M sz K => ∃ (h : Nat) (A : Nat → Nat → Nat) (ow : Nat → Nat × Nat) (σ : SG) (τ : Nat → Nat → Int) (a : Int), as = [.ref h, .int (iZ a)] ∧ HX g.2.2.2.2 h A ow σ τ M ∧ SV σ ∧ inR a ∧ KO g.2.2.2.2 h (E3 tIOB tIOB tIOB) (oc_alike σ a) K
theorem s_X9_alike {l : Launch} {g : hG} (hst : l.stackTraces = false) : Ctr l g mX9_alike (sp_X9_alike g) := by
  refine Ctr.mk9 hst (by decide) ?_ ?_
  · rintro as M sz K ⟨h, A, ow, σ, τ, a, rfl, hH, hV, hra, hK⟩
    exact ⟨by simp [mX9_alike], cat_ok rfl⟩
  rintro X as M sz K hX rfl rfl hR ⟨h, A, ow, σ, τ, a, rfl, hH, hV, hra, hK⟩
  show G X 0 [.ref h, .int (iZ a), U9, U9, U9] [] M sz 0 0
  obtain ⟨n0, n1, n2, n3, ⟨e0, hn0⟩, ⟨e1, hn1⟩, ⟨e2, hn2⟩, ⟨e3, hn3⟩⟩ := hV.nat
  have hob := hH.ob
  have hl0 := hH.l0 e0
  obtain ⟨mo0, ho0⟩ := hl0.o
  have hl1 := hH.l1 e1
  obtain ⟨mo1, ho1⟩ := hl1.o
  have hl2 := hH.l2 e2
  obtain ⟨mo2, ho2⟩ := hl2.o
  have hl3 := hH.l3 e3
  obtain ⟨mo3, ho3⟩ := hl3.o
  refine g_aload hX dX9_alike_0 rfl rfl ?_
  refine g_iload hX dX9_alike_1 rfl ?_
  refine g_cV1 (c2 := 1) (s2 := 6) hX (s_X9_tuneAt hst) dX9_alike_2 (by first | exact hob | exact ho0 | exact ho1 | exact ho2 | exact ho3 | exact hH.tx (by omega) | exact hH.ux (by omega) | exact hH.fx (by omega) | exact hH.sx (by omega) | exact hH.tr (by omega) | exact hH.ur (by omega) | exact (hH.tw (by omega)).1 | exact (hH.uw (by omega)).1 | exact hH.fr (by omega) | exact hH.pl.1) (by first | exact Nat.le_of_ble_eq_true rfl | simp [cat_rf, Value.category]) ⟨rfl, rfl, by decide, by decide⟩ ?_
  refine ⟨_, _, _, _, _, _, rfl, hH, hV, (by assumption), fun qa => Kc_i ?_, fun h9 s9 hs9 => Kc_x (gx_out hX hR rfl (by decide) (by decide) (KX hK (c := 1) (if_pos h9) (by decide) rfl hH hV))⟩
  obtain ⟨u, rfl⟩ : ∃ u : Nat, a = (u : Int) := ⟨a.toNat, by omega⟩
  simp only [Int.toNat_natCast]
  have loop : ∀ (k9 m : Nat), m + k9 = n1 → G X 14 [.ref h, .int (iZ (u : Int)), .ref (A 14 u), .int (iZ (alkK σ u m)), .int (iZ (m : Int))] [] M sz 1 6 := by
    intro k9
    induction k9 with
    | zero =>
      intro m hk
      refine g_iload hX dX9_alike_14 rfl ?_
      refine g_aload hX dX9_alike_16 rfl rfl ?_
      refine g_get hX dX9_alike_17 (by first | exact hob | exact ho0 | exact ho1 | exact ho2 | exact ho3 | exact hH.tx (by omega) | exact hH.ux (by omega) | exact hH.fx (by omega) | exact hH.sx (by omega) | exact hH.tr (by omega) | exact hH.ur (by omega) | exact (hH.tw (by omega)).1 | exact (hH.uw (by omega)).1 | exact hH.fr (by omega) | exact hH.pl.1) rfl ?_
      refine g_cV0 (c2 := 1) (s2 := 6) hX (s_Jx4a65c_size_8abf5 hst) dX9_alike_20 (by first | exact hob | exact ho0 | exact ho1 | exact ho2 | exact ho3 | exact hH.tx (by omega) | exact hH.ux (by omega) | exact hH.fx (by omega) | exact hH.sx (by omega) | exact hH.tr (by omega) | exact hH.ur (by omega) | exact (hH.tw (by omega)).1 | exact (hH.uw (by omega)).1 | exact hH.fr (by omega) | exact hH.pl.1) (by first | exact Nat.le_of_ble_eq_true rfl | simp [cat_rf, Value.category]) ⟨rfl, rfl, by decide, by decide⟩ ?_
      refine ⟨_, _, _, _, _, rfl, hl1, Kc_i ?_⟩
      refine z_icmp_ge hX dX9_alike_23 (by first | assumption | (constructor <;> omega)) (by first | assumption | (constructor <;> omega)) (fun c23 => ?_) (fun c23 => ?_)
      · refine g_iload hX dX9_alike_57 rfl ?_
        refine g_iret hX hR dX9_alike_58 rfl rfl (by decide) (by decide) ?_
        exact kint (KV hK (if_neg (fun q => q qa)) hH hV) (by congr 1; omega)
      · exfalso; omega
    | succ k9 ih =>
      intro m hk
      have hmk := alkK_r σ u m
      refine g_iload hX dX9_alike_14 rfl ?_
      refine g_aload hX dX9_alike_16 rfl rfl ?_
      refine g_get hX dX9_alike_17 (by first | exact hob | exact ho0 | exact ho1 | exact ho2 | exact ho3 | exact hH.tx (by omega) | exact hH.ux (by omega) | exact hH.fx (by omega) | exact hH.sx (by omega) | exact hH.tr (by omega) | exact hH.ur (by omega) | exact (hH.tw (by omega)).1 | exact (hH.uw (by omega)).1 | exact hH.fr (by omega) | exact hH.pl.1) rfl ?_
      refine g_cV0 (c2 := 1) (s2 := 6) hX (s_Jx4a65c_size_8abf5 hst) dX9_alike_20 (by first | exact hob | exact ho0 | exact ho1 | exact ho2 | exact ho3 | exact hH.tx (by omega) | exact hH.ux (by omega) | exact hH.fx (by omega) | exact hH.sx (by omega) | exact hH.tr (by omega) | exact hH.ur (by omega) | exact (hH.tw (by omega)).1 | exact (hH.uw (by omega)).1 | exact hH.fr (by omega) | exact hH.pl.1) (by first | exact Nat.le_of_ble_eq_true rfl | simp [cat_rf, Value.category]) ⟨rfl, rfl, by decide, by decide⟩ ?_
      refine ⟨_, _, _, _, _, rfl, hl1, Kc_i ?_⟩
      refine z_icmp_ge hX dX9_alike_23 (by first | assumption | (constructor <;> omega)) (by first | assumption | (constructor <;> omega)) (fun c23 => ?_) (fun c23 => ?_)
      · exfalso; omega
      · refine g_aload hX dX9_alike_26 rfl rfl ?_
        refine g_get hX dX9_alike_27 (by first | exact hob | exact ho0 | exact ho1 | exact ho2 | exact ho3 | exact hH.tx (by omega) | exact hH.ux (by omega) | exact hH.fx (by omega) | exact hH.sx (by omega) | exact hH.tr (by omega) | exact hH.ur (by omega) | exact (hH.tw (by omega)).1 | exact (hH.uw (by omega)).1 | exact hH.fr (by omega) | exact hH.pl.1) rfl ?_
        refine g_iload hX dX9_alike_30 rfl ?_
        refine g_cV1 (c2 := 1) (s2 := 6) hX (s_Jx4a65c_get_915e3 hst) dX9_alike_32 (by first | exact hob | exact ho0 | exact ho1 | exact ho2 | exact ho3 | exact hH.tx (by omega) | exact hH.ux (by omega) | exact hH.fx (by omega) | exact hH.sx (by omega) | exact hH.tr (by omega) | exact hH.ur (by omega) | exact (hH.tw (by omega)).1 | exact (hH.uw (by omega)).1 | exact hH.fr (by omega) | exact hH.pl.1) (by first | exact Nat.le_of_ble_eq_true rfl | simp [cat_rf, Value.category]) ⟨rfl, rfl, by decide, by decide⟩ ?_
        refine ⟨_, _, _, _, _, _, rfl, hl1, by omega, Kc_i ?_⟩
        simp only [Int.toNat_natCast]
        refine g_cast hX dX9_alike_35 (by first | exact hob | exact ho0 | exact ho1 | exact ho2 | exact ho3 | exact hH.tx (by omega) | exact hH.ux (by omega) | exact hH.fx (by omega) | exact hH.sx (by omega) | exact hH.tr (by omega) | exact hH.ur (by omega) | exact (hH.tw (by omega)).1 | exact (hH.uw (by omega)).1 | exact hH.fr (by omega) | exact hH.pl.1) ?_
        refine g_get hX dX9_alike_38 (by first | exact hob | exact ho0 | exact ho1 | exact ho2 | exact ho3 | exact hH.tx (by omega) | exact hH.ux (by omega) | exact hH.fx (by omega) | exact hH.sx (by omega) | exact hH.tr (by omega) | exact hH.ur (by omega) | exact (hH.tw (by omega)).1 | exact (hH.uw (by omega)).1 | exact hH.fr (by omega) | exact hH.pl.1) rfl ?_
        refine g_aload hX dX9_alike_41 rfl rfl ?_
        refine g_cVN1 (c2 := 1) (s2 := 6) hX (s_X4_hasMetreOf hst) dX9_alike_42 (by first | exact hob | exact ho0 | exact ho1 | exact ho2 | exact ho3 | exact hH.tx (by omega) | exact hH.ux (by omega) | exact hH.fx (by omega) | exact hH.sx (by omega) | exact hH.tr (by omega) | exact hH.ur (by omega) | exact (hH.tw (by omega)).1 | exact (hH.uw (by omega)).1 | exact hH.fr (by omega) | exact hH.pl.1) (by first | exact Nat.le_of_ble_eq_true rfl | simp [cat_rf, Value.category]) ⟨rfl, rfl, by decide, by decide⟩ ?_
        refine ⟨_, _, _, _, _, _, _, _, _, _, _, _, rfl, hH.uw (by omega), hH.uw (by omega), (hV.u m).2.2.2.2.1, (hV.u u).2.2.2.2.1, Kc_i ?_⟩
        refine z_ifb_eq hX dX9_alike_45 (fun c45 => ?_) (fun c45 => ?_)
        · refine z_iinc hX dX9_alike_51 rfl ?_
          dsimp only [List.set]
          refine g_goto hX dX9_alike_54 ?_
          have h9 := ih (m + 1) (by omega)
          rw [show alkK σ u (m + 1) = alkK σ u m + 0 from congrArg (alkK σ u m + ·) (bZ_f c45)] at h9
          rw [Int.add_zero] at h9
          exact h9
        · refine z_iinc hX dX9_alike_48 rfl ?_
          dsimp only [List.set]
          refine z_iinc hX dX9_alike_51 rfl ?_
          dsimp only [List.set]
          refine g_goto hX dX9_alike_54 ?_
          have h9 := ih (m + 1) (by omega)
          rw [show alkK σ u (m + 1) = alkK σ u m + 1 from congrArg (alkK σ u m + ·) (bZ_t c45)] at h9
          exact h9
  refine g_get hX dX9_alike_5 (by first | exact hob | exact ho0 | exact ho1 | exact ho2 | exact ho3 | exact hH.tx (by omega) | exact hH.ux (by omega) | exact hH.fx (by omega) | exact hH.sx (by omega) | exact hH.tr (by omega) | exact hH.ur (by omega) | exact (hH.tw (by omega)).1 | exact (hH.uw (by omega)).1 | exact hH.fr (by omega) | exact hH.pl.1) rfl ?_
  refine g_astore hX dX9_alike_8 rfl ?_
  dsimp only [List.set]
  refine g_const hX dX9_alike_9 ?_
  refine g_istore hX dX9_alike_10 ?_
  dsimp only [List.set]
  refine g_const hX dX9_alike_11 ?_
  refine g_istore hX dX9_alike_12 ?_
  dsimp only [List.set]
  exact loop n1 0 (by omega)

def sp_X9_metres (g : hG) : hS := fun as M sz K => ∃ (h : Nat) (A : Nat → Nat → Nat) (ow : Nat → Nat × Nat) (σ : SG) (τ : Nat → Nat → Int), as = [.ref h] ∧ HX g.2.2.2.2 h A ow σ τ M ∧ SV σ ∧ KO g.2.2.2.2 h (E3 tIAE tIAE tIAE) (oc_metres σ) K
theorem s_X9_metres {l : Launch} {g : hG} (hst : l.stackTraces = false) : Ctr l g mX9_metres (sp_X9_metres g) := by
  refine Ctr.mk9 hst (by decide) ?_ ?_
  · rintro as M sz K ⟨h, A, ow, σ, τ, rfl, hH, hV, hK⟩
    exact ⟨by simp [mX9_metres], cat_ok rfl⟩
  rintro X as M sz K hX rfl rfl hR ⟨h, A, ow, σ, τ, rfl, hH, hV, hK⟩
  show G X 0 [.ref h, U9, U9] [] M sz 0 0
  obtain ⟨n0, n1, n2, n3, ⟨e0, hn0⟩, ⟨e1, hn1⟩, ⟨e2, hn2⟩, ⟨e3, hn3⟩⟩ := hV.nat
  have hob := hH.ob
  have hl0 := hH.l0 e0
  obtain ⟨mo0, ho0⟩ := hl0.o
  have hl1 := hH.l1 e1
  obtain ⟨mo1, ho1⟩ := hl1.o
  have hl2 := hH.l2 e2
  obtain ⟨mo2, ho2⟩ := hl2.o
  have hl3 := hH.l3 e3
  obtain ⟨mo3, ho3⟩ := hl3.o
  have loop : ∀ (k9 m : Nat), m + k9 = n1 → G X 4 [.ref h, .int (iZ (metK σ m)), .int (iZ (m : Int))] [] M sz 0 0 := by
    intro k9
    induction k9 with
    | zero =>
      intro m hk
      refine g_iload hX dX9_metres_4 rfl ?_
      refine g_aload hX dX9_metres_5 rfl rfl ?_
      refine g_get hX dX9_metres_6 (by first | exact hob | exact ho0 | exact ho1 | exact ho2 | exact ho3 | exact hH.tx (by omega) | exact hH.ux (by omega) | exact hH.fx (by omega) | exact hH.sx (by omega) | exact hH.tr (by omega) | exact hH.ur (by omega) | exact (hH.tw (by omega)).1 | exact (hH.uw (by omega)).1 | exact hH.fr (by omega) | exact hH.pl.1) rfl ?_
      refine g_cV0 (c2 := 0) (s2 := 0) hX (s_Jx4a65c_size_8abf5 hst) dX9_metres_9 (by first | exact hob | exact ho0 | exact ho1 | exact ho2 | exact ho3 | exact hH.tx (by omega) | exact hH.ux (by omega) | exact hH.fx (by omega) | exact hH.sx (by omega) | exact hH.tr (by omega) | exact hH.ur (by omega) | exact (hH.tw (by omega)).1 | exact (hH.uw (by omega)).1 | exact hH.fr (by omega) | exact hH.pl.1) (by first | exact Nat.le_of_ble_eq_true rfl | simp [cat_rf, Value.category]) ⟨rfl, rfl, by decide, by decide⟩ ?_
      refine ⟨_, _, _, _, _, rfl, hl1, Kc_i ?_⟩
      refine z_icmp_ge hX dX9_metres_12 (by first | assumption | (constructor <;> omega)) (by first | assumption | (constructor <;> omega)) (fun c12 => ?_) (fun c12 => ?_)
      · refine g_iload hX dX9_metres_42 rfl ?_
        refine g_iret hX hR dX9_metres_43 rfl rfl (by decide) (by decide) ?_
        exact kint (KV hK rfl hH hV) (by congr 1; omega)
      · exfalso; omega
    | succ k9 ih =>
      intro m hk
      have hmk := metK_r σ m
      refine g_iload hX dX9_metres_4 rfl ?_
      refine g_aload hX dX9_metres_5 rfl rfl ?_
      refine g_get hX dX9_metres_6 (by first | exact hob | exact ho0 | exact ho1 | exact ho2 | exact ho3 | exact hH.tx (by omega) | exact hH.ux (by omega) | exact hH.fx (by omega) | exact hH.sx (by omega) | exact hH.tr (by omega) | exact hH.ur (by omega) | exact (hH.tw (by omega)).1 | exact (hH.uw (by omega)).1 | exact hH.fr (by omega) | exact hH.pl.1) rfl ?_
      refine g_cV0 (c2 := 0) (s2 := 0) hX (s_Jx4a65c_size_8abf5 hst) dX9_metres_9 (by first | exact hob | exact ho0 | exact ho1 | exact ho2 | exact ho3 | exact hH.tx (by omega) | exact hH.ux (by omega) | exact hH.fx (by omega) | exact hH.sx (by omega) | exact hH.tr (by omega) | exact hH.ur (by omega) | exact (hH.tw (by omega)).1 | exact (hH.uw (by omega)).1 | exact hH.fr (by omega) | exact hH.pl.1) (by first | exact Nat.le_of_ble_eq_true rfl | simp [cat_rf, Value.category]) ⟨rfl, rfl, by decide, by decide⟩ ?_
      refine ⟨_, _, _, _, _, rfl, hl1, Kc_i ?_⟩
      refine z_icmp_ge hX dX9_metres_12 (by first | assumption | (constructor <;> omega)) (by first | assumption | (constructor <;> omega)) (fun c12 => ?_) (fun c12 => ?_)
      · exfalso; omega
      · refine g_aload hX dX9_metres_15 rfl rfl ?_
        refine g_aload hX dX9_metres_16 rfl rfl ?_
        refine g_get hX dX9_metres_17 (by first | exact hob | exact ho0 | exact ho1 | exact ho2 | exact ho3 | exact hH.tx (by omega) | exact hH.ux (by omega) | exact hH.fx (by omega) | exact hH.sx (by omega) | exact hH.tr (by omega) | exact hH.ur (by omega) | exact (hH.tw (by omega)).1 | exact (hH.uw (by omega)).1 | exact hH.fr (by omega) | exact hH.pl.1) rfl ?_
        refine g_iload hX dX9_metres_20 rfl ?_
        refine g_cV1 (c2 := 0) (s2 := 0) hX (s_Jx4a65c_get_915e3 hst) dX9_metres_21 (by first | exact hob | exact ho0 | exact ho1 | exact ho2 | exact ho3 | exact hH.tx (by omega) | exact hH.ux (by omega) | exact hH.fx (by omega) | exact hH.sx (by omega) | exact hH.tr (by omega) | exact hH.ur (by omega) | exact (hH.tw (by omega)).1 | exact (hH.uw (by omega)).1 | exact hH.fr (by omega) | exact hH.pl.1) (by first | exact Nat.le_of_ble_eq_true rfl | simp [cat_rf, Value.category]) ⟨rfl, rfl, by decide, by decide⟩ ?_
        refine ⟨_, _, _, _, _, _, rfl, hl1, by omega, Kc_i ?_⟩
        simp only [Int.toNat_natCast]
        refine g_cast hX dX9_metres_24 (by first | exact hob | exact ho0 | exact ho1 | exact ho2 | exact ho3 | exact hH.tx (by omega) | exact hH.ux (by omega) | exact hH.fx (by omega) | exact hH.sx (by omega) | exact hH.tr (by omega) | exact hH.ur (by omega) | exact (hH.tw (by omega)).1 | exact (hH.uw (by omega)).1 | exact hH.fr (by omega) | exact hH.pl.1) ?_
        refine g_cV1 (c2 := 0) (s2 := 0) hX (s_X9_isFirstOfItsMetre hst) dX9_metres_27 (by first | exact hob | exact ho0 | exact ho1 | exact ho2 | exact ho3 | exact hH.tx (by omega) | exact hH.ux (by omega) | exact hH.fx (by omega) | exact hH.sx (by omega) | exact hH.tr (by omega) | exact hH.ur (by omega) | exact (hH.tw (by omega)).1 | exact (hH.uw (by omega)).1 | exact hH.fr (by omega) | exact hH.pl.1) (by first | exact Nat.le_of_ble_eq_true rfl | simp [cat_rf, Value.category]) ⟨rfl, rfl, by decide, by decide⟩ ?_
        refine ⟨_, _, _, _, _, _, rfl, hH, hV, by omega, Kc_i ?_⟩
        refine z_ifb_eq hX dX9_metres_30 (fun c30 => ?_) (fun c30 => ?_)
        · refine z_iinc hX dX9_metres_36 rfl ?_
          dsimp only [List.set]
          refine g_goto hX dX9_metres_39 ?_
          have h9 := ih (m + 1) (by omega)
          rw [show metK σ (m + 1) = metK σ m + 0 from congrArg (metK σ m + ·) (bZ_f c30)] at h9
          rw [Int.add_zero] at h9
          exact h9
        · refine z_iinc hX dX9_metres_33 rfl ?_
          dsimp only [List.set]
          refine z_iinc hX dX9_metres_36 rfl ?_
          dsimp only [List.set]
          refine g_goto hX dX9_metres_39 ?_
          have h9 := ih (m + 1) (by omega)
          rw [show metK σ (m + 1) = metK σ m + 1 from congrArg (metK σ m + ·) (bZ_t c30)] at h9
          exact h9
  refine g_const hX dX9_metres_0 ?_
  refine g_istore hX dX9_metres_1 ?_
  dsimp only [List.set]
  refine g_const hX dX9_metres_2 ?_
  refine g_istore hX dX9_metres_3 ?_
  dsimp only [List.set]
  exact loop n1 0 (by omega)

def sp_X9_shift (g : hG) : hS := fun as M sz K => ∃ (h : Nat) (A : Nat → Nat → Nat) (ow : Nat → Nat × Nat) (σ : SG) (τ : Nat → Nat → Int) (a : Int) (lo : Int) (hi : Int), as = [.ref h, .int (iZ a), .int (iZ lo), .int (iZ hi)] ∧ HX g.2.2.2.2 h A ow σ τ M ∧ SV σ ∧ inR a ∧ inR lo ∧ inR hi ∧ KO g.2.2.2.2 h (E3 tIOB tIAE tIAE) (oc_shift σ a lo hi) K
theorem s_X9_shift {l : Launch} {g : hG} (hst : l.stackTraces = false) : Ctr l g mX9_shift (sp_X9_shift g) := by
  refine Ctr.mk9 hst (by decide) ?_ ?_
  · rintro as M sz K ⟨h, A, ow, σ, τ, a, lo, hi, rfl, hH, hV, hra, hrlo, hrhi, hK⟩
    exact ⟨by simp [mX9_shift], cat_ok rfl⟩
  rintro X as M sz K hX rfl rfl hR ⟨h, A, ow, σ, τ, a, lo, hi, rfl, hH, hV, hra, hrlo, hrhi, hK⟩
  show G X 0 [.ref h, .int (iZ a), .int (iZ lo), .int (iZ hi), U9, U9, U9] [] M sz 0 0
  obtain ⟨n0, n1, n2, n3, ⟨e0, hn0⟩, ⟨e1, hn1⟩, ⟨e2, hn2⟩, ⟨e3, hn3⟩⟩ := hV.nat
  have hob := hH.ob
  have hl0 := hH.l0 e0
  obtain ⟨mo0, ho0⟩ := hl0.o
  have hl1 := hH.l1 e1
  obtain ⟨mo1, ho1⟩ := hl1.o
  have hl2 := hH.l2 e2
  obtain ⟨mo2, ho2⟩ := hl2.o
  have hl3 := hH.l3 e3
  obtain ⟨mo3, ho3⟩ := hl3.o
  refine g_aload hX dX9_shift_0 rfl rfl ?_
  refine g_iload hX dX9_shift_1 rfl ?_
  refine g_cV1 (c2 := 1) (s2 := 6) hX (s_X9_tuneAt hst) dX9_shift_2 (by first | exact hob | exact ho0 | exact ho1 | exact ho2 | exact ho3 | exact hH.tx (by omega) | exact hH.ux (by omega) | exact hH.fx (by omega) | exact hH.sx (by omega) | exact hH.tr (by omega) | exact hH.ur (by omega) | exact (hH.tw (by omega)).1 | exact (hH.uw (by omega)).1 | exact hH.fr (by omega) | exact hH.pl.1) (by first | exact Nat.le_of_ble_eq_true rfl | simp [cat_rf, Value.category]) ⟨rfl, rfl, by decide, by decide⟩ ?_
  refine ⟨_, _, _, _, _, _, rfl, hH, hV, (by assumption), fun qa => Kc_i ?_, fun h9 s9 hs9 => Kc_x (gx_out hX hR rfl (by decide) (by decide) (KX hK (c := 1) (if_pos h9) (by decide) rfl hH hV))⟩
  obtain ⟨u, rfl⟩ : ∃ u : Nat, a = (u : Int) := ⟨a.toNat, by omega⟩
  simp only [Int.toNat_natCast]
  have hu9 := hV.u u
  refine g_astore hX dX9_shift_5 rfl ?_
  dsimp only [List.set]
  refine g_iload hX dX9_shift_7 rfl ?_
  refine g_const hX dX9_shift_8 ?_
  refine g_const hX dX9_shift_9 ?_
  refine g_cS3 (c2 := 2) (s2 := 12) hX (s_X9_requireRange hst) dX9_shift_11 (by first | exact Nat.le_of_ble_eq_true rfl | simp [cat_rf, Value.category]) ⟨rfl, rfl, by decide, by decide⟩ ?_
  refine ⟨_, _, _, rfl, (by first | assumption | (constructor <;> omega)), (by first | assumption | (constructor <;> omega)), (by first | assumption | (constructor <;> omega)), fun q1 => Kc_v ?_, fun h9 s9 hs9 => Kc_x (gx_out hX hR rfl (by decide) (by decide) (KX hK (c := 2) ((if_neg (fun q => q qa)).trans (if_pos (fun q => h9 q.1))) (by decide) rfl hH hV))⟩
  refine g_iload hX dX9_shift_14 rfl ?_
  refine g_iload hX dX9_shift_15 rfl ?_
  refine g_const hX dX9_shift_16 ?_
  refine g_cS3 (c2 := 3) (s2 := 18) hX (s_X9_requireRange hst) dX9_shift_18 (by first | exact Nat.le_of_ble_eq_true rfl | simp [cat_rf, Value.category]) ⟨rfl, rfl, by decide, by decide⟩ ?_
  refine ⟨_, _, _, rfl, (by first | assumption | (constructor <;> omega)), (by first | assumption | (constructor <;> omega)), (by first | assumption | (constructor <;> omega)), fun q2 => Kc_v ?_, fun h9 s9 hs9 => Kc_x (gx_out hX hR rfl (by decide) (by decide) (KX hK (c := 2) ((if_neg (fun q => q qa)).trans (if_pos (fun q => h9 q.2))) (by decide) rfl hH hV))⟩
  refine g_iload hX dX9_shift_21 rfl ?_
  refine g_aload hX dX9_shift_22 rfl rfl ?_
  refine g_get hX dX9_shift_24 (by first | exact hob | exact ho0 | exact ho1 | exact ho2 | exact ho3 | exact hH.tx (by omega) | exact hH.ux (by omega) | exact hH.fx (by omega) | exact hH.sx (by omega) | exact hH.tr (by omega) | exact hH.ur (by omega) | exact (hH.tw (by omega)).1 | exact (hH.uw (by omega)).1 | exact hH.fr (by omega) | exact hH.pl.1) rfl ?_
  refine z_isub hX dX9_shift_27 ?_
  refine g_istore hX dX9_shift_28 ?_
  dsimp only [List.set]
  refine g_iload hX dX9_shift_30 rfl ?_
  refine g_aload hX dX9_shift_31 rfl rfl ?_
  refine g_get hX dX9_shift_33 (by first | exact hob | exact ho0 | exact ho1 | exact ho2 | exact ho3 | exact hH.tx (by omega) | exact hH.ux (by omega) | exact hH.fx (by omega) | exact hH.sx (by omega) | exact hH.tr (by omega) | exact hH.ur (by omega) | exact (hH.tw (by omega)).1 | exact (hH.uw (by omega)).1 | exact hH.fr (by omega) | exact hH.pl.1) rfl ?_
  refine z_isub hX dX9_shift_36 ?_
  refine g_istore hX dX9_shift_37 ?_
  dsimp only [List.set]
  refine g_iload hX dX9_shift_39 rfl ?_
  refine g_iload hX dX9_shift_41 rfl ?_
  refine z_icmp_le hX dX9_shift_43 (by first | assumption | (constructor <;> omega)) (by first | assumption | (constructor <;> omega)) (fun c43 => ?_) (fun c43 => ?_)
  · refine g_iload hX dX9_shift_49 rfl ?_
    refine z_if_le hX dX9_shift_51 (by first | assumption | (constructor <;> omega)) (fun c51 => ?_) (fun c51 => ?_)
    · refine g_iload hX dX9_shift_59 rfl ?_
      refine g_const hX dX9_shift_61 ?_
      refine z_mmin hX dmX9_shift_62 (by constructor <;> omega) (by constructor <;> omega) (by first | exact Nat.le_of_ble_eq_true rfl | simp [cat_rf, Value.category]) (by decide) (by decide) ?_
      refine g_iret hX hR dX9_shift_65 rfl rfl (by decide) (by decide) ?_
      exact kint (KV hK ((if_neg (fun q => q qa)).trans (if_neg (fun q => q ⟨q1, q2⟩))) hH hV) (by unfold shfZ; simp only [Int.toNat_natCast]; (repeat' split) <;> omega)
    · refine g_iload hX dX9_shift_54 rfl ?_
      refine g_goto hX dX9_shift_56 ?_
      refine g_iret hX hR dX9_shift_65 rfl rfl (by decide) (by decide) ?_
      exact kint (KV hK ((if_neg (fun q => q qa)).trans (if_neg (fun q => q ⟨q1, q2⟩))) hH hV) (by unfold shfZ; simp only [Int.toNat_natCast]; (repeat' split) <;> omega)
  · refine g_const hX dX9_shift_46 ?_
    refine g_iret hX hR dX9_shift_48 rfl rfl (by decide) (by decide) ?_
    exact kint (KV hK ((if_neg (fun q => q qa)).trans (if_neg (fun q => q ⟨q1, q2⟩))) hH hV) (by unfold shfZ; simp only [Int.toNat_natCast]; (repeat' split) <;> omega)

def sp_X9_easter (g : hG) : hS := fun as M sz K => ∃ (h : Nat) (A : Nat → Nat → Nat) (ow : Nat → Nat × Nat) (σ : SG) (τ : Nat → Nat → Int) (y : Int), as = [.ref h, .int (iZ y)] ∧ HX g.2.2.2.2 h A ow σ τ M ∧ SV σ ∧ inR y ∧ KO g.2.2.2.2 h (E3 tIAE tIAE tIAE) (oc_easter σ y) K
theorem s_X9_easter {l : Launch} {g : hG} (hst : l.stackTraces = false) : Ctr l g mX9_easter (sp_X9_easter g) := by
  refine Ctr.mk9 hst (by decide) ?_ ?_
  · rintro as M sz K ⟨h, A, ow, σ, τ, y, rfl, hH, hV, hry, hK⟩
    exact ⟨by simp [mX9_easter], cat_ok rfl⟩
  rintro X as M sz K hX rfl rfl hR ⟨h, A, ow, σ, τ, y, rfl, hH, hV, hry, hK⟩
  show G X 0 [.ref h, .int (iZ y), U9] [] M sz 0 0
  obtain ⟨n0, n1, n2, n3, ⟨e0, hn0⟩, ⟨e1, hn1⟩, ⟨e2, hn2⟩, ⟨e3, hn3⟩⟩ := hV.nat
  refine g_iload hX dX9_easter_0 rfl ?_
  refine g_const hX dX9_easter_1 ?_
  refine g_const hX dX9_easter_4 ?_
  refine g_cS3 (c2 := 1) (s2 := 6) hX (s_X9_requireRange hst) dX9_easter_7 (by first | exact Nat.le_of_ble_eq_true rfl | simp [cat_rf, Value.category]) ⟨rfl, rfl, by decide, by decide⟩ ?_
  refine ⟨_, _, _, rfl, (by first | assumption | (constructor <;> omega)), (by first | assumption | (constructor <;> omega)), (by first | assumption | (constructor <;> omega)), fun q1 => Kc_v ?_, fun h9 s9 hs9 => Kc_x (gx_out hX hR rfl (by decide) (by decide) (KX hK (c := 1) (if_pos h9) (by decide) rfl hH hV))⟩
  refine g_iload hX dX9_easter_10 rfl ?_
  refine g_cSN1 (c2 := 1) (s2 := 6) hX (s_X0_easterAsDayOfMarch hst) dX9_easter_11 (by first | exact Nat.le_of_ble_eq_true rfl | simp [cat_rf, Value.category]) ⟨rfl, rfl, by decide, by decide⟩ ?_
  refine ⟨_, rfl, by omega, Kc_i ?_⟩
  have hea := east_r y
  refine g_istore hX dX9_easter_14 ?_
  dsimp only [List.set]
  refine g_iload hX dX9_easter_15 rfl ?_
  refine g_const hX dX9_easter_16 ?_
  refine z_icmp_le hX dX9_easter_18 (by first | assumption | (constructor <;> omega)) (by first | assumption | (constructor <;> omega)) (fun c18 => ?_) (fun c18 => ?_)
  · refine g_const hX dX9_easter_32 ?_
    refine g_iload hX dX9_easter_35 rfl ?_
    refine z_iadd hX dX9_easter_36 ?_
    refine g_iret hX hR dX9_easter_37 rfl rfl (by decide) (by decide) ?_
    exact kint (KV hK (if_neg (fun q => q q1)) hH hV) (by unfold eastMDZ; split <;> omega)
  · refine g_const hX dX9_easter_21 ?_
    refine g_iload hX dX9_easter_24 rfl ?_
    refine z_iadd hX dX9_easter_25 ?_
    refine g_const hX dX9_easter_26 ?_
    refine z_isub hX dX9_easter_28 ?_
    refine g_goto hX dX9_easter_29 ?_
    refine g_iret hX hR dX9_easter_37 rfl rfl (by decide) (by decide) ?_
    exact kint (KV hK (if_neg (fun q => q q1)) hH hV) (by unfold eastMDZ; split <;> omega)

def sp_X9_easterAnew (g : hG) : hS := fun as M sz K => ∃ (h : Nat) (A : Nat → Nat → Nat) (ow : Nat → Nat × Nat) (σ : SG) (τ : Nat → Nat → Int) (y : Int), as = [.ref h, .int (iZ y)] ∧ HX g.2.2.2.2 h A ow σ τ M ∧ SV σ ∧ inR y ∧ KO g.2.2.2.2 h (E3 tIAE tIAE tIAE) (oc_easter σ y) K
theorem s_X9_easterAnew {l : Launch} {g : hG} (hst : l.stackTraces = false) : Ctr l g mX9_easterAnew (sp_X9_easterAnew g) := by
  refine Ctr.mk9 hst (by decide) ?_ ?_
  · rintro as M sz K ⟨h, A, ow, σ, τ, y, rfl, hH, hV, hry, hK⟩
    exact ⟨by simp [mX9_easterAnew], cat_ok rfl⟩
  rintro X as M sz K hX rfl rfl hR ⟨h, A, ow, σ, τ, y, rfl, hH, hV, hry, hK⟩
  show G X 0 [.ref h, .int (iZ y)] [] M sz 0 0
  obtain ⟨n0, n1, n2, n3, ⟨e0, hn0⟩, ⟨e1, hn1⟩, ⟨e2, hn2⟩, ⟨e3, hn3⟩⟩ := hV.nat
  refine g_iload hX dX9_easterAnew_0 rfl ?_
  refine g_const hX dX9_easterAnew_1 ?_
  refine g_const hX dX9_easterAnew_4 ?_
  refine g_cS3 (c2 := 1) (s2 := 6) hX (s_X9_requireRange hst) dX9_easterAnew_7 (by first | exact Nat.le_of_ble_eq_true rfl | simp [cat_rf, Value.category]) ⟨rfl, rfl, by decide, by decide⟩ ?_
  refine ⟨_, _, _, rfl, (by first | assumption | (constructor <;> omega)), (by first | assumption | (constructor <;> omega)), (by first | assumption | (constructor <;> omega)), fun q1 => Kc_v ?_, fun h9 s9 hs9 => Kc_x (gx_out hX hR rfl (by decide) (by decide) (KX hK (c := 1) (if_pos h9) (by decide) rfl hH hV))⟩
  refine g_iload hX dX9_easterAnew_10 rfl ?_
  refine g_cSN1 (c2 := 1) (s2 := 6) hX (s_X0_easterByRests hst) dX9_easterAnew_11 (by first | exact Nat.le_of_ble_eq_true rfl | simp [cat_rf, Value.category]) ⟨rfl, rfl, by decide, by decide⟩ ?_
  refine ⟨_, rfl, by omega, Kc_i ?_⟩
  refine g_iret hX hR dX9_easterAnew_14 rfl rfl (by decide) (by decide) ?_
  exact kint (KV hK (if_neg (fun q => q q1)) hH hV) (east_both q1.1 q1.2).symm

def sp_X9_weekday (g : hG) : hS := fun as M sz K => ∃ (h : Nat) (A : Nat → Nat → Nat) (ow : Nat → Nat × Nat) (σ : SG) (τ : Nat → Nat → Int) (y : Int) (m : Int) (d : Int), as = [.ref h, .int (iZ y), .int (iZ m), .int (iZ d)] ∧ HX g.2.2.2.2 h A ow σ τ M ∧ SV σ ∧ inR y ∧ inR m ∧ inR d ∧ KO g.2.2.2.2 h (E3 tIAE tIAE tIAE) (oc_weekday σ y m d) K
theorem s_X9_weekday {l : Launch} {g : hG} (hst : l.stackTraces = false) : Ctr l g mX9_weekday (sp_X9_weekday g) := by
  refine Ctr.mk9 hst (by decide) ?_ ?_
  · rintro as M sz K ⟨h, A, ow, σ, τ, y, m, d, rfl, hH, hV, hry, hrm, hrd, hK⟩
    exact ⟨by simp [mX9_weekday], cat_ok rfl⟩
  rintro X as M sz K hX rfl rfl hR ⟨h, A, ow, σ, τ, y, m, d, rfl, hH, hV, hry, hrm, hrd, hK⟩
  show G X 0 [.ref h, .int (iZ y), .int (iZ m), .int (iZ d)] [] M sz 0 0
  obtain ⟨n0, n1, n2, n3, ⟨e0, hn0⟩, ⟨e1, hn1⟩, ⟨e2, hn2⟩, ⟨e3, hn3⟩⟩ := hV.nat
  refine g_iload hX dX9_weekday_0 rfl ?_
  refine g_iload hX dX9_weekday_1 rfl ?_
  refine g_iload hX dX9_weekday_2 rfl ?_
  refine g_cS3 (c2 := 3) (s2 := 18) hX (s_X9_requireDay hst) dX9_weekday_3 (by first | exact Nat.le_of_ble_eq_true rfl | simp [cat_rf, Value.category]) ⟨rfl, rfl, by decide, by decide⟩ ?_
  refine ⟨_, _, _, rfl, (by first | assumption | (constructor <;> omega)), (by first | assumption | (constructor <;> omega)), (by first | assumption | (constructor <;> omega)), fun qd => Kc_v ?_, fun h9 s9 hs9 => Kc_x (gx_out hX hR rfl (by decide) (by decide) (KX hK (c := 1) (if_pos h9) (by decide) rfl hH hV))⟩
  obtain ⟨qy, qm, qd1, qd2⟩ := id qd
  have hml := mlen_r y m
  refine g_iload hX dX9_weekday_6 rfl ?_
  refine g_iload hX dX9_weekday_7 rfl ?_
  refine g_iload hX dX9_weekday_8 rfl ?_
  refine g_iload hX dX9_weekday_9 rfl ?_
  refine g_cSN3 (c2 := 3) (s2 := 18) hX (s_X0_dayOfYear hst) dX9_weekday_10 (by first | exact Nat.le_of_ble_eq_true rfl | simp [cat_rf, Value.category]) ⟨rfl, rfl, by decide, by decide⟩ ?_
  refine ⟨_, _, _, rfl, by omega, by omega, by omega, Kc_i ?_⟩
  have hpl := place_r (y := y) (m := m) (d := d) (by omega)
  refine g_cSN2 (c2 := 3) (s2 := 18) hX (s_X0_dayOfWeek hst) dX9_weekday_13 (by first | exact Nat.le_of_ble_eq_true rfl | simp [cat_rf, Value.category]) ⟨rfl, rfl, by decide, by decide⟩ ?_
  refine ⟨_, _, rfl, by omega, by omega, Kc_i ?_⟩
  refine g_iret hX hR dX9_weekday_16 rfl rfl (by decide) (by decide) ?_
  exact KV hK (if_neg (fun q => q qd)) hH hV

def sp_X9_sung (g : hG) : hS := fun as M sz K => ∃ (h : Nat) (A : Nat → Nat → Nat) (ow : Nat → Nat × Nat) (σ : SG) (τ : Nat → Nat → Int) (a : Int), as = [.ref h, .int (iZ a)] ∧ HX g.2.2.2.2 h A ow σ τ M ∧ SV σ ∧ inR a ∧ KO g.2.2.2.2 h (E3 tIOB tIOB tIOB) (oc_sung σ a) K
theorem s_X9_sung {l : Launch} {g : hG} (hst : l.stackTraces = false) : Ctr l g mX9_sung (sp_X9_sung g) := by
  refine Ctr.mk9 hst (by decide) ?_ ?_
  · rintro as M sz K ⟨h, A, ow, σ, τ, a, rfl, hH, hV, hra, hK⟩
    exact ⟨by simp [mX9_sung], cat_ok rfl⟩
  rintro X as M sz K hX rfl rfl hR ⟨h, A, ow, σ, τ, a, rfl, hH, hV, hra, hK⟩
  show G X 0 [.ref h, .int (iZ a)] [] M sz 0 0
  obtain ⟨n0, n1, n2, n3, ⟨e0, hn0⟩, ⟨e1, hn1⟩, ⟨e2, hn2⟩, ⟨e3, hn3⟩⟩ := hV.nat
  have hob := hH.ob
  have hl0 := hH.l0 e0
  obtain ⟨mo0, ho0⟩ := hl0.o
  have hl1 := hH.l1 e1
  obtain ⟨mo1, ho1⟩ := hl1.o
  have hl2 := hH.l2 e2
  obtain ⟨mo2, ho2⟩ := hl2.o
  have hl3 := hH.l3 e3
  obtain ⟨mo3, ho3⟩ := hl3.o
  refine g_aload hX dX9_sung_0 rfl rfl ?_
  refine g_aload hX dX9_sung_1 rfl rfl ?_
  refine g_iload hX dX9_sung_2 rfl ?_
  refine g_cV1 (c2 := 1) (s2 := 6) hX (s_X9_textAt hst) dX9_sung_3 (by first | exact hob | exact ho0 | exact ho1 | exact ho2 | exact ho3 | exact hH.tx (by omega) | exact hH.ux (by omega) | exact hH.fx (by omega) | exact hH.sx (by omega) | exact hH.tr (by omega) | exact hH.ur (by omega) | exact (hH.tw (by omega)).1 | exact (hH.uw (by omega)).1 | exact hH.fr (by omega) | exact hH.pl.1) (by first | exact Nat.le_of_ble_eq_true rfl | simp [cat_rf, Value.category]) ⟨rfl, rfl, by decide, by decide⟩ ?_
  refine ⟨_, _, _, _, _, _, rfl, hH, hV, (by assumption), fun qa => Kc_i ?_, fun h9 s9 hs9 => Kc_x (gx_out hX hR rfl (by decide) (by decide) (KX hK (c := 1) (if_pos h9) (by decide) rfl hH hV))⟩
  obtain ⟨t, rfl⟩ : ∃ t : Nat, a = (t : Int) := ⟨a.toNat, by omega⟩
  simp only [Int.toNat_natCast]
  refine g_cV1 (c2 := 1) (s2 := 6) hX (s_X9_countServices hst) dX9_sung_6 (by first | exact hob | exact ho0 | exact ho1 | exact ho2 | exact ho3 | exact hH.tx (by omega) | exact hH.ux (by omega) | exact hH.fx (by omega) | exact hH.sx (by omega) | exact hH.tr (by omega) | exact hH.ur (by omega) | exact (hH.tw (by omega)).1 | exact (hH.uw (by omega)).1 | exact hH.fr (by omega) | exact hH.pl.1) (by first | exact Nat.le_of_ble_eq_true rfl | simp [cat_rf, Value.category]) ⟨rfl, rfl, by decide, by decide⟩ ?_
  refine ⟨_, _, _, _, _, _, rfl, hH, hV, by omega, Kc_i ?_⟩
  refine g_iret hX hR dX9_sung_9 rfl rfl (by decide) (by decide) ?_
  exact KV hK (if_neg (fun q => q qa)) hH hV

theorem dtX9_service_24 : decode mX9_service.2.1 24 = .ok (.tableswitch (93) 0 4 #[36, 44, 52, 57, 62], 36) := by decide +kernel

def sp_X9_service (g : hG) : hS := fun as M sz K => ∃ (h : Nat) (A : Nat → Nat → Nat) (ow : Nat → Nat × Nat) (σ : SG) (τ : Nat → Nat → Int) (a : Int) (b : Int), as = [.ref h, .int (iZ a), .int (iZ b)] ∧ HX g.2.2.2.2 h A ow σ τ M ∧ SV σ ∧ inR a ∧ inR b ∧ KO g.2.2.2.2 h (E3 tIOB tIAE tIAE) (oc_service σ a b) K
theorem s_X9_service {l : Launch} {g : hG} (hst : l.stackTraces = false) : Ctr l g mX9_service (sp_X9_service g) := by
  refine Ctr.mk9 hst (by decide) ?_ ?_
  · rintro as M sz K ⟨h, A, ow, σ, τ, a, b, rfl, hH, hV, hra, hrb, hK⟩
    exact ⟨by simp [mX9_service], cat_ok rfl⟩
  rintro X as M sz K hX rfl rfl hR ⟨h, A, ow, σ, τ, a, b, rfl, hH, hV, hra, hrb, hK⟩
  show G X 0 [.ref h, .int (iZ a), .int (iZ b), U9] [] M sz 0 0
  obtain ⟨n0, n1, n2, n3, ⟨e0, hn0⟩, ⟨e1, hn1⟩, ⟨e2, hn2⟩, ⟨e3, hn3⟩⟩ := hV.nat
  have hob := hH.ob
  have hl0 := hH.l0 e0
  obtain ⟨mo0, ho0⟩ := hl0.o
  have hl1 := hH.l1 e1
  obtain ⟨mo1, ho1⟩ := hl1.o
  have hl2 := hH.l2 e2
  obtain ⟨mo2, ho2⟩ := hl2.o
  have hl3 := hH.l3 e3
  obtain ⟨mo3, ho3⟩ := hl3.o
  refine g_iload hX dX9_service_0 rfl ?_
  refine g_aload hX dX9_service_1 rfl rfl ?_
  refine g_get hX dX9_service_2 (by first | exact hob | exact ho0 | exact ho1 | exact ho2 | exact ho3 | exact hH.tx (by omega) | exact hH.ux (by omega) | exact hH.fx (by omega) | exact hH.sx (by omega) | exact hH.tr (by omega) | exact hH.ur (by omega) | exact (hH.tw (by omega)).1 | exact (hH.uw (by omega)).1 | exact hH.fr (by omega) | exact hH.pl.1) rfl ?_
  refine g_cV0 (c2 := 0) (s2 := 0) hX (s_Jx4a65c_size_8abf5 hst) dX9_service_5 (by first | exact hob | exact ho0 | exact ho1 | exact ho2 | exact ho3 | exact hH.tx (by omega) | exact hH.ux (by omega) | exact hH.fx (by omega) | exact hH.sx (by omega) | exact hH.tr (by omega) | exact hH.ur (by omega) | exact (hH.tw (by omega)).1 | exact (hH.uw (by omega)).1 | exact hH.fr (by omega) | exact hH.pl.1) (by first | exact Nat.le_of_ble_eq_true rfl | simp [cat_rf, Value.category]) ⟨rfl, rfl, by decide, by decide⟩ ?_
  refine ⟨_, _, _, _, _, rfl, hl3, Kc_i ?_⟩
  refine g_cS2 (c2 := 1) (s2 := 6) hX (s_X9_requireIndex hst) dX9_service_8 (by first | exact Nat.le_of_ble_eq_true rfl | simp [cat_rf, Value.category]) ⟨rfl, rfl, by decide, by decide⟩ ?_
  refine ⟨_, _, rfl, (by assumption), by omega, fun qa => Kc_v ?_, fun h9 s9 hs9 => Kc_x (gx_out hX hR rfl (by decide) (by decide) (KX hK (c := 1) (if_pos (fun q => h9 ⟨q.1, by omega⟩)) (by decide) rfl hH hV))⟩
  obtain ⟨i, rfl⟩ : ∃ i : Nat, a = (i : Int) := ⟨a.toNat, by omega⟩
  have hsi := hV.s i (by omega)
  refine g_aload hX dX9_service_11 rfl rfl ?_
  refine g_get hX dX9_service_12 (by first | exact hob | exact ho0 | exact ho1 | exact ho2 | exact ho3 | exact hH.tx (by omega) | exact hH.ux (by omega) | exact hH.fx (by omega) | exact hH.sx (by omega) | exact hH.tr (by omega) | exact hH.ur (by omega) | exact (hH.tw (by omega)).1 | exact (hH.uw (by omega)).1 | exact hH.fr (by omega) | exact hH.pl.1) rfl ?_
  refine g_iload hX dX9_service_15 rfl ?_
  refine g_cV1 (c2 := 1) (s2 := 6) hX (s_Jx4a65c_get_915e3 hst) dX9_service_16 (by first | exact hob | exact ho0 | exact ho1 | exact ho2 | exact ho3 | exact hH.tx (by omega) | exact hH.ux (by omega) | exact hH.fx (by omega) | exact hH.sx (by omega) | exact hH.tr (by omega) | exact hH.ur (by omega) | exact (hH.tw (by omega)).1 | exact (hH.uw (by omega)).1 | exact hH.fr (by omega) | exact hH.pl.1) (by first | exact Nat.le_of_ble_eq_true rfl | simp [cat_rf, Value.category]) ⟨rfl, rfl, by decide, by decide⟩ ?_
  refine ⟨_, _, _, _, _, _, rfl, hl3, by omega, Kc_i ?_⟩
  simp only [Int.toNat_natCast]
  refine g_cast hX dX9_service_19 (by first | exact hob | exact ho0 | exact ho1 | exact ho2 | exact ho3 | exact hH.tx (by omega) | exact hH.ux (by omega) | exact hH.fx (by omega) | exact hH.sx (by omega) | exact hH.tr (by omega) | exact hH.ur (by omega) | exact (hH.tw (by omega)).1 | exact (hH.uw (by omega)).1 | exact hH.fr (by omega) | exact hH.pl.1) ?_
  refine g_astore hX dX9_service_22 rfl ?_
  dsimp only [List.set]
  refine g_iload hX dX9_service_23 rfl ?_
  rcases (show b = 0 ∨ b = 1 ∨ b = 2 ∨ b = 3 ∨ b = 4 ∨ ¬ (0 ≤ b ∧ b ≤ 4) by omega) with rfl | rfl | rfl | rfl | rfl | qw
  · refine g_tabIn (off := 36) (t := 60) hX dtX9_service_24 (by decide) (by decide) (by decide) (by decide) ?_
    refine g_aload hX dX9_service_60 rfl rfl ?_
    refine g_get hX dX9_service_61 (by first | exact hob | exact ho0 | exact ho1 | exact ho2 | exact ho3 | exact hH.tx (by omega) | exact hH.ux (by omega) | exact hH.fx (by omega) | exact hH.sx (by omega) | exact hH.tr (by omega) | exact hH.ur (by omega) | exact (hH.tw (by omega)).1 | exact (hH.uw (by omega)).1 | exact hH.fr (by omega) | exact hH.pl.1) rfl ?_
    refine g_get hX dX9_service_64 (by first | exact hob | exact ho0 | exact ho1 | exact ho2 | exact ho3 | exact hH.tx (by omega) | exact hH.ux (by omega) | exact hH.fx (by omega) | exact hH.sx (by omega) | exact hH.tr (by omega) | exact hH.ur (by omega) | exact (hH.tw (by omega)).1 | exact (hH.uw (by omega)).1 | exact hH.fr (by omega) | exact hH.pl.1) rfl ?_
    refine g_iret hX hR dX9_service_67 rfl rfl (by decide) (by decide) ?_
    exact kint (KV hK ((if_neg (fun q => q ⟨by omega, by omega⟩)).trans (if_neg (fun q => q (by decide)))) hH hV) (show svcZ σ i 0 = _ by unfold svcZ; rw [if_pos rfl]; omega)
  · refine g_tabIn (off := 44) (t := 68) hX dtX9_service_24 (by decide) (by decide) (by decide) (by decide) ?_
    refine g_aload hX dX9_service_68 rfl rfl ?_
    refine g_get hX dX9_service_69 (by first | exact hob | exact ho0 | exact ho1 | exact ho2 | exact ho3 | exact hH.tx (by omega) | exact hH.ux (by omega) | exact hH.fx (by omega) | exact hH.sx (by omega) | exact hH.tr (by omega) | exact hH.ur (by omega) | exact (hH.tw (by omega)).1 | exact (hH.uw (by omega)).1 | exact hH.fr (by omega) | exact hH.pl.1) rfl ?_
    refine g_get hX dX9_service_72 (by first | exact hob | exact ho0 | exact ho1 | exact ho2 | exact ho3 | exact hH.tx (by omega) | exact hH.ux (by omega) | exact hH.fx (by omega) | exact hH.sx (by omega) | exact hH.tr (by omega) | exact hH.ur (by omega) | exact (hH.tw (by omega)).1 | exact (hH.uw (by omega)).1 | exact hH.fr (by omega) | exact hH.pl.1) rfl ?_
    refine g_iret hX hR dX9_service_75 rfl rfl (by decide) (by decide) ?_
    exact kint (KV hK ((if_neg (fun q => q ⟨by omega, by omega⟩)).trans (if_neg (fun q => q (by decide)))) hH hV) (show svcZ σ i 1 = _ by unfold svcZ; rw [if_neg (by decide), if_pos rfl]; omega)
  · refine g_tabIn (off := 52) (t := 76) hX dtX9_service_24 (by decide) (by decide) (by decide) (by decide) ?_
    refine g_aload hX dX9_service_76 rfl rfl ?_
    refine g_get hX dX9_service_77 (by first | exact hob | exact ho0 | exact ho1 | exact ho2 | exact ho3 | exact hH.tx (by omega) | exact hH.ux (by omega) | exact hH.fx (by omega) | exact hH.sx (by omega) | exact hH.tr (by omega) | exact hH.ur (by omega) | exact (hH.tw (by omega)).1 | exact (hH.uw (by omega)).1 | exact hH.fr (by omega) | exact hH.pl.1) rfl ?_
    refine g_iret hX hR dX9_service_80 rfl rfl (by decide) (by decide) ?_
    exact KV hK ((if_neg (fun q => q ⟨by omega, by omega⟩)).trans (if_neg (fun q => q (by decide)))) hH hV
  · refine g_tabIn (off := 57) (t := 81) hX dtX9_service_24 (by decide) (by decide) (by decide) (by decide) ?_
    refine g_aload hX dX9_service_81 rfl rfl ?_
    refine g_get hX dX9_service_82 (by first | exact hob | exact ho0 | exact ho1 | exact ho2 | exact ho3 | exact hH.tx (by omega) | exact hH.ux (by omega) | exact hH.fx (by omega) | exact hH.sx (by omega) | exact hH.tr (by omega) | exact hH.ur (by omega) | exact (hH.tw (by omega)).1 | exact (hH.uw (by omega)).1 | exact hH.fr (by omega) | exact hH.pl.1) rfl ?_
    refine g_iret hX hR dX9_service_85 rfl rfl (by decide) (by decide) ?_
    exact KV hK ((if_neg (fun q => q ⟨by omega, by omega⟩)).trans (if_neg (fun q => q (by decide)))) hH hV
  · refine g_tabIn (off := 62) (t := 86) hX dtX9_service_24 (by decide) (by decide) (by decide) (by decide) ?_
    refine g_aload hX dX9_service_86 rfl rfl ?_
    refine g_get hX dX9_service_87 (by first | exact hob | exact ho0 | exact ho1 | exact ho2 | exact ho3 | exact hH.tx (by omega) | exact hH.ux (by omega) | exact hH.fx (by omega) | exact hH.sx (by omega) | exact hH.tr (by omega) | exact hH.ur (by omega) | exact (hH.tw (by omega)).1 | exact (hH.uw (by omega)).1 | exact hH.fr (by omega) | exact hH.pl.1) rfl ?_
    refine g_aload hX dX9_service_90 rfl rfl ?_
    refine g_get hX dX9_service_91 (by first | exact hob | exact ho0 | exact ho1 | exact ho2 | exact ho3 | exact hH.tx (by omega) | exact hH.ux (by omega) | exact hH.fx (by omega) | exact hH.sx (by omega) | exact hH.tr (by omega) | exact hH.ur (by omega) | exact (hH.tw (by omega)).1 | exact (hH.uw (by omega)).1 | exact hH.fr (by omega) | exact hH.pl.1) rfl ?_
    refine g_cS2 (c2 := 1) (s2 := 6) hX (s_X9_timesThrough hst) dX9_service_94 (by first | exact Nat.le_of_ble_eq_true rfl | simp [cat_rf, Value.category]) ⟨rfl, rfl, by decide, by decide⟩ ?_
    refine ⟨_, _, _, _, _, (σ 40 i 0).toNat, (σ 41 i 0).toNat, rfl, hH, hV, by omega, by omega, Kc_i ?_⟩
    have hft := fit_r σ (σ 40 i 0).toNat (σ 41 i 0).toNat
    refine z_if_ne hX dX9_service_97 (by first | assumption | (constructor <;> omega)) (fun c97 => ?_) (fun c97 => ?_)
    · refine g_aload hX dX9_service_105 rfl rfl ?_
      refine g_get hX dX9_service_106 (by first | exact hob | exact ho0 | exact ho1 | exact ho2 | exact ho3 | exact hH.tx (by omega) | exact hH.ux (by omega) | exact hH.fx (by omega) | exact hH.sx (by omega) | exact hH.tr (by omega) | exact hH.ur (by omega) | exact (hH.tw (by omega)).1 | exact (hH.uw (by omega)).1 | exact hH.fr (by omega) | exact hH.pl.1) rfl ?_
      refine g_aload hX dX9_service_109 rfl rfl ?_
      refine g_get hX dX9_service_110 (by first | exact hob | exact ho0 | exact ho1 | exact ho2 | exact ho3 | exact hH.tx (by omega) | exact hH.ux (by omega) | exact hH.fx (by omega) | exact hH.sx (by omega) | exact hH.tr (by omega) | exact hH.ur (by omega) | exact (hH.tw (by omega)).1 | exact (hH.uw (by omega)).1 | exact hH.fr (by omega) | exact hH.pl.1) rfl ?_
      refine g_cS2 (c2 := 1) (s2 := 6) hX (s_X9_countClashes hst) dX9_service_113 (by first | exact Nat.le_of_ble_eq_true rfl | simp [cat_rf, Value.category]) ⟨rfl, rfl, by decide, by decide⟩ ?_
      refine ⟨_, _, _, _, _, (σ 40 i 0).toNat, (σ 41 i 0).toNat, rfl, hH, hV, by omega, by omega, c97, Kc_i ?_⟩
      refine g_iret hX hR dX9_service_116 rfl rfl (by decide) (by decide) ?_
      exact kint (KV hK ((if_neg (fun q => q ⟨by omega, by omega⟩)).trans (if_neg (fun q => q (by decide)))) hH hV) (show svcZ σ i 4 = _ by unfold svcZ; rw [if_neg (by decide), if_neg (by decide), if_neg (by decide), if_neg (by decide), if_neg c97])
    · refine g_const hX dX9_service_100 ?_
      refine g_goto hX dX9_service_102 ?_
      refine g_iret hX hR dX9_service_116 rfl rfl (by decide) (by decide) ?_
      exact kint (KV hK ((if_neg (fun q => q ⟨by omega, by omega⟩)).trans (if_neg (fun q => q (by decide)))) hH hV) (show svcZ σ i 4 = _ by unfold svcZ; rw [if_neg (by decide), if_neg (by decide), if_neg (by decide), if_neg (by decide), if_pos c97])
  · refine g_tabOut (t := 117) hX dtX9_service_24 (by rw [zt (by assumption)]; omega) (by decide) ?_
    refine g_throw hX hR dX9_service_117 (by decide) (by decide) (fun sz9 hsz9 => ?_)
    exact KX hK (c := 2) ((if_neg (fun q => q ⟨by omega, by omega⟩)).trans (if_pos qw)) (by decide) rfl hH hV
