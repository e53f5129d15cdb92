/-! counting services; reasons; the hymn -/
theorem HX.inj7s {aD h : Nat} {A : Nat → Nat → Nat} {ow : Nat → Nat × Nat} {σ : SG} {τ : Nat → Nat → Int} {M : hM} (H : HX aD h A ow σ τ M) (hV : SV σ) {i t : Nat} (hi : (i : Int) < σ 3 0 0) (ht : (t : Int) < σ 0 0 0) : some (A 7 (σ 40 i 0).toNat) = some (A 7 t) ↔ σ 40 i 0 = (t : Int) := by
  have h1 := (hV.s i hi).1
  constructor
  · intro e
    have := H.inj7 (i := (σ 40 i 0).toNat) (by omega) ht (Option.some.inj e)
    omega
  · intro e
    rw [e, Int.toNat_natCast]
theorem lat_y {σ : SG} {t i : Nat} {d : Int} (hi : i < (σ 3 0 0).toNat) (h : latP σ t d i) : latZ σ t d := fun h9 => h9 i hi h
theorem hym_y {σ : SG} {th y d : Int} {t : Nat} (h : reaZ σ t th y d = 0 ∧ (hymK σ th y d t = -100 ∨ timZ σ (hymK σ th y d t).toNat < timZ σ t ∨ (timZ σ t = timZ σ (hymK σ th y d t).toNat ∧ clZ σ t (bstZ σ t 1 y).toNat < clZ σ (hymK σ th y d t).toNat (bstZ σ (hymK σ th y d t).toNat 1 y).toNat))) : hymK σ th y d (t + 1) = (t : Int) := if_pos h
theorem hym_n {σ : SG} {th y d : Int} {t : Nat} (h : ¬ (reaZ σ t th y d = 0 ∧ (hymK σ th y d t = -100 ∨ timZ σ (hymK σ th y d t).toNat < timZ σ t ∨ (timZ σ t = timZ σ (hymK σ th y d t).toNat ∧ clZ σ t (bstZ σ t 1 y).toNat < clZ σ (hymK σ th y d t).toNat (bstZ σ (hymK σ th y d t).toNat 1 y).toNat)))) : hymK σ th y d (t + 1) = hymK σ th y d t := if_neg h
def hmZ (σ : SG) (b : Int) : Int := if b = -100 then 0 else timZ σ b.toNat
def hcZ (σ : SG) (y b : Int) : Int := if b = -100 then 0 else clZ σ b.toNat (bstZ σ b.toNat 1 y).toNat
theorem hmZ_s {σ : SG} {b : Nat} {z : Int} (h : z = (b : Int)) : hmZ σ z = timZ σ b := by
  unfold hmZ
  rw [if_neg (by omega), h, Int.toNat_natCast]
theorem hcZ_s {σ : SG} {y : Int} {b : Nat} {z : Int} (h : z = (b : Int)) : hcZ σ y z = clZ σ b (bstZ σ b 1 y).toNat := by
  unfold hcZ
  rw [if_neg (by omega), h, Int.toNat_natCast]

def sp_X9_isFirstOfItsMetre (g : hG) : hS := fun as M sz K => ∃ (h : Nat) (A : Nat → Nat → Nat) (ow : Nat → Nat × Nat) (σ : SG) (τ : Nat → Nat → Int) (u : Nat), as = [.ref h, .ref (A 12 u)] ∧ HX g.2.2.2.2 h A ow σ τ M ∧ SV σ ∧ (u : Int) < σ 1 0 0 ∧ K (.inl (some (.int (iZ (bZ (fstM σ u)))))) M sz
theorem s_X9_isFirstOfItsMetre {l : Launch} {g : hG} (hst : l.stackTraces = false) : Ctr l g mX9_isFirstOfItsMetre (sp_X9_isFirstOfItsMetre g) := by
  refine Ctr.mk9 hst (by decide) ?_ ?_
  · rintro as M sz K ⟨h, A, ow, σ, τ, u, rfl, hH, hV, hu, hK⟩
    exact ⟨by simp [mX9_isFirstOfItsMetre], cat_ok rfl⟩
  rintro X as M sz K hX rfl rfl hR ⟨h, A, ow, σ, τ, u, rfl, hH, hV, hu, hK⟩
  show G X 0 [.ref h, .ref (A 12 u), U9] [] M sz 0 0
  obtain ⟨n0, n1, n2, n3, ⟨e0, hn0⟩, ⟨e1, hn1⟩, ⟨e2, hn2⟩, ⟨e3, hn3⟩⟩ := hV.nat
  have hob := hH.ob
  have hl0 := hH.l0 e0
  obtain ⟨mo0, ho0⟩ := hl0.o
  have hl1 := hH.l1 e1
  obtain ⟨mo1, ho1⟩ := hl1.o
  have hl2 := hH.l2 e2
  obtain ⟨mo2, ho2⟩ := hl2.o
  have hl3 := hH.l3 e3
  obtain ⟨mo3, ho3⟩ := hl3.o
  have loop : ∀ (k9 m : Nat), m + k9 = u → (∀ m2 : Nat, m2 < m → ¬ alkZ σ m2 u) → G X 2 [.ref h, .ref (A 12 u), .int (iZ (m : Int))] [] M sz 0 0 := by
    intro k9
    induction k9 with
    | zero =>
      intro m hk hm
      refine g_iload hX dX9_isFirstOfItsMetre_2 rfl ?_
      refine g_aload hX dX9_isFirstOfItsMetre_3 rfl rfl ?_
      refine g_get hX dX9_isFirstOfItsMetre_4 (by first | exact hob | exact ho0 | exact ho1 | exact ho2 | exact ho3 | exact hH.tx (by omega) | exact hH.ux (by omega) | exact hH.fx (by omega) | exact hH.sx (by omega) | exact hH.tr (by omega) | exact hH.ur (by omega) | exact (hH.tw (by omega)).1 | exact (hH.uw (by omega)).1 | exact hH.fr (by omega) | exact hH.pl.1) rfl ?_
      refine g_cV0 (c2 := 0) (s2 := 0) hX (s_Jx4a65c_size_8abf5 hst) dX9_isFirstOfItsMetre_7 (by first | exact hob | exact ho0 | exact ho1 | exact ho2 | exact ho3 | exact hH.tx (by omega) | exact hH.ux (by omega) | exact hH.fx (by omega) | exact hH.sx (by omega) | exact hH.tr (by omega) | exact hH.ur (by omega) | exact (hH.tw (by omega)).1 | exact (hH.uw (by omega)).1 | exact hH.fr (by omega) | exact hH.pl.1) (by first | exact Nat.le_of_ble_eq_true rfl | simp [cat_rf, Value.category]) ⟨rfl, rfl, by decide, by decide⟩ ?_
      refine ⟨_, _, _, _, _, rfl, hl1, Kc_i ?_⟩
      refine z_icmp_ge hX dX9_isFirstOfItsMetre_10 (by first | assumption | (constructor <;> omega)) (by first | assumption | (constructor <;> omega)) (fun c10 => ?_) (fun c10 => ?_)
      · refine g_const hX dX9_isFirstOfItsMetre_53 ?_
        refine g_iret hX hR dX9_isFirstOfItsMetre_54 rfl (by first | rfl | exact nar_b _ | exact nar_01 (by omega)) (by decide) (by decide) ?_
        exfalso; omega
      · refine g_iload hX dX9_isFirstOfItsMetre_13 rfl ?_
        refine g_aload hX dX9_isFirstOfItsMetre_14 rfl rfl ?_
        refine g_get hX dX9_isFirstOfItsMetre_15 (by first | exact hob | exact ho0 | exact ho1 | exact ho2 | exact ho3 | exact hH.tx (by omega) | exact hH.ux (by omega) | exact hH.fx (by omega) | exact hH.sx (by omega) | exact hH.tr (by omega) | exact hH.ur (by omega) | exact (hH.tw (by omega)).1 | exact (hH.uw (by omega)).1 | exact hH.fr (by omega) | exact hH.pl.1) rfl ?_
        refine z_icmp_ge hX dX9_isFirstOfItsMetre_18 (by first | assumption | (constructor <;> omega)) (by first | assumption | (constructor <;> omega)) (fun c18 => ?_) (fun c18 => ?_)
        · refine g_const hX dX9_isFirstOfItsMetre_53 ?_
          refine g_iret hX hR dX9_isFirstOfItsMetre_54 rfl (by first | rfl | exact nar_b _ | exact nar_01 (by omega)) (by decide) (by decide) ?_
          exact kint hK (bZ_t (fun m2 h2 => hm m2 (by omega)))
        · exfalso; omega
    | succ k9 ih =>
      intro m hk hm
      refine g_iload hX dX9_isFirstOfItsMetre_2 rfl ?_
      refine g_aload hX dX9_isFirstOfItsMetre_3 rfl rfl ?_
      refine g_get hX dX9_isFirstOfItsMetre_4 (by first | exact hob | exact ho0 | exact ho1 | exact ho2 | exact ho3 | exact hH.tx (by omega) | exact hH.ux (by omega) | exact hH.fx (by omega) | exact hH.sx (by omega) | exact hH.tr (by omega) | exact hH.ur (by omega) | exact (hH.tw (by omega)).1 | exact (hH.uw (by omega)).1 | exact hH.fr (by omega) | exact hH.pl.1) rfl ?_
      refine g_cV0 (c2 := 0) (s2 := 0) hX (s_Jx4a65c_size_8abf5 hst) dX9_isFirstOfItsMetre_7 (by first | exact hob | exact ho0 | exact ho1 | exact ho2 | exact ho3 | exact hH.tx (by omega) | exact hH.ux (by omega) | exact hH.fx (by omega) | exact hH.sx (by omega) | exact hH.tr (by omega) | exact hH.ur (by omega) | exact (hH.tw (by omega)).1 | exact (hH.uw (by omega)).1 | exact hH.fr (by omega) | exact hH.pl.1) (by first | exact Nat.le_of_ble_eq_true rfl | simp [cat_rf, Value.category]) ⟨rfl, rfl, by decide, by decide⟩ ?_
      refine ⟨_, _, _, _, _, rfl, hl1, Kc_i ?_⟩
      refine z_icmp_ge hX dX9_isFirstOfItsMetre_10 (by first | assumption | (constructor <;> omega)) (by first | assumption | (constructor <;> omega)) (fun c10 => ?_) (fun c10 => ?_)
      · exfalso; omega
      · refine g_iload hX dX9_isFirstOfItsMetre_13 rfl ?_
        refine g_aload hX dX9_isFirstOfItsMetre_14 rfl rfl ?_
        refine g_get hX dX9_isFirstOfItsMetre_15 (by first | exact hob | exact ho0 | exact ho1 | exact ho2 | exact ho3 | exact hH.tx (by omega) | exact hH.ux (by omega) | exact hH.fx (by omega) | exact hH.sx (by omega) | exact hH.tr (by omega) | exact hH.ur (by omega) | exact (hH.tw (by omega)).1 | exact (hH.uw (by omega)).1 | exact hH.fr (by omega) | exact hH.pl.1) rfl ?_
        refine z_icmp_ge hX dX9_isFirstOfItsMetre_18 (by first | assumption | (constructor <;> omega)) (by first | assumption | (constructor <;> omega)) (fun c18 => ?_) (fun c18 => ?_)
        · exfalso; omega
        · refine g_aload hX dX9_isFirstOfItsMetre_21 rfl rfl ?_
          refine g_get hX dX9_isFirstOfItsMetre_22 (by first | exact hob | exact ho0 | exact ho1 | exact ho2 | exact ho3 | exact hH.tx (by omega) | exact hH.ux (by omega) | exact hH.fx (by omega) | exact hH.sx (by omega) | exact hH.tr (by omega) | exact hH.ur (by omega) | exact (hH.tw (by omega)).1 | exact (hH.uw (by omega)).1 | exact hH.fr (by omega) | exact hH.pl.1) rfl ?_
          refine g_iload hX dX9_isFirstOfItsMetre_25 rfl ?_
          refine g_cV1 (c2 := 0) (s2 := 0) hX (s_Jx4a65c_get_915e3 hst) dX9_isFirstOfItsMetre_26 (by first | exact hob | exact ho0 | exact ho1 | exact ho2 | exact ho3 | exact hH.tx (by omega) | exact hH.ux (by omega) | exact hH.fx (by omega) | exact hH.sx (by omega) | exact hH.tr (by omega) | exact hH.ur (by omega) | exact (hH.tw (by omega)).1 | exact (hH.uw (by omega)).1 | exact hH.fr (by omega) | exact hH.pl.1) (by first | exact Nat.le_of_ble_eq_true rfl | simp [cat_rf, Value.category]) ⟨rfl, rfl, by decide, by decide⟩ ?_
          refine ⟨_, _, _, _, _, _, rfl, hl1, by omega, Kc_i ?_⟩
          simp only [Int.toNat_natCast]
          refine g_cast hX dX9_isFirstOfItsMetre_29 (by first | exact hob | exact ho0 | exact ho1 | exact ho2 | exact ho3 | exact hH.tx (by omega) | exact hH.ux (by omega) | exact hH.fx (by omega) | exact hH.sx (by omega) | exact hH.tr (by omega) | exact hH.ur (by omega) | exact (hH.tw (by omega)).1 | exact (hH.uw (by omega)).1 | exact hH.fr (by omega) | exact hH.pl.1) ?_
          refine g_get hX dX9_isFirstOfItsMetre_32 (by first | exact hob | exact ho0 | exact ho1 | exact ho2 | exact ho3 | exact hH.tx (by omega) | exact hH.ux (by omega) | exact hH.fx (by omega) | exact hH.sx (by omega) | exact hH.tr (by omega) | exact hH.ur (by omega) | exact (hH.tw (by omega)).1 | exact (hH.uw (by omega)).1 | exact hH.fr (by omega) | exact hH.pl.1) rfl ?_
          refine g_aload hX dX9_isFirstOfItsMetre_35 rfl rfl ?_
          refine g_get hX dX9_isFirstOfItsMetre_36 (by first | exact hob | exact ho0 | exact ho1 | exact ho2 | exact ho3 | exact hH.tx (by omega) | exact hH.ux (by omega) | exact hH.fx (by omega) | exact hH.sx (by omega) | exact hH.tr (by omega) | exact hH.ur (by omega) | exact (hH.tw (by omega)).1 | exact (hH.uw (by omega)).1 | exact hH.fr (by omega) | exact hH.pl.1) rfl ?_
          refine g_cVN1 (c2 := 0) (s2 := 0) hX (s_X4_hasMetreOf hst) dX9_isFirstOfItsMetre_39 (by first | exact hob | exact ho0 | exact ho1 | exact ho2 | exact ho3 | exact hH.tx (by omega) | exact hH.ux (by omega) | exact hH.fx (by omega) | exact hH.sx (by omega) | exact hH.tr (by omega) | exact hH.ur (by omega) | exact (hH.tw (by omega)).1 | exact (hH.uw (by omega)).1 | exact hH.fr (by omega) | exact hH.pl.1) (by first | exact Nat.le_of_ble_eq_true rfl | simp [cat_rf, Value.category]) ⟨rfl, rfl, by decide, by decide⟩ ?_
          refine ⟨_, _, _, _, _, _, _, _, _, _, _, _, rfl, hH.uw (by omega), hH.uw (by omega), (hV.u m).2.2.2.2.1, (hV.u u).2.2.2.2.1, Kc_i ?_⟩
          refine z_ifb_eq hX dX9_isFirstOfItsMetre_42 (fun c42 => ?_) (fun c42 => ?_)
          · refine z_iinc hX dX9_isFirstOfItsMetre_47 rfl ?_
            dsimp only [List.set]
            refine g_goto hX dX9_isFirstOfItsMetre_50 ?_
            exact ih (m + 1) (by omega) (fun m2 h2 => by
              by_cases e : m2 = m
              · rw [e]; exact c42
              · exact hm m2 (by omega))
          · refine g_const hX dX9_isFirstOfItsMetre_45 ?_
            refine g_iret hX hR dX9_isFirstOfItsMetre_46 rfl (by first | rfl | exact nar_b _ | exact nar_01 (by omega)) (by decide) (by decide) ?_
            exact kint hK (bZ_f (fun h9 => h9 m (by omega) c42))
  refine g_const hX dX9_isFirstOfItsMetre_0 ?_
  refine g_istore hX dX9_isFirstOfItsMetre_1 ?_
  dsimp only [List.set]
  exact loop u 0 (by omega) (fun m2 h2 => absurd h2 (Nat.not_lt_zero m2))

def sp_X9_countServices (g : hG) : hS := fun as M sz K => ∃ (h : Nat) (A : Nat → Nat → Nat) (ow : Nat → Nat × Nat) (σ : SG) (τ : Nat → Nat → Int) (t : Nat), as = [.ref h, .ref (A 7 t)] ∧ HX g.2.2.2.2 h A ow σ τ M ∧ SV σ ∧ (t : Int) < σ 0 0 0 ∧ K (.inl (some (.int (iZ (timZ σ t))))) M sz
theorem s_X9_countServices {l : Launch} {g : hG} (hst : l.stackTraces = false) : Ctr l g mX9_countServices (sp_X9_countServices g) := by
  refine Ctr.mk9 hst (by decide) ?_ ?_
  · rintro as M sz K ⟨h, A, ow, σ, τ, t, rfl, hH, hV, ht, hK⟩
    exact ⟨by simp [mX9_countServices], cat_ok rfl⟩
  rintro X as M sz K hX rfl rfl hR ⟨h, A, ow, σ, τ, t, rfl, hH, hV, ht, hK⟩
  show G X 0 [.ref h, .ref (A 7 t), U9, U9] [] M sz 0 0
  obtain ⟨n0, n1, n2, n3, ⟨e0, hn0⟩, ⟨e1, hn1⟩, ⟨e2, hn2⟩, ⟨e3, hn3⟩⟩ := hV.nat
  have hob := hH.ob
  have hl0 := hH.l0 e0
  obtain ⟨mo0, ho0⟩ := hl0.o
  have hl1 := hH.l1 e1
  obtain ⟨mo1, ho1⟩ := hl1.o
  have hl2 := hH.l2 e2
  obtain ⟨mo2, ho2⟩ := hl2.o
  have hl3 := hH.l3 e3
  obtain ⟨mo3, ho3⟩ := hl3.o
  have loop : ∀ (k9 i : Nat), i + k9 = n3 → G X 4 [.ref h, .ref (A 7 t), .int (iZ (timK σ t i)), .int (iZ (i : Int))] [] M sz 0 0 := by
    intro k9
    induction k9 with
    | zero =>
      intro i hk
      refine g_iload hX dX9_countServices_4 rfl ?_
      refine g_aload hX dX9_countServices_5 rfl rfl ?_
      refine g_get hX dX9_countServices_6 (by first | exact hob | exact ho0 | exact ho1 | exact ho2 | exact ho3 | exact hH.tx (by omega) | exact hH.ux (by omega) | exact hH.fx (by omega) | exact hH.sx (by omega) | exact hH.tr (by omega) | exact hH.ur (by omega) | exact (hH.tw (by omega)).1 | exact (hH.uw (by omega)).1 | exact hH.fr (by omega) | exact hH.pl.1) rfl ?_
      refine g_cV0 (c2 := 0) (s2 := 0) hX (s_Jx4a65c_size_8abf5 hst) dX9_countServices_9 (by first | exact hob | exact ho0 | exact ho1 | exact ho2 | exact ho3 | exact hH.tx (by omega) | exact hH.ux (by omega) | exact hH.fx (by omega) | exact hH.sx (by omega) | exact hH.tr (by omega) | exact hH.ur (by omega) | exact (hH.tw (by omega)).1 | exact (hH.uw (by omega)).1 | exact hH.fr (by omega) | exact hH.pl.1) (by first | exact Nat.le_of_ble_eq_true rfl | simp [cat_rf, Value.category]) ⟨rfl, rfl, by decide, by decide⟩ ?_
      refine ⟨_, _, _, _, _, rfl, hl3, Kc_i ?_⟩
      refine z_icmp_ge hX dX9_countServices_12 (by first | assumption | (constructor <;> omega)) (by first | assumption | (constructor <;> omega)) (fun c12 => ?_) (fun c12 => ?_)
      · refine g_iload hX dX9_countServices_42 rfl ?_
        refine g_iret hX hR dX9_countServices_43 rfl rfl (by decide) (by decide) ?_
        exact kint hK (by unfold timZ; congr 1; omega)
      · exfalso; omega
    | succ k9 ih =>
      intro i hk
      have htk := timK_r σ t i
      refine g_iload hX dX9_countServices_4 rfl ?_
      refine g_aload hX dX9_countServices_5 rfl rfl ?_
      refine g_get hX dX9_countServices_6 (by first | exact hob | exact ho0 | exact ho1 | exact ho2 | exact ho3 | exact hH.tx (by omega) | exact hH.ux (by omega) | exact hH.fx (by omega) | exact hH.sx (by omega) | exact hH.tr (by omega) | exact hH.ur (by omega) | exact (hH.tw (by omega)).1 | exact (hH.uw (by omega)).1 | exact hH.fr (by omega) | exact hH.pl.1) rfl ?_
      refine g_cV0 (c2 := 0) (s2 := 0) hX (s_Jx4a65c_size_8abf5 hst) dX9_countServices_9 (by first | exact hob | exact ho0 | exact ho1 | exact ho2 | exact ho3 | exact hH.tx (by omega) | exact hH.ux (by omega) | exact hH.fx (by omega) | exact hH.sx (by omega) | exact hH.tr (by omega) | exact hH.ur (by omega) | exact (hH.tw (by omega)).1 | exact (hH.uw (by omega)).1 | exact hH.fr (by omega) | exact hH.pl.1) (by first | exact Nat.le_of_ble_eq_true rfl | simp [cat_rf, Value.category]) ⟨rfl, rfl, by decide, by decide⟩ ?_
      refine ⟨_, _, _, _, _, rfl, hl3, Kc_i ?_⟩
      refine z_icmp_ge hX dX9_countServices_12 (by first | assumption | (constructor <;> omega)) (by first | assumption | (constructor <;> omega)) (fun c12 => ?_) (fun c12 => ?_)
      · exfalso; omega
      · refine g_aload hX dX9_countServices_15 rfl rfl ?_
        refine g_get hX dX9_countServices_16 (by first | exact hob | exact ho0 | exact ho1 | exact ho2 | exact ho3 | exact hH.tx (by omega) | exact hH.ux (by omega) | exact hH.fx (by omega) | exact hH.sx (by omega) | exact hH.tr (by omega) | exact hH.ur (by omega) | exact (hH.tw (by omega)).1 | exact (hH.uw (by omega)).1 | exact hH.fr (by omega) | exact hH.pl.1) rfl ?_
        refine g_iload hX dX9_countServices_19 rfl ?_
        refine g_cV1 (c2 := 0) (s2 := 0) hX (s_Jx4a65c_get_915e3 hst) dX9_countServices_20 (by first | exact hob | exact ho0 | exact ho1 | exact ho2 | exact ho3 | exact hH.tx (by omega) | exact hH.ux (by omega) | exact hH.fx (by omega) | exact hH.sx (by omega) | exact hH.tr (by omega) | exact hH.ur (by omega) | exact (hH.tw (by omega)).1 | exact (hH.uw (by omega)).1 | exact hH.fr (by omega) | exact hH.pl.1) (by first | exact Nat.le_of_ble_eq_true rfl | simp [cat_rf, Value.category]) ⟨rfl, rfl, by decide, by decide⟩ ?_
        refine ⟨_, _, _, _, _, _, rfl, hl3, by omega, Kc_i ?_⟩
        simp only [Int.toNat_natCast]
        refine g_cast hX dX9_countServices_23 (by first | exact hob | exact ho0 | exact ho1 | exact ho2 | exact ho3 | exact hH.tx (by omega) | exact hH.ux (by omega) | exact hH.fx (by omega) | exact hH.sx (by omega) | exact hH.tr (by omega) | exact hH.ur (by omega) | exact (hH.tw (by omega)).1 | exact (hH.uw (by omega)).1 | exact hH.fr (by omega) | exact hH.pl.1) ?_
        refine g_get hX dX9_countServices_26 (by first | exact hob | exact ho0 | exact ho1 | exact ho2 | exact ho3 | exact hH.tx (by omega) | exact hH.ux (by omega) | exact hH.fx (by omega) | exact hH.sx (by omega) | exact hH.tr (by omega) | exact hH.ur (by omega) | exact (hH.tw (by omega)).1 | exact (hH.uw (by omega)).1 | exact hH.fr (by omega) | exact hH.pl.1) rfl ?_
        refine g_aload hX dX9_countServices_29 rfl rfl ?_
        refine g_acmp_ne (rx := some _) (ry := some _) hX dX9_countServices_30 rfl rfl (fun c30 => ?_) (fun c30 => ?_)
        · refine z_iinc hX dX9_countServices_36 rfl ?_
          dsimp only [List.set]
          refine g_goto hX dX9_countServices_39 ?_
          have h9 := ih (i + 1) (by omega)
          rw [show timK σ t (i + 1) = timK σ t i + 0 from congrArg (timK σ t i + ·) (bZ_f (fun e => c30 ((hH.inj7s hV (by omega) ht).mpr e)))] at h9
          rw [Int.add_zero] at h9
          exact h9
        · refine z_iinc hX dX9_countServices_33 rfl ?_
          dsimp only [List.set]
          refine z_iinc hX dX9_countServices_36 rfl ?_
          dsimp only [List.set]
          refine g_goto hX dX9_countServices_39 ?_
          have h9 := ih (i + 1) (by omega)
          rw [show timK σ t (i + 1) = timK σ t i + 1 from congrArg (timK σ t i + ·) (bZ_t ((hH.inj7s hV (by omega) ht).mp c30))] at h9
          exact h9
  refine g_const hX dX9_countServices_0 ?_
  refine g_istore hX dX9_countServices_1 ?_
  dsimp only [List.set]
  refine g_const hX dX9_countServices_2 ?_
  refine g_istore hX dX9_countServices_3 ?_
  dsimp only [List.set]
  exact loop n3 0 (by omega)

def sp_X9_wasSungLately (g : hG) : hS := fun as M sz K => ∃ (h : Nat) (A : Nat → Nat → Nat) (ow : Nat → Nat × Nat) (σ : SG) (τ : Nat → Nat → Int) (t : Nat) (d : Int), as = [.ref h, .ref (A 7 t), .int (iZ d)] ∧ HX g.2.2.2.2 h A ow σ τ M ∧ SV σ ∧ (t : Int) < σ 0 0 0 ∧ (0 ≤ d ∧ d ≤ 2000000) ∧ K (.inl (some (.int (iZ (bZ (latZ σ t d)))))) M sz
theorem s_X9_wasSungLately {l : Launch} {g : hG} (hst : l.stackTraces = false) : Ctr l g mX9_wasSungLately (sp_X9_wasSungLately g) := by
  refine Ctr.mk9 hst (by decide) ?_ ?_
  · rintro as M sz K ⟨h, A, ow, σ, τ, t, d, rfl, hH, hV, ht, hd, hK⟩
    exact ⟨by simp [mX9_wasSungLately], cat_ok rfl⟩
  rintro X as M sz K hX rfl rfl hR ⟨h, A, ow, σ, τ, t, d, rfl, hH, hV, ht, hd, hK⟩
  show G X 0 [.ref h, .ref (A 7 t), .int (iZ d), U9, U9, U9] [] M sz 0 0
  obtain ⟨n0, n1, n2, n3, ⟨e0, hn0⟩, ⟨e1, hn1⟩, ⟨e2, hn2⟩, ⟨e3, hn3⟩⟩ := hV.nat
  have hob := hH.ob
  have hl0 := hH.l0 e0
  obtain ⟨mo0, ho0⟩ := hl0.o
  have hl1 := hH.l1 e1
  obtain ⟨mo1, ho1⟩ := hl1.o
  have hl2 := hH.l2 e2
  obtain ⟨mo2, ho2⟩ := hl2.o
  have hl3 := hH.l3 e3
  obtain ⟨mo3, ho3⟩ := hl3.o
  have loop : ∀ (k9 i : Nat) (v4 v5 : Value), i + k9 = n3 → (∀ m : Nat, m < i → ¬ latP σ t d m) → G X 2 [.ref h, .ref (A 7 t), .int (iZ d), .int (iZ (i : Int)), v4, v5] [] M sz 0 0 := by
    intro k9
    induction k9 with
    | zero =>
      intro i v4 v5 hk hm
      refine g_iload hX dX9_wasSungLately_2 rfl ?_
      refine g_aload hX dX9_wasSungLately_3 rfl rfl ?_
      refine g_get hX dX9_wasSungLately_4 (by first | exact hob | exact ho0 | exact ho1 | exact ho2 | exact ho3 | exact hH.tx (by omega) | exact hH.ux (by omega) | exact hH.fx (by omega) | exact hH.sx (by omega) | exact hH.tr (by omega) | exact hH.ur (by omega) | exact (hH.tw (by omega)).1 | exact (hH.uw (by omega)).1 | exact hH.fr (by omega) | exact hH.pl.1) rfl ?_
      refine g_cV0 (c2 := 0) (s2 := 0) hX (s_Jx4a65c_size_8abf5 hst) dX9_wasSungLately_7 (by first | exact hob | exact ho0 | exact ho1 | exact ho2 | exact ho3 | exact hH.tx (by omega) | exact hH.ux (by omega) | exact hH.fx (by omega) | exact hH.sx (by omega) | exact hH.tr (by omega) | exact hH.ur (by omega) | exact (hH.tw (by omega)).1 | exact (hH.uw (by omega)).1 | exact hH.fr (by omega) | exact hH.pl.1) (by first | exact Nat.le_of_ble_eq_true rfl | simp [cat_rf, Value.category]) ⟨rfl, rfl, by decide, by decide⟩ ?_
      refine ⟨_, _, _, _, _, rfl, hl3, Kc_i ?_⟩
      refine z_icmp_ge hX dX9_wasSungLately_10 (by first | assumption | (constructor <;> omega)) (by first | assumption | (constructor <;> omega)) (fun c10 => ?_) (fun c10 => ?_)
      · refine g_const hX dX9_wasSungLately_64 ?_
        refine g_iret hX hR dX9_wasSungLately_65 rfl (by first | rfl | exact nar_b _ | exact nar_01 (by omega)) (by decide) (by decide) ?_
        exact kint hK (bZ_f (fun h9 => h9 (fun m hm9 => hm m (by omega))))
      · exfalso; omega
    | succ k9 ih =>
      intro i v4 v5 hk hm
      have hsi := hV.s i (by omega)
      have hyl9 := ylen_r (σ 42 i 0)
      have hdr := dnum_r (y := σ 42 i 0) (p := σ 43 i 0) (by omega) (by omega)
      refine g_iload hX dX9_wasSungLately_2 rfl ?_
      refine g_aload hX dX9_wasSungLately_3 rfl rfl ?_
      refine g_get hX dX9_wasSungLately_4 (by first | exact hob | exact ho0 | exact ho1 | exact ho2 | exact ho3 | exact hH.tx (by omega) | exact hH.ux (by omega) | exact hH.fx (by omega) | exact hH.sx (by omega) | exact hH.tr (by omega) | exact hH.ur (by omega) | exact (hH.tw (by omega)).1 | exact (hH.uw (by omega)).1 | exact hH.fr (by omega) | exact hH.pl.1) rfl ?_
      refine g_cV0 (c2 := 0) (s2 := 0) hX (s_Jx4a65c_size_8abf5 hst) dX9_wasSungLately_7 (by first | exact hob | exact ho0 | exact ho1 | exact ho2 | exact ho3 | exact hH.tx (by omega) | exact hH.ux (by omega) | exact hH.fx (by omega) | exact hH.sx (by omega) | exact hH.tr (by omega) | exact hH.ur (by omega) | exact (hH.tw (by omega)).1 | exact (hH.uw (by omega)).1 | exact hH.fr (by omega) | exact hH.pl.1) (by first | exact Nat.le_of_ble_eq_true rfl | simp [cat_rf, Value.category]) ⟨rfl, rfl, by decide, by decide⟩ ?_
      refine ⟨_, _, _, _, _, rfl, hl3, Kc_i ?_⟩
      refine z_icmp_ge hX dX9_wasSungLately_10 (by first | assumption | (constructor <;> omega)) (by first | assumption | (constructor <;> omega)) (fun c10 => ?_) (fun c10 => ?_)
      · exfalso; omega
      · refine g_aload hX dX9_wasSungLately_13 rfl rfl ?_
        refine g_get hX dX9_wasSungLately_14 (by first | exact hob | exact ho0 | exact ho1 | exact ho2 | exact ho3 | exact hH.tx (by omega) | exact hH.ux (by omega) | exact hH.fx (by omega) | exact hH.sx (by omega) | exact hH.tr (by omega) | exact hH.ur (by omega) | exact (hH.tw (by omega)).1 | exact (hH.uw (by omega)).1 | exact hH.fr (by omega) | exact hH.pl.1) rfl ?_
        refine g_iload hX dX9_wasSungLately_17 rfl ?_
        refine g_cV1 (c2 := 0) (s2 := 0) hX (s_Jx4a65c_get_915e3 hst) dX9_wasSungLately_18 (by first | exact hob | exact ho0 | exact ho1 | exact ho2 | exact ho3 | exact hH.tx (by omega) | exact hH.ux (by omega) | exact hH.fx (by omega) | exact hH.sx (by omega) | exact hH.tr (by omega) | exact hH.ur (by omega) | exact (hH.tw (by omega)).1 | exact (hH.uw (by omega)).1 | exact hH.fr (by omega) | exact hH.pl.1) (by first | exact Nat.le_of_ble_eq_true rfl | simp [cat_rf, Value.category]) ⟨rfl, rfl, by decide, by decide⟩ ?_
        refine ⟨_, _, _, _, _, _, rfl, hl3, by omega, Kc_i ?_⟩
        simp only [Int.toNat_natCast]
        refine g_cast hX dX9_wasSungLately_21 (by first | exact hob | exact ho0 | exact ho1 | exact ho2 | exact ho3 | exact hH.tx (by omega) | exact hH.ux (by omega) | exact hH.fx (by omega) | exact hH.sx (by omega) | exact hH.tr (by omega) | exact hH.ur (by omega) | exact (hH.tw (by omega)).1 | exact (hH.uw (by omega)).1 | exact hH.fr (by omega) | exact hH.pl.1) ?_
        refine g_astore hX dX9_wasSungLately_24 rfl ?_
        dsimp only [List.set]
        refine g_iload hX dX9_wasSungLately_26 rfl ?_
        refine g_aload hX dX9_wasSungLately_27 rfl rfl ?_
        refine g_get hX dX9_wasSungLately_29 (by first | exact hob | exact ho0 | exact ho1 | exact ho2 | exact ho3 | exact hH.tx (by omega) | exact hH.ux (by omega) | exact hH.fx (by omega) | exact hH.sx (by omega) | exact hH.tr (by omega) | exact hH.ur (by omega) | exact (hH.tw (by omega)).1 | exact (hH.uw (by omega)).1 | exact hH.fr (by omega) | exact hH.pl.1) rfl ?_
        refine z_isub hX dX9_wasSungLately_32 ?_
        refine g_istore hX dX9_wasSungLately_33 ?_
        dsimp only [List.set]
        refine g_aload hX dX9_wasSungLately_35 rfl rfl ?_
        refine g_get hX dX9_wasSungLately_37 (by first | exact hob | exact ho0 | exact ho1 | exact ho2 | exact ho3 | exact hH.tx (by omega) | exact hH.ux (by omega) | exact hH.fx (by omega) | exact hH.sx (by omega) | exact hH.tr (by omega) | exact hH.ur (by omega) | exact (hH.tw (by omega)).1 | exact (hH.uw (by omega)).1 | exact hH.fr (by omega) | exact hH.pl.1) rfl ?_
        refine g_aload hX dX9_wasSungLately_40 rfl rfl ?_
        refine g_acmp_ne (rx := some _) (ry := some _) hX dX9_wasSungLately_41 rfl rfl (fun c41 => ?_) (fun c41 => ?_)
        · refine z_iinc hX dX9_wasSungLately_58 rfl ?_
          dsimp only [List.set]
          refine g_goto hX dX9_wasSungLately_61 ?_
          exact ih (i + 1) _ _ (by omega) (fun m h2 => by
            by_cases e : m = i
            · rw [e]; exact fun h9 => c41 ((hH.inj7s hV (by omega) ht).mpr h9.1)
            · exact hm m (by omega))
        · refine g_iload hX dX9_wasSungLately_44 rfl ?_
          refine z_if_lt hX dX9_wasSungLately_46 (by first | assumption | (constructor <;> omega)) (fun c46 => ?_) (fun c46 => ?_)
          · refine z_iinc hX dX9_wasSungLately_58 rfl ?_
            dsimp only [List.set]
            refine g_goto hX dX9_wasSungLately_61 ?_
            exact ih (i + 1) _ _ (by omega) (fun m h2 => by
              by_cases e : m = i
              · rw [e]; exact fun h9 => by have := h9.2; omega
              · exact hm m (by omega))
          · refine g_iload hX dX9_wasSungLately_49 rfl ?_
            refine g_const hX dX9_wasSungLately_51 ?_
            refine z_icmp_gt hX dX9_wasSungLately_53 (by first | assumption | (constructor <;> omega)) (by first | assumption | (constructor <;> omega)) (fun c53 => ?_) (fun c53 => ?_)
            · refine z_iinc hX dX9_wasSungLately_58 rfl ?_
              dsimp only [List.set]
              refine g_goto hX dX9_wasSungLately_61 ?_
              exact ih (i + 1) _ _ (by omega) (fun m h2 => by
                by_cases e : m = i
                · rw [e]; exact fun h9 => by have := h9.2; omega
                · exact hm m (by omega))
            · refine g_const hX dX9_wasSungLately_56 ?_
              refine g_iret hX hR dX9_wasSungLately_57 rfl (by first | rfl | exact nar_b _ | exact nar_01 (by omega)) (by decide) (by decide) ?_
              exact kint hK (bZ_t (lat_y (i := i) (by omega) ⟨(hH.inj7s hV (by omega) ht).mp c41, by omega, by omega⟩))
  refine g_const hX dX9_wasSungLately_0 ?_
  refine g_istore hX dX9_wasSungLately_1 ?_
  dsimp only [List.set]
  exact loop n3 0 _ _ (by omega) (fun m h2 => absurd h2 (Nat.not_lt_zero m))

def sp_X9_isBehindLatestService (g : hG) : hS := fun as M sz K => ∃ (h : Nat) (A : Nat → Nat → Nat) (ow : Nat → Nat × Nat) (σ : SG) (τ : Nat → Nat → Int) (d : Int), as = [.ref h, .int (iZ d)] ∧ HX g.2.2.2.2 h A ow σ τ M ∧ SV σ ∧ (0 ≤ d ∧ d ≤ 2000000) ∧ K (.inl (some (.int (iZ (bZ (latrZ σ d)))))) M sz
theorem s_X9_isBehindLatestService {l : Launch} {g : hG} (hst : l.stackTraces = false) : Ctr l g mX9_isBehindLatestService (sp_X9_isBehindLatestService g) := by
  refine Ctr.mk9 hst (by decide) ?_ ?_
  · rintro as M sz K ⟨h, A, ow, σ, τ, d, rfl, hH, hV, hd, hK⟩
    exact ⟨by simp [mX9_isBehindLatestService], cat_ok rfl⟩
  rintro X as M sz K hX rfl rfl hR ⟨h, A, ow, σ, τ, d, rfl, hH, hV, hd, hK⟩
  show G X 0 [.ref h, .int (iZ d)] [] M sz 0 0
  obtain ⟨n0, n1, n2, n3, ⟨e0, hn0⟩, ⟨e1, hn1⟩, ⟨e2, hn2⟩, ⟨e3, hn3⟩⟩ := hV.nat
  have hob := hH.ob
  have hl0 := hH.l0 e0
  obtain ⟨mo0, ho0⟩ := hl0.o
  have hl1 := hH.l1 e1
  obtain ⟨mo1, ho1⟩ := hl1.o
  have hl2 := hH.l2 e2
  obtain ⟨mo2, ho2⟩ := hl2.o
  have hl3 := hH.l3 e3
  obtain ⟨mo3, ho3⟩ := hl3.o
  refine g_aload hX dX9_isBehindLatestService_0 rfl rfl ?_
  refine g_get hX dX9_isBehindLatestService_1 (by first | exact hob | exact ho0 | exact ho1 | exact ho2 | exact ho3 | exact hH.tx (by omega) | exact hH.ux (by omega) | exact hH.fx (by omega) | exact hH.sx (by omega) | exact hH.tr (by omega) | exact hH.ur (by omega) | exact (hH.tw (by omega)).1 | exact (hH.uw (by omega)).1 | exact hH.fr (by omega) | exact hH.pl.1) rfl ?_
  refine g_cV0 (c2 := 0) (s2 := 0) hX (s_Jx4a65c_isEmpty_aae02 hst) dX9_isBehindLatestService_4 (by first | exact hob | exact ho0 | exact ho1 | exact ho2 | exact ho3 | exact hH.tx (by omega) | exact hH.ux (by omega) | exact hH.fx (by omega) | exact hH.sx (by omega) | exact hH.tr (by omega) | exact hH.ur (by omega) | exact (hH.tw (by omega)).1 | exact (hH.uw (by omega)).1 | exact hH.fr (by omega) | exact hH.pl.1) (by first | exact Nat.le_of_ble_eq_true rfl | simp [cat_rf, Value.category]) ⟨rfl, rfl, by decide, by decide⟩ ?_
  refine ⟨_, _, _, _, _, rfl, hl3, by omega, Kc_i ?_⟩
  refine z_ifb_ne hX dX9_isBehindLatestService_7 (fun c7 => ?_) (fun c7 => ?_)
  · refine g_const hX dX9_isBehindLatestService_36 ?_
    refine g_goto hX dX9_isBehindLatestService_37 ?_
    refine g_iret hX hR dX9_isBehindLatestService_41 rfl (by first | rfl | exact nar_b _ | exact nar_01 (by omega)) (by decide) (by decide) ?_
    exact kint hK (bZ_t (Or.inl (by omega)))
  · refine g_aload hX dX9_isBehindLatestService_10 rfl rfl ?_
    refine g_get hX dX9_isBehindLatestService_11 (by first | exact hob | exact ho0 | exact ho1 | exact ho2 | exact ho3 | exact hH.tx (by omega) | exact hH.ux (by omega) | exact hH.fx (by omega) | exact hH.sx (by omega) | exact hH.tr (by omega) | exact hH.ur (by omega) | exact (hH.tw (by omega)).1 | exact (hH.uw (by omega)).1 | exact hH.fr (by omega) | exact hH.pl.1) rfl ?_
    refine g_aload hX dX9_isBehindLatestService_14 rfl rfl ?_
    refine g_get hX dX9_isBehindLatestService_15 (by first | exact hob | exact ho0 | exact ho1 | exact ho2 | exact ho3 | exact hH.tx (by omega) | exact hH.ux (by omega) | exact hH.fx (by omega) | exact hH.sx (by omega) | exact hH.tr (by omega) | exact hH.ur (by omega) | exact (hH.tw (by omega)).1 | exact (hH.uw (by omega)).1 | exact hH.fr (by omega) | exact hH.pl.1) rfl ?_
    refine g_cV0 (c2 := 0) (s2 := 0) hX (s_Jx4a65c_size_8abf5 hst) dX9_isBehindLatestService_18 (by first | exact hob | exact ho0 | exact ho1 | exact ho2 | exact ho3 | exact hH.tx (by omega) | exact hH.ux (by omega) | exact hH.fx (by omega) | exact hH.sx (by omega) | exact hH.tr (by omega) | exact hH.ur (by omega) | exact (hH.tw (by omega)).1 | exact (hH.uw (by omega)).1 | exact hH.fr (by omega) | exact hH.pl.1) (by first | exact Nat.le_of_ble_eq_true rfl | simp [cat_rf, Value.category]) ⟨rfl, rfl, by decide, by decide⟩ ?_
    refine ⟨_, _, _, _, _, rfl, hl3, Kc_i ?_⟩
    refine g_const hX dX9_isBehindLatestService_21 ?_
    refine z_isub hX dX9_isBehindLatestService_22 ?_
    refine g_cV1 (c2 := 0) (s2 := 0) hX (s_Jx4a65c_get_915e3 hst) dX9_isBehindLatestService_23 (by first | exact hob | exact ho0 | exact ho1 | exact ho2 | exact ho3 | exact hH.tx (by omega) | exact hH.ux (by omega) | exact hH.fx (by omega) | exact hH.sx (by omega) | exact hH.tr (by omega) | exact hH.ur (by omega) | exact (hH.tw (by omega)).1 | exact (hH.uw (by omega)).1 | exact hH.fr (by omega) | exact hH.pl.1) (by first | exact Nat.le_of_ble_eq_true rfl | simp [cat_rf, Value.category]) ⟨rfl, rfl, by decide, by decide⟩ ?_
    refine ⟨_, _, _, _, _, _, rfl, hl3, by omega, Kc_i ?_⟩
    rw [show ((n3 : Int) - 1).toNat = (σ 3 0 0).toNat - 1 by omega]
    have hsi := hV.s ((σ 3 0 0).toNat - 1) (by omega)
    have hyl9 := ylen_r (σ 42 ((σ 3 0 0).toNat - 1) 0)
    have hdr := dnum_r (y := σ 42 ((σ 3 0 0).toNat - 1) 0) (p := σ 43 ((σ 3 0 0).toNat - 1) 0) (by omega) (by omega)
    refine g_cast hX dX9_isBehindLatestService_26 (by first | exact hob | exact ho0 | exact ho1 | exact ho2 | exact ho3 | exact hH.tx (by omega) | exact hH.ux (by omega) | exact hH.fx (by omega) | exact hH.sx (by omega) | exact hH.tr (by omega) | exact hH.ur (by omega) | exact (hH.tw (by omega)).1 | exact (hH.uw (by omega)).1 | exact hH.fr (by omega) | exact hH.pl.1) ?_
    refine g_get hX dX9_isBehindLatestService_29 (by first | exact hob | exact ho0 | exact ho1 | exact ho2 | exact ho3 | exact hH.tx (by omega) | exact hH.ux (by omega) | exact hH.fx (by omega) | exact hH.sx (by omega) | exact hH.tr (by omega) | exact hH.ur (by omega) | exact (hH.tw (by omega)).1 | exact (hH.uw (by omega)).1 | exact hH.fr (by omega) | exact hH.pl.1) rfl ?_
    refine g_iload hX dX9_isBehindLatestService_32 rfl ?_
    refine z_icmp_ge hX dX9_isBehindLatestService_33 (by first | assumption | (constructor <;> omega)) (by first | assumption | (constructor <;> omega)) (fun c33 => ?_) (fun c33 => ?_)
    · refine g_const hX dX9_isBehindLatestService_40 ?_
      refine g_iret hX hR dX9_isBehindLatestService_41 rfl (by first | rfl | exact nar_b _ | exact nar_01 (by omega)) (by decide) (by decide) ?_
      exact kint hK (bZ_f (fun h9 => h9.elim (fun q => by omega) (fun q => by omega)))
    · refine g_const hX dX9_isBehindLatestService_36 ?_
      refine g_goto hX dX9_isBehindLatestService_37 ?_
      refine g_iret hX hR dX9_isBehindLatestService_41 rfl (by first | rfl | exact nar_b _ | exact nar_01 (by omega)) (by decide) (by decide) ?_
      exact kint hK (bZ_t (Or.inr (by omega)))

def sp_X9_reasonAgainst (g : hG) : hS := fun as M sz K => ∃ (h : Nat) (A : Nat → Nat → Nat) (ow : Nat → Nat × Nat) (σ : SG) (τ : Nat → Nat → Int) (t th : Nat) (y d : Int), as = [.ref h, .ref (A 7 t), .int (iZ (th : Int)), .int (iZ y), .int (iZ d)] ∧ HX g.2.2.2.2 h A ow σ τ M ∧ SV σ ∧ (t : Int) < σ 0 0 0 ∧ th < 16 ∧ (0 ≤ y ∧ y ≤ 5000) ∧ (0 ≤ d ∧ d ≤ 2000000) ∧ K (.inl (some (.int (iZ (reaZ σ t (th : Int) y d))))) M sz
theorem s_X9_reasonAgainst {l : Launch} {g : hG} (hst : l.stackTraces = false) : Ctr l g mX9_reasonAgainst (sp_X9_reasonAgainst g) := by
  refine Ctr.mk9 hst (by decide) ?_ ?_
  · rintro as M sz K ⟨h, A, ow, σ, τ, t, th, y, d, rfl, hH, hV, ht, hth, hy, hd, hK⟩
    exact ⟨by simp [mX9_reasonAgainst], cat_ok rfl⟩
  rintro X as M sz K hX rfl rfl hR ⟨h, A, ow, σ, τ, t, th, y, d, rfl, hH, hV, ht, hth, hy, hd, hK⟩
  show G X 0 [.ref h, .ref (A 7 t), .int (iZ (th : Int)), .int (iZ y), .int (iZ d)] [] M sz 0 0
  obtain ⟨n0, n1, n2, n3, ⟨e0, hn0⟩, ⟨e1, hn1⟩, ⟨e2, hn2⟩, ⟨e3, hn3⟩⟩ := hV.nat
  have hob := hH.ob
  have hl0 := hH.l0 e0
  obtain ⟨mo0, ho0⟩ := hl0.o
  have hl1 := hH.l1 e1
  obtain ⟨mo1, ho1⟩ := hl1.o
  have hl2 := hH.l2 e2
  obtain ⟨mo2, ho2⟩ := hl2.o
  have hl3 := hH.l3 e3
  obtain ⟨mo3, ho3⟩ := hl3.o
  refine g_aload hX dX9_reasonAgainst_0 rfl rfl ?_
  refine g_iload hX dX9_reasonAgainst_1 rfl ?_
  refine g_cVN1 (c2 := 0) (s2 := 0) hX (s_X6_hasTheme hst) dX9_reasonAgainst_2 (by first | exact hob | exact ho0 | exact ho1 | exact ho2 | exact ho3 | exact hH.tx (by omega) | exact hH.ux (by omega) | exact hH.fx (by omega) | exact hH.sx (by omega) | exact hH.tr (by omega) | exact hH.ur (by omega) | exact (hH.tw (by omega)).1 | exact (hH.uw (by omega)).1 | exact hH.fr (by omega) | exact hH.pl.1) (by first | exact Nat.le_of_ble_eq_true rfl | simp [cat_rf, Value.category]) ⟨rfl, rfl, by decide, by decide⟩ ?_
  refine ⟨_, _, _, _, _, _, rfl, hH.tx (by omega), (hV.t t).2.1, hth, Kc_i ?_⟩
  refine z_ifb_ne hX dX9_reasonAgainst_5 (fun c5 => ?_) (fun c5 => ?_)
  · refine g_aload hX dX9_reasonAgainst_10 rfl rfl ?_
    refine g_get hX dX9_reasonAgainst_11 (by first | exact hob | exact ho0 | exact ho1 | exact ho2 | exact ho3 | exact hH.tx (by omega) | exact hH.ux (by omega) | exact hH.fx (by omega) | exact hH.sx (by omega) | exact hH.tr (by omega) | exact hH.ur (by omega) | exact (hH.tw (by omega)).1 | exact (hH.uw (by omega)).1 | exact hH.fr (by omega) | exact hH.pl.1) rfl ?_
    refine g_iload hX dX9_reasonAgainst_14 rfl ?_
    refine g_cVN1 (c2 := 0) (s2 := 0) hX (s_X3_isFreeIn hst) dX9_reasonAgainst_15 (by first | exact hob | exact ho0 | exact ho1 | exact ho2 | exact ho3 | exact hH.tx (by omega) | exact hH.ux (by omega) | exact hH.fx (by omega) | exact hH.sx (by omega) | exact hH.tr (by omega) | exact hH.ur (by omega) | exact (hH.tw (by omega)).1 | exact (hH.uw (by omega)).1 | exact hH.fr (by omega) | exact hH.pl.1) (by first | exact Nat.le_of_ble_eq_true rfl | simp [cat_rf, Value.category]) ⟨rfl, rfl, by decide, by decide⟩ ?_
    refine ⟨_, _, _, _, rfl, hH.tr (by omega), (hV.t t).2.2.1, by have := (hV.t t).1; omega, by omega, Kc_i ?_⟩
    refine z_ifb_ne hX dX9_reasonAgainst_18 (fun c18 => ?_) (fun c18 => ?_)
    · refine g_aload hX dX9_reasonAgainst_23 rfl rfl ?_
      refine g_aload hX dX9_reasonAgainst_24 rfl rfl ?_
      refine g_const hX dX9_reasonAgainst_25 ?_
      refine g_iload hX dX9_reasonAgainst_26 rfl ?_
      refine g_cV3 (c2 := 0) (s2 := 0) hX (s_X9_bestTune hst) dX9_reasonAgainst_27 (by first | exact hob | exact ho0 | exact ho1 | exact ho2 | exact ho3 | exact hH.tx (by omega) | exact hH.ux (by omega) | exact hH.fx (by omega) | exact hH.sx (by omega) | exact hH.tr (by omega) | exact hH.ur (by omega) | exact (hH.tw (by omega)).1 | exact (hH.uw (by omega)).1 | exact hH.fr (by omega) | exact hH.pl.1) (by first | exact Nat.le_of_ble_eq_true rfl | simp [cat_rf, Value.category]) ⟨rfl, rfl, by decide, by decide⟩ ?_
      refine ⟨_, _, _, _, _, _, _, _, rfl, hH, hV, by omega, Or.inr rfl, by omega, Kc_i ?_⟩
      rcases bstZ_r hV t 1 y with hb | ⟨hb0, hb1, hb2⟩
      · rw [rfZ_n hb]
        refine g_ifnonnull (r := none) hX dX9_reasonAgainst_30 rfl (fun a30 z30 => absurd z30 (by simp)) (fun z30 => ?_)
        refine g_const hX dX9_reasonAgainst_33 ?_
        refine g_iret hX hR dX9_reasonAgainst_34 rfl rfl (by decide) (by decide) ?_
        exact kint hK (by unfold reaZ; rw [if_neg (fun h9 => h9 c5), if_neg (fun h9 => h9 c18), if_pos hb])
      obtain ⟨b9, hb⟩ : ∃ b9 : Nat, bstZ σ t 1 y = (b9 : Int) := ⟨(bstZ σ t 1 y).toNat, by omega⟩
      rw [rfZ_s hb]
      refine g_ifnonnull (r := some _) hX dX9_reasonAgainst_30 rfl (fun a30 z30 => ?_) (fun z30 => absurd z30 (by simp))
      · refine g_aload hX dX9_reasonAgainst_35 rfl rfl ?_
        refine g_aload hX dX9_reasonAgainst_36 rfl rfl ?_
        refine g_iload hX dX9_reasonAgainst_37 rfl ?_
        refine g_cV2 (c2 := 0) (s2 := 0) hX (s_X9_wasSungLately hst) dX9_reasonAgainst_39 (by first | exact hob | exact ho0 | exact ho1 | exact ho2 | exact ho3 | exact hH.tx (by omega) | exact hH.ux (by omega) | exact hH.fx (by omega) | exact hH.sx (by omega) | exact hH.tr (by omega) | exact hH.ur (by omega) | exact (hH.tw (by omega)).1 | exact (hH.uw (by omega)).1 | exact hH.fr (by omega) | exact hH.pl.1) (by first | exact Nat.le_of_ble_eq_true rfl | simp [cat_rf, Value.category]) ⟨rfl, rfl, by decide, by decide⟩ ?_
        refine ⟨_, _, _, _, _, _, _, rfl, hH, hV, by omega, by omega, Kc_i ?_⟩
        refine z_ifb_eq hX dX9_reasonAgainst_42 (fun c42 => ?_) (fun c42 => ?_)
        · refine g_const hX dX9_reasonAgainst_49 ?_
          refine g_iret hX hR dX9_reasonAgainst_50 rfl rfl (by decide) (by decide) ?_
          exact kint hK (by unfold reaZ; rw [if_neg (fun h9 => h9 c5), if_neg (fun h9 => h9 c18), if_neg (by omega), if_neg c42])
        · refine g_const hX dX9_reasonAgainst_45 ?_
          refine g_goto hX dX9_reasonAgainst_46 ?_
          refine g_iret hX hR dX9_reasonAgainst_50 rfl rfl (by decide) (by decide) ?_
          exact kint hK (by unfold reaZ; rw [if_neg (fun h9 => h9 c5), if_neg (fun h9 => h9 c18), if_neg (by omega), if_pos c42])
    · refine g_const hX dX9_reasonAgainst_21 ?_
      refine g_iret hX hR dX9_reasonAgainst_22 rfl rfl (by decide) (by decide) ?_
      exact kint hK (by unfold reaZ; rw [if_neg (fun h9 => h9 c5), if_pos c18])
  · refine g_const hX dX9_reasonAgainst_8 ?_
    refine g_iret hX hR dX9_reasonAgainst_9 rfl rfl (by decide) (by decide) ?_
    exact kint hK (by unfold reaZ; rw [if_pos c5])

def sp_X9_chooseText (g : hG) : hS := fun as M sz K => ∃ (h : Nat) (A : Nat → Nat → Nat) (ow : Nat → Nat × Nat) (σ : SG) (τ : Nat → Nat → Int) (th : Nat) (y d : Int), as = [.ref h, .int (iZ (th : Int)), .int (iZ y), .int (iZ d)] ∧ HX g.2.2.2.2 h A ow σ τ M ∧ SV σ ∧ th < 16 ∧ (0 ≤ y ∧ y ≤ 5000) ∧ (0 ≤ d ∧ d ≤ 2000000) ∧ K (.inl (some (rfZ A 7 (hymZ σ (th : Int) y d)))) M sz
theorem s_X9_chooseText {l : Launch} {g : hG} (hst : l.stackTraces = false) : Ctr l g mX9_chooseText (sp_X9_chooseText g) := by
  refine Ctr.mk9 hst (by decide) ?_ ?_
  · rintro as M sz K ⟨h, A, ow, σ, τ, th, y, d, rfl, hH, hV, hth, hy, hd, hK⟩
    exact ⟨by simp [mX9_chooseText], cat_ok rfl⟩
  rintro X as M sz K hX rfl rfl hR ⟨h, A, ow, σ, τ, th, y, d, rfl, hH, hV, hth, hy, hd, hK⟩
  show G X 0 [.ref h, .int (iZ (th : Int)), .int (iZ y), .int (iZ d), U9, U9, U9, U9, U9, U9, U9, U9, U9] [] M sz 0 0
  obtain ⟨n0, n1, n2, n3, ⟨e0, hn0⟩, ⟨e1, hn1⟩, ⟨e2, hn2⟩, ⟨e3, hn3⟩⟩ := hV.nat
  have hob := hH.ob
  have hl0 := hH.l0 e0
  obtain ⟨mo0, ho0⟩ := hl0.o
  have hl1 := hH.l1 e1
  obtain ⟨mo1, ho1⟩ := hl1.o
  have hl2 := hH.l2 e2
  obtain ⟨mo2, ho2⟩ := hl2.o
  have hl3 := hH.l3 e3
  obtain ⟨mo3, ho3⟩ := hl3.o
  have loop : ∀ (k9 t : Nat) (v8 v9 v10 v11 v12 : Value), t + k9 = n0 → G X 12 [.ref h, .int (iZ (th : Int)), .int (iZ y), .int (iZ d), rfZ A 7 (hymK σ th y d t), .int (iZ (hmZ σ (hymK σ th y d t))), .int (iZ (hcZ σ y (hymK σ th y d t))), .int (iZ (t : Int)), v8, v9, v10, v11, v12] [] M sz 0 0 := by
    intro k9
    induction k9 with
    | zero =>
      intro t v8 v9 v10 v11 v12 hk
      have hun : t = (σ 0 0 0).toNat := by omega
      rcases hym_r σ th y d t with hb | ⟨hb0, hb1, hb2⟩
      · rw [rfZ_n hb, show hmZ σ (hymK σ th y d t) = 0 from if_pos hb, show hcZ σ y (hymK σ th y d t) = 0 from if_pos hb]
        have hbz : hymZ σ th y d = -100 := by unfold hymZ; rw [← hun]; exact hb
        refine g_iload hX dX9_chooseText_12 rfl ?_
        refine g_aload hX dX9_chooseText_14 rfl rfl ?_
        refine g_get hX dX9_chooseText_15 (by first | exact hob | exact ho0 | exact ho1 | exact ho2 | exact ho3 | exact hH.tx (by omega) | exact hH.ux (by omega) | exact hH.fx (by omega) | exact hH.sx (by omega) | exact hH.tr (by omega) | exact hH.ur (by omega) | exact (hH.tw (by omega)).1 | exact (hH.uw (by omega)).1 | exact hH.fr (by omega) | exact hH.pl.1) rfl ?_
        refine g_cV0 (c2 := 0) (s2 := 0) hX (s_Jx4a65c_size_8abf5 hst) dX9_chooseText_18 (by first | exact hob | exact ho0 | exact ho1 | exact ho2 | exact ho3 | exact hH.tx (by omega) | exact hH.ux (by omega) | exact hH.fx (by omega) | exact hH.sx (by omega) | exact hH.tr (by omega) | exact hH.ur (by omega) | exact (hH.tw (by omega)).1 | exact (hH.uw (by omega)).1 | exact hH.fr (by omega) | exact hH.pl.1) (by first | exact Nat.le_of_ble_eq_true rfl | simp [cat_rf, Value.category]) ⟨rfl, rfl, by decide, by decide⟩ ?_
        refine ⟨_, _, _, _, _, rfl, hl0, Kc_i ?_⟩
        refine z_icmp_ge hX dX9_chooseText_21 (by first | assumption | (constructor <;> omega)) (by first | assumption | (constructor <;> omega)) (fun c21 => ?_) (fun c21 => ?_)
        · refine g_aload hX dX9_chooseText_138 rfl rfl ?_
          refine g_aret hX hR dX9_chooseText_140 rfl (by first | exact Or.inl ⟨_, rfl⟩ | exact Or.inr ⟨_, rfl⟩) (by first | rfl | exact isRefV_rf _) (by decide) (by decide) ?_
          have hK2 := hK
          rw [show hymZ σ th y d = -100 from hbz] at hK2
          rw [rfZ_n rfl] at hK2
          exact hK2
        · exfalso; omega
      · obtain ⟨b9, hb⟩ : ∃ b9 : Nat, hymK σ th y d t = (b9 : Int) := ⟨(hymK σ th y d t).toNat, by omega⟩
        rw [rfZ_s hb, hmZ_s hb, hcZ_s hb]
        have hcl9 := cl_r hV b9 (bstZ σ b9 1 y).toNat
        have htm9 := tim_r hV b9
        have hbz : hymZ σ th y d = (b9 : Int) := by unfold hymZ; rw [← hun]; exact hb
        refine g_iload hX dX9_chooseText_12 rfl ?_
        refine g_aload hX dX9_chooseText_14 rfl rfl ?_
        refine g_get hX dX9_chooseText_15 (by first | exact hob | exact ho0 | exact ho1 | exact ho2 | exact ho3 | exact hH.tx (by omega) | exact hH.ux (by omega) | exact hH.fx (by omega) | exact hH.sx (by omega) | exact hH.tr (by omega) | exact hH.ur (by omega) | exact (hH.tw (by omega)).1 | exact (hH.uw (by omega)).1 | exact hH.fr (by omega) | exact hH.pl.1) rfl ?_
        refine g_cV0 (c2 := 0) (s2 := 0) hX (s_Jx4a65c_size_8abf5 hst) dX9_chooseText_18 (by first | exact hob | exact ho0 | exact ho1 | exact ho2 | exact ho3 | exact hH.tx (by omega) | exact hH.ux (by omega) | exact hH.fx (by omega) | exact hH.sx (by omega) | exact hH.tr (by omega) | exact hH.ur (by omega) | exact (hH.tw (by omega)).1 | exact (hH.uw (by omega)).1 | exact hH.fr (by omega) | exact hH.pl.1) (by first | exact Nat.le_of_ble_eq_true rfl | simp [cat_rf, Value.category]) ⟨rfl, rfl, by decide, by decide⟩ ?_
        refine ⟨_, _, _, _, _, rfl, hl0, Kc_i ?_⟩
        refine z_icmp_ge hX dX9_chooseText_21 (by first | assumption | (constructor <;> omega)) (by first | assumption | (constructor <;> omega)) (fun c21 => ?_) (fun c21 => ?_)
        · refine g_aload hX dX9_chooseText_138 rfl rfl ?_
          refine g_aret hX hR dX9_chooseText_140 rfl (by first | exact Or.inl ⟨_, rfl⟩ | exact Or.inr ⟨_, rfl⟩) (by first | rfl | exact isRefV_rf _) (by decide) (by decide) ?_
          have hK2 := hK
          rw [show hymZ σ th y d = (b9 : Int) from hbz] at hK2
          rw [rfZ_s rfl] at hK2
          exact hK2
        · exfalso; omega
    | succ k9 ih =>
      intro t v8 v9 v10 v11 v12 hk
      rcases hym_r σ th y d t with hb | ⟨hb0, hb1, hb2⟩
      · rw [rfZ_n hb, show hmZ σ (hymK σ th y d t) = 0 from if_pos hb, show hcZ σ y (hymK σ th y d t) = 0 from if_pos hb]
        refine g_iload hX dX9_chooseText_12 rfl ?_
        refine g_aload hX dX9_chooseText_14 rfl rfl ?_
        refine g_get hX dX9_chooseText_15 (by first | exact hob | exact ho0 | exact ho1 | exact ho2 | exact ho3 | exact hH.tx (by omega) | exact hH.ux (by omega) | exact hH.fx (by omega) | exact hH.sx (by omega) | exact hH.tr (by omega) | exact hH.ur (by omega) | exact (hH.tw (by omega)).1 | exact (hH.uw (by omega)).1 | exact hH.fr (by omega) | exact hH.pl.1) rfl ?_
        refine g_cV0 (c2 := 0) (s2 := 0) hX (s_Jx4a65c_size_8abf5 hst) dX9_chooseText_18 (by first | exact hob | exact ho0 | exact ho1 | exact ho2 | exact ho3 | exact hH.tx (by omega) | exact hH.ux (by omega) | exact hH.fx (by omega) | exact hH.sx (by omega) | exact hH.tr (by omega) | exact hH.ur (by omega) | exact (hH.tw (by omega)).1 | exact (hH.uw (by omega)).1 | exact hH.fr (by omega) | exact hH.pl.1) (by first | exact Nat.le_of_ble_eq_true rfl | simp [cat_rf, Value.category]) ⟨rfl, rfl, by decide, by decide⟩ ?_
        refine ⟨_, _, _, _, _, rfl, hl0, Kc_i ?_⟩
        refine z_icmp_ge hX dX9_chooseText_21 (by first | assumption | (constructor <;> omega)) (by first | assumption | (constructor <;> omega)) (fun c21 => ?_) (fun c21 => ?_)
        · exfalso; omega
        · refine g_aload hX dX9_chooseText_24 rfl rfl ?_
          refine g_get hX dX9_chooseText_25 (by first | exact hob | exact ho0 | exact ho1 | exact ho2 | exact ho3 | exact hH.tx (by omega) | exact hH.ux (by omega) | exact hH.fx (by omega) | exact hH.sx (by omega) | exact hH.tr (by omega) | exact hH.ur (by omega) | exact (hH.tw (by omega)).1 | exact (hH.uw (by omega)).1 | exact hH.fr (by omega) | exact hH.pl.1) rfl ?_
          refine g_iload hX dX9_chooseText_28 rfl ?_
          refine g_cV1 (c2 := 0) (s2 := 0) hX (s_Jx4a65c_get_915e3 hst) dX9_chooseText_30 (by first | exact hob | exact ho0 | exact ho1 | exact ho2 | exact ho3 | exact hH.tx (by omega) | exact hH.ux (by omega) | exact hH.fx (by omega) | exact hH.sx (by omega) | exact hH.tr (by omega) | exact hH.ur (by omega) | exact (hH.tw (by omega)).1 | exact (hH.uw (by omega)).1 | exact hH.fr (by omega) | exact hH.pl.1) (by first | exact Nat.le_of_ble_eq_true rfl | simp [cat_rf, Value.category]) ⟨rfl, rfl, by decide, by decide⟩ ?_
          refine ⟨_, _, _, _, _, _, rfl, hl0, by omega, Kc_i ?_⟩
          simp only [Int.toNat_natCast]
          refine g_cast hX dX9_chooseText_33 (by first | exact hob | exact ho0 | exact ho1 | exact ho2 | exact ho3 | exact hH.tx (by omega) | exact hH.ux (by omega) | exact hH.fx (by omega) | exact hH.sx (by omega) | exact hH.tr (by omega) | exact hH.ur (by omega) | exact (hH.tw (by omega)).1 | exact (hH.uw (by omega)).1 | exact hH.fr (by omega) | exact hH.pl.1) ?_
          refine g_astore hX dX9_chooseText_36 rfl ?_
          dsimp only [List.set]
          refine g_aload hX dX9_chooseText_38 rfl rfl ?_
          refine g_aload hX dX9_chooseText_39 rfl rfl ?_
          refine g_const hX dX9_chooseText_41 ?_
          refine g_iload hX dX9_chooseText_42 rfl ?_
          refine g_cV3 (c2 := 0) (s2 := 0) hX (s_X9_bestTune hst) dX9_chooseText_43 (by first | exact hob | exact ho0 | exact ho1 | exact ho2 | exact ho3 | exact hH.tx (by omega) | exact hH.ux (by omega) | exact hH.fx (by omega) | exact hH.sx (by omega) | exact hH.tr (by omega) | exact hH.ur (by omega) | exact (hH.tw (by omega)).1 | exact (hH.uw (by omega)).1 | exact hH.fr (by omega) | exact hH.pl.1) (by first | exact Nat.le_of_ble_eq_true rfl | simp [cat_rf, Value.category]) ⟨rfl, rfl, by decide, by decide⟩ ?_
          refine ⟨_, _, _, _, _, _, _, _, rfl, hH, hV, by omega, Or.inr rfl, by omega, Kc_i ?_⟩
          rcases bstZ_r hV t 1 y with hbu | ⟨hbu0, hbu1, hbu2⟩
          · rw [rfZ_n hbu]
            refine g_astore hX dX9_chooseText_46 rfl ?_
            dsimp only [List.set]
            refine g_aload hX dX9_chooseText_48 rfl rfl ?_
            refine g_ifnull (r := none) hX dX9_chooseText_50 rfl (fun z50 => ?_) (fun a50 z50 => absurd z50 (by simp))
            refine z_iinc hX dX9_chooseText_132 rfl ?_
            dsimp only [List.set]
            refine g_goto hX dX9_chooseText_135 ?_
            have hb1 : hymK σ th y d (t + 1) = -100 := (hym_n (fun h9 => rea_b h9.1 hbu)).trans hb
            have e1 := rfZ_n (A := A) (k := 7) hb1
            have e2 : hmZ σ (hymK σ th y d (t + 1)) = 0 := if_pos hb1
            have e3 : hcZ σ y (hymK σ th y d (t + 1)) = 0 := if_pos hb1
            have h9 := fun v8 v9 v10 v11 v12 => ih (t + 1) v8 v9 v10 v11 v12 (by omega)
            simp only [e1, e2, e3] at h9
            exact h9 _ _ _ _ _
          obtain ⟨u9, hbu⟩ : ∃ u9 : Nat, bstZ σ t 1 y = (u9 : Int) := ⟨(bstZ σ t 1 y).toNat, by omega⟩
          rw [hbu, Int.toNat_natCast] at hbu2
          rw [rfZ_s hbu]
          have hclu := cl_r hV t u9
          have htmt := tim_r hV t
          · refine g_astore hX dX9_chooseText_46 rfl ?_
            dsimp only [List.set]
            refine g_aload hX dX9_chooseText_48 rfl rfl ?_
            refine g_ifnull (r := some _) hX dX9_chooseText_50 rfl (fun z50 => absurd z50 (by simp)) (fun a50 z50 => ?_)
            refine g_aload hX dX9_chooseText_53 rfl rfl ?_
            refine g_aload hX dX9_chooseText_54 rfl rfl ?_
            refine g_iload hX dX9_chooseText_56 rfl ?_
            refine g_iload hX dX9_chooseText_57 rfl ?_
            refine g_iload hX dX9_chooseText_58 rfl ?_
            refine g_cV4 (c2 := 0) (s2 := 0) hX (s_X9_reasonAgainst hst) dX9_chooseText_59 (by first | exact hob | exact ho0 | exact ho1 | exact ho2 | exact ho3 | exact hH.tx (by omega) | exact hH.ux (by omega) | exact hH.fx (by omega) | exact hH.sx (by omega) | exact hH.tr (by omega) | exact hH.ur (by omega) | exact (hH.tw (by omega)).1 | exact (hH.uw (by omega)).1 | exact hH.fr (by omega) | exact hH.pl.1) (by first | exact Nat.le_of_ble_eq_true rfl | simp [cat_rf, Value.category]) ⟨rfl, rfl, by decide, by decide⟩ ?_
            refine ⟨_, _, _, _, _, _, _, _, _, rfl, hH, hV, by omega, hth, by omega, by omega, Kc_i ?_⟩
            have hre := rea_r σ t (th : Int) y d
            refine z_if_ne hX dX9_chooseText_62 (by first | assumption | (constructor <;> omega)) (fun c62 => ?_) (fun c62 => ?_)
            · refine z_iinc hX dX9_chooseText_132 rfl ?_
              dsimp only [List.set]
              refine g_goto hX dX9_chooseText_135 ?_
              have hb1 : hymK σ th y d (t + 1) = -100 := (hym_n (fun h9 => c62 h9.1)).trans hb
              have e1 := rfZ_n (A := A) (k := 7) hb1
              have e2 : hmZ σ (hymK σ th y d (t + 1)) = 0 := if_pos hb1
              have e3 : hcZ σ y (hymK σ th y d (t + 1)) = 0 := if_pos hb1
              have h9 := fun v8 v9 v10 v11 v12 => ih (t + 1) v8 v9 v10 v11 v12 (by omega)
              simp only [e1, e2, e3] at h9
              exact h9 _ _ _ _ _
            · refine g_aload hX dX9_chooseText_65 rfl rfl ?_
              refine g_aload hX dX9_chooseText_66 rfl rfl ?_
              refine g_cV1 (c2 := 0) (s2 := 0) hX (s_X9_countServices hst) dX9_chooseText_68 (by first | exact hob | exact ho0 | exact ho1 | exact ho2 | exact ho3 | exact hH.tx (by omega) | exact hH.ux (by omega) | exact hH.fx (by omega) | exact hH.sx (by omega) | exact hH.tr (by omega) | exact hH.ur (by omega) | exact (hH.tw (by omega)).1 | exact (hH.uw (by omega)).1 | exact hH.fr (by omega) | exact hH.pl.1) (by first | exact Nat.le_of_ble_eq_true rfl | simp [cat_rf, Value.category]) ⟨rfl, rfl, by decide, by decide⟩ ?_
              refine ⟨_, _, _, _, _, _, rfl, hH, hV, by omega, Kc_i ?_⟩
              refine g_istore hX dX9_chooseText_71 ?_
              dsimp only [List.set]
              refine g_aload hX dX9_chooseText_73 rfl rfl ?_
              refine g_aload hX dX9_chooseText_75 rfl rfl ?_
              refine g_cS2 (c2 := 0) (s2 := 0) hX (s_X9_countClashes hst) dX9_chooseText_77 (by first | exact Nat.le_of_ble_eq_true rfl | simp [cat_rf, Value.category]) ⟨rfl, rfl, by decide, by decide⟩ ?_
              refine ⟨_, _, _, _, _, t, u9, rfl, hH, hV, by omega, by omega, hbu2, Kc_i ?_⟩
              refine g_istore hX dX9_chooseText_80 ?_
              dsimp only [List.set]
              refine g_iload hX dX9_chooseText_82 rfl ?_
              refine g_iload hX dX9_chooseText_84 rfl ?_
              refine z_icmp_gt hX dX9_chooseText_86 (by first | assumption | (constructor <;> omega)) (by first | assumption | (constructor <;> omega)) (fun c86 => ?_) (fun c86 => ?_)
              · refine g_const hX dX9_chooseText_103 ?_
                refine g_goto hX dX9_chooseText_104 ?_
                refine g_istore hX dX9_chooseText_108 ?_
                dsimp only [List.set]
                refine g_aload hX dX9_chooseText_110 rfl rfl ?_
                refine g_ifnull (r := none) hX dX9_chooseText_112 rfl (fun z112 => ?_) (fun a112 z112 => absurd z112 (by simp))
                refine g_aload hX dX9_chooseText_120 rfl rfl ?_
                refine g_astore hX dX9_chooseText_122 rfl ?_
                dsimp only [List.set]
                refine g_iload hX dX9_chooseText_124 rfl ?_
                refine g_istore hX dX9_chooseText_126 ?_
                dsimp only [List.set]
                refine g_iload hX dX9_chooseText_128 rfl ?_
                refine g_istore hX dX9_chooseText_130 ?_
                dsimp only [List.set]
                refine z_iinc hX dX9_chooseText_132 rfl ?_
                dsimp only [List.set]
                refine g_goto hX dX9_chooseText_135 ?_
                have hb1 : hymK σ th y d (t + 1) = (t : Int) := hym_y (⟨c62, Or.inl hb⟩)
                have e1 := rfZ_s (A := A) (k := 7) hb1
                have e2 := hmZ_s (σ := σ) hb1
                have e3 := hcZ_s (σ := σ) (y := y) hb1
                rw [hbu, Int.toNat_natCast] at e3
                have h9 := fun v8 v9 v10 v11 v12 => ih (t + 1) v8 v9 v10 v11 v12 (by omega)
                simp only [e1, e2, e3] at h9
                exact h9 _ _ _ _ _
              · refine g_iload hX dX9_chooseText_89 rfl ?_
                refine g_iload hX dX9_chooseText_91 rfl ?_
                refine z_icmp_ne hX dX9_chooseText_93 (by first | assumption | (constructor <;> omega)) (by first | assumption | (constructor <;> omega)) (fun c93 => ?_) (fun c93 => ?_)
                · refine g_const hX dX9_chooseText_107 ?_
                  refine g_istore hX dX9_chooseText_108 ?_
                  dsimp only [List.set]
                  refine g_aload hX dX9_chooseText_110 rfl rfl ?_
                  refine g_ifnull (r := none) hX dX9_chooseText_112 rfl (fun z112 => ?_) (fun a112 z112 => absurd z112 (by simp))
                  refine g_aload hX dX9_chooseText_120 rfl rfl ?_
                  refine g_astore hX dX9_chooseText_122 rfl ?_
                  dsimp only [List.set]
                  refine g_iload hX dX9_chooseText_124 rfl ?_
                  refine g_istore hX dX9_chooseText_126 ?_
                  dsimp only [List.set]
                  refine g_iload hX dX9_chooseText_128 rfl ?_
                  refine g_istore hX dX9_chooseText_130 ?_
                  dsimp only [List.set]
                  refine z_iinc hX dX9_chooseText_132 rfl ?_
                  dsimp only [List.set]
                  refine g_goto hX dX9_chooseText_135 ?_
                  have hb1 : hymK σ th y d (t + 1) = (t : Int) := hym_y (⟨c62, Or.inl hb⟩)
                  have e1 := rfZ_s (A := A) (k := 7) hb1
                  have e2 := hmZ_s (σ := σ) hb1
                  have e3 := hcZ_s (σ := σ) (y := y) hb1
                  rw [hbu, Int.toNat_natCast] at e3
                  have h9 := fun v8 v9 v10 v11 v12 => ih (t + 1) v8 v9 v10 v11 v12 (by omega)
                  simp only [e1, e2, e3] at h9
                  exact h9 _ _ _ _ _
                · refine g_iload hX dX9_chooseText_96 rfl ?_
                  refine g_iload hX dX9_chooseText_98 rfl ?_
                  refine z_icmp_ge hX dX9_chooseText_100 (by first | assumption | (constructor <;> omega)) (by first | assumption | (constructor <;> omega)) (fun c100 => ?_) (fun c100 => ?_)
                  · refine g_const hX dX9_chooseText_107 ?_
                    refine g_istore hX dX9_chooseText_108 ?_
                    dsimp only [List.set]
                    refine g_aload hX dX9_chooseText_110 rfl rfl ?_
                    refine g_ifnull (r := none) hX dX9_chooseText_112 rfl (fun z112 => ?_) (fun a112 z112 => absurd z112 (by simp))
                    refine g_aload hX dX9_chooseText_120 rfl rfl ?_
                    refine g_astore hX dX9_chooseText_122 rfl ?_
                    dsimp only [List.set]
                    refine g_iload hX dX9_chooseText_124 rfl ?_
                    refine g_istore hX dX9_chooseText_126 ?_
                    dsimp only [List.set]
                    refine g_iload hX dX9_chooseText_128 rfl ?_
                    refine g_istore hX dX9_chooseText_130 ?_
                    dsimp only [List.set]
                    refine z_iinc hX dX9_chooseText_132 rfl ?_
                    dsimp only [List.set]
                    refine g_goto hX dX9_chooseText_135 ?_
                    have hb1 : hymK σ th y d (t + 1) = (t : Int) := hym_y (⟨c62, Or.inl hb⟩)
                    have e1 := rfZ_s (A := A) (k := 7) hb1
                    have e2 := hmZ_s (σ := σ) hb1
                    have e3 := hcZ_s (σ := σ) (y := y) hb1
                    rw [hbu, Int.toNat_natCast] at e3
                    have h9 := fun v8 v9 v10 v11 v12 => ih (t + 1) v8 v9 v10 v11 v12 (by omega)
                    simp only [e1, e2, e3] at h9
                    exact h9 _ _ _ _ _
                  · refine g_const hX dX9_chooseText_103 ?_
                    refine g_goto hX dX9_chooseText_104 ?_
                    refine g_istore hX dX9_chooseText_108 ?_
                    dsimp only [List.set]
                    refine g_aload hX dX9_chooseText_110 rfl rfl ?_
                    refine g_ifnull (r := none) hX dX9_chooseText_112 rfl (fun z112 => ?_) (fun a112 z112 => absurd z112 (by simp))
                    refine g_aload hX dX9_chooseText_120 rfl rfl ?_
                    refine g_astore hX dX9_chooseText_122 rfl ?_
                    dsimp only [List.set]
                    refine g_iload hX dX9_chooseText_124 rfl ?_
                    refine g_istore hX dX9_chooseText_126 ?_
                    dsimp only [List.set]
                    refine g_iload hX dX9_chooseText_128 rfl ?_
                    refine g_istore hX dX9_chooseText_130 ?_
                    dsimp only [List.set]
                    refine z_iinc hX dX9_chooseText_132 rfl ?_
                    dsimp only [List.set]
                    refine g_goto hX dX9_chooseText_135 ?_
                    have hb1 : hymK σ th y d (t + 1) = (t : Int) := hym_y (⟨c62, Or.inl hb⟩)
                    have e1 := rfZ_s (A := A) (k := 7) hb1
                    have e2 := hmZ_s (σ := σ) hb1
                    have e3 := hcZ_s (σ := σ) (y := y) hb1
                    rw [hbu, Int.toNat_natCast] at e3
                    have h9 := fun v8 v9 v10 v11 v12 => ih (t + 1) v8 v9 v10 v11 v12 (by omega)
                    simp only [e1, e2, e3] at h9
                    exact h9 _ _ _ _ _
      · obtain ⟨b9, hb⟩ : ∃ b9 : Nat, hymK σ th y d t = (b9 : Int) := ⟨(hymK σ th y d t).toNat, by omega⟩
        rw [rfZ_s hb, hmZ_s hb, hcZ_s hb]
        have hcl9 := cl_r hV b9 (bstZ σ b9 1 y).toNat
        have htm9 := tim_r hV b9
        refine g_iload hX dX9_chooseText_12 rfl ?_
        refine g_aload hX dX9_chooseText_14 rfl rfl ?_
        refine g_get hX dX9_chooseText_15 (by first | exact hob | exact ho0 | exact ho1 | exact ho2 | exact ho3 | exact hH.tx (by omega) | exact hH.ux (by omega) | exact hH.fx (by omega) | exact hH.sx (by omega) | exact hH.tr (by omega) | exact hH.ur (by omega) | exact (hH.tw (by omega)).1 | exact (hH.uw (by omega)).1 | exact hH.fr (by omega) | exact hH.pl.1) rfl ?_
        refine g_cV0 (c2 := 0) (s2 := 0) hX (s_Jx4a65c_size_8abf5 hst) dX9_chooseText_18 (by first | exact hob | exact ho0 | exact ho1 | exact ho2 | exact ho3 | exact hH.tx (by omega) | exact hH.ux (by omega) | exact hH.fx (by omega) | exact hH.sx (by omega) | exact hH.tr (by omega) | exact hH.ur (by omega) | exact (hH.tw (by omega)).1 | exact (hH.uw (by omega)).1 | exact hH.fr (by omega) | exact hH.pl.1) (by first | exact Nat.le_of_ble_eq_true rfl | simp [cat_rf, Value.category]) ⟨rfl, rfl, by decide, by decide⟩ ?_
        refine ⟨_, _, _, _, _, rfl, hl0, Kc_i ?_⟩
        refine z_icmp_ge hX dX9_chooseText_21 (by first | assumption | (constructor <;> omega)) (by first | assumption | (constructor <;> omega)) (fun c21 => ?_) (fun c21 => ?_)
        · exfalso; omega
        · refine g_aload hX dX9_chooseText_24 rfl rfl ?_
          refine g_get hX dX9_chooseText_25 (by first | exact hob | exact ho0 | exact ho1 | exact ho2 | exact ho3 | exact hH.tx (by omega) | exact hH.ux (by omega) | exact hH.fx (by omega) | exact hH.sx (by omega) | exact hH.tr (by omega) | exact hH.ur (by omega) | exact (hH.tw (by omega)).1 | exact (hH.uw (by omega)).1 | exact hH.fr (by omega) | exact hH.pl.1) rfl ?_
          refine g_iload hX dX9_chooseText_28 rfl ?_
          refine g_cV1 (c2 := 0) (s2 := 0) hX (s_Jx4a65c_get_915e3 hst) dX9_chooseText_30 (by first | exact hob | exact ho0 | exact ho1 | exact ho2 | exact ho3 | exact hH.tx (by omega) | exact hH.ux (by omega) | exact hH.fx (by omega) | exact hH.sx (by omega) | exact hH.tr (by omega) | exact hH.ur (by omega) | exact (hH.tw (by omega)).1 | exact (hH.uw (by omega)).1 | exact hH.fr (by omega) | exact hH.pl.1) (by first | exact Nat.le_of_ble_eq_true rfl | simp [cat_rf, Value.category]) ⟨rfl, rfl, by decide, by decide⟩ ?_
          refine ⟨_, _, _, _, _, _, rfl, hl0, by omega, Kc_i ?_⟩
          simp only [Int.toNat_natCast]
          refine g_cast hX dX9_chooseText_33 (by first | exact hob | exact ho0 | exact ho1 | exact ho2 | exact ho3 | exact hH.tx (by omega) | exact hH.ux (by omega) | exact hH.fx (by omega) | exact hH.sx (by omega) | exact hH.tr (by omega) | exact hH.ur (by omega) | exact (hH.tw (by omega)).1 | exact (hH.uw (by omega)).1 | exact hH.fr (by omega) | exact hH.pl.1) ?_
          refine g_astore hX dX9_chooseText_36 rfl ?_
          dsimp only [List.set]
          refine g_aload hX dX9_chooseText_38 rfl rfl ?_
          refine g_aload hX dX9_chooseText_39 rfl rfl ?_
          refine g_const hX dX9_chooseText_41 ?_
          refine g_iload hX dX9_chooseText_42 rfl ?_
          refine g_cV3 (c2 := 0) (s2 := 0) hX (s_X9_bestTune hst) dX9_chooseText_43 (by first | exact hob | exact ho0 | exact ho1 | exact ho2 | exact ho3 | exact hH.tx (by omega) | exact hH.ux (by omega) | exact hH.fx (by omega) | exact hH.sx (by omega) | exact hH.tr (by omega) | exact hH.ur (by omega) | exact (hH.tw (by omega)).1 | exact (hH.uw (by omega)).1 | exact hH.fr (by omega) | exact hH.pl.1) (by first | exact Nat.le_of_ble_eq_true rfl | simp [cat_rf, Value.category]) ⟨rfl, rfl, by decide, by decide⟩ ?_
          refine ⟨_, _, _, _, _, _, _, _, rfl, hH, hV, by omega, Or.inr rfl, by omega, Kc_i ?_⟩
          rcases bstZ_r hV t 1 y with hbu | ⟨hbu0, hbu1, hbu2⟩
          · rw [rfZ_n hbu]
            refine g_astore hX dX9_chooseText_46 rfl ?_
            dsimp only [List.set]
            refine g_aload hX dX9_chooseText_48 rfl rfl ?_
            refine g_ifnull (r := none) hX dX9_chooseText_50 rfl (fun z50 => ?_) (fun a50 z50 => absurd z50 (by simp))
            refine z_iinc hX dX9_chooseText_132 rfl ?_
            dsimp only [List.set]
            refine g_goto hX dX9_chooseText_135 ?_
            have hb1 : hymK σ th y d (t + 1) = (b9 : Int) := (hym_n (fun h9 => rea_b h9.1 hbu)).trans hb
            have e1 := rfZ_s (A := A) (k := 7) hb1
            have e2 := hmZ_s (σ := σ) hb1
            have e3 := hcZ_s (σ := σ) (y := y) hb1
            have h9 := fun v8 v9 v10 v11 v12 => ih (t + 1) v8 v9 v10 v11 v12 (by omega)
            simp only [e1, e2, e3] at h9
            exact h9 _ _ _ _ _
          obtain ⟨u9, hbu⟩ : ∃ u9 : Nat, bstZ σ t 1 y = (u9 : Int) := ⟨(bstZ σ t 1 y).toNat, by omega⟩
          rw [hbu, Int.toNat_natCast] at hbu2
          rw [rfZ_s hbu]
          have hclu := cl_r hV t u9
          have htmt := tim_r hV t
          · refine g_astore hX dX9_chooseText_46 rfl ?_
            dsimp only [List.set]
            refine g_aload hX dX9_chooseText_48 rfl rfl ?_
            refine g_ifnull (r := some _) hX dX9_chooseText_50 rfl (fun z50 => absurd z50 (by simp)) (fun a50 z50 => ?_)
            refine g_aload hX dX9_chooseText_53 rfl rfl ?_
            refine g_aload hX dX9_chooseText_54 rfl rfl ?_
            refine g_iload hX dX9_chooseText_56 rfl ?_
            refine g_iload hX dX9_chooseText_57 rfl ?_
            refine g_iload hX dX9_chooseText_58 rfl ?_
            refine g_cV4 (c2 := 0) (s2 := 0) hX (s_X9_reasonAgainst hst) dX9_chooseText_59 (by first | exact hob | exact ho0 | exact ho1 | exact ho2 | exact ho3 | exact hH.tx (by omega) | exact hH.ux (by omega) | exact hH.fx (by omega) | exact hH.sx (by omega) | exact hH.tr (by omega) | exact hH.ur (by omega) | exact (hH.tw (by omega)).1 | exact (hH.uw (by omega)).1 | exact hH.fr (by omega) | exact hH.pl.1) (by first | exact Nat.le_of_ble_eq_true rfl | simp [cat_rf, Value.category]) ⟨rfl, rfl, by decide, by decide⟩ ?_
            refine ⟨_, _, _, _, _, _, _, _, _, rfl, hH, hV, by omega, hth, by omega, by omega, Kc_i ?_⟩
            have hre := rea_r σ t (th : Int) y d
            refine z_if_ne hX dX9_chooseText_62 (by first | assumption | (constructor <;> omega)) (fun c62 => ?_) (fun c62 => ?_)
            · refine z_iinc hX dX9_chooseText_132 rfl ?_
              dsimp only [List.set]
              refine g_goto hX dX9_chooseText_135 ?_
              have hb1 : hymK σ th y d (t + 1) = (b9 : Int) := (hym_n (fun h9 => c62 h9.1)).trans hb
              have e1 := rfZ_s (A := A) (k := 7) hb1
              have e2 := hmZ_s (σ := σ) hb1
              have e3 := hcZ_s (σ := σ) (y := y) hb1
              have h9 := fun v8 v9 v10 v11 v12 => ih (t + 1) v8 v9 v10 v11 v12 (by omega)
              simp only [e1, e2, e3] at h9
              exact h9 _ _ _ _ _
            · refine g_aload hX dX9_chooseText_65 rfl rfl ?_
              refine g_aload hX dX9_chooseText_66 rfl rfl ?_
              refine g_cV1 (c2 := 0) (s2 := 0) hX (s_X9_countServices hst) dX9_chooseText_68 (by first | exact hob | exact ho0 | exact ho1 | exact ho2 | exact ho3 | exact hH.tx (by omega) | exact hH.ux (by omega) | exact hH.fx (by omega) | exact hH.sx (by omega) | exact hH.tr (by omega) | exact hH.ur (by omega) | exact (hH.tw (by omega)).1 | exact (hH.uw (by omega)).1 | exact hH.fr (by omega) | exact hH.pl.1) (by first | exact Nat.le_of_ble_eq_true rfl | simp [cat_rf, Value.category]) ⟨rfl, rfl, by decide, by decide⟩ ?_
              refine ⟨_, _, _, _, _, _, rfl, hH, hV, by omega, Kc_i ?_⟩
              refine g_istore hX dX9_chooseText_71 ?_
              dsimp only [List.set]
              refine g_aload hX dX9_chooseText_73 rfl rfl ?_
              refine g_aload hX dX9_chooseText_75 rfl rfl ?_
              refine g_cS2 (c2 := 0) (s2 := 0) hX (s_X9_countClashes hst) dX9_chooseText_77 (by first | exact Nat.le_of_ble_eq_true rfl | simp [cat_rf, Value.category]) ⟨rfl, rfl, by decide, by decide⟩ ?_
              refine ⟨_, _, _, _, _, t, u9, rfl, hH, hV, by omega, by omega, hbu2, Kc_i ?_⟩
              refine g_istore hX dX9_chooseText_80 ?_
              dsimp only [List.set]
              refine g_iload hX dX9_chooseText_82 rfl ?_
              refine g_iload hX dX9_chooseText_84 rfl ?_
              refine z_icmp_gt hX dX9_chooseText_86 (by first | assumption | (constructor <;> omega)) (by first | assumption | (constructor <;> omega)) (fun c86 => ?_) (fun c86 => ?_)
              · refine g_const hX dX9_chooseText_103 ?_
                refine g_goto hX dX9_chooseText_104 ?_
                refine g_istore hX dX9_chooseText_108 ?_
                dsimp only [List.set]
                refine g_aload hX dX9_chooseText_110 rfl rfl ?_
                refine g_ifnull (r := some _) hX dX9_chooseText_112 rfl (fun z112 => absurd z112 (by simp)) (fun a112 z112 => ?_)
                refine g_iload hX dX9_chooseText_115 rfl ?_
                refine z_if_eq hX dX9_chooseText_117 (by first | assumption | (constructor <;> omega)) (fun c117 => ?_) (fun c117 => ?_)
                · exfalso; omega
                · refine g_aload hX dX9_chooseText_120 rfl rfl ?_
                  refine g_astore hX dX9_chooseText_122 rfl ?_
                  dsimp only [List.set]
                  refine g_iload hX dX9_chooseText_124 rfl ?_
                  refine g_istore hX dX9_chooseText_126 ?_
                  dsimp only [List.set]
                  refine g_iload hX dX9_chooseText_128 rfl ?_
                  refine g_istore hX dX9_chooseText_130 ?_
                  dsimp only [List.set]
                  refine z_iinc hX dX9_chooseText_132 rfl ?_
                  dsimp only [List.set]
                  refine g_goto hX dX9_chooseText_135 ?_
                  have hb1 : hymK σ th y d (t + 1) = (t : Int) := hym_y (⟨c62, Or.inr (Or.inl (by rw [hb, Int.toNat_natCast]; omega))⟩)
                  have e1 := rfZ_s (A := A) (k := 7) hb1
                  have e2 := hmZ_s (σ := σ) hb1
                  have e3 := hcZ_s (σ := σ) (y := y) hb1
                  rw [hbu, Int.toNat_natCast] at e3
                  have h9 := fun v8 v9 v10 v11 v12 => ih (t + 1) v8 v9 v10 v11 v12 (by omega)
                  simp only [e1, e2, e3] at h9
                  exact h9 _ _ _ _ _
              · refine g_iload hX dX9_chooseText_89 rfl ?_
                refine g_iload hX dX9_chooseText_91 rfl ?_
                refine z_icmp_ne hX dX9_chooseText_93 (by first | assumption | (constructor <;> omega)) (by first | assumption | (constructor <;> omega)) (fun c93 => ?_) (fun c93 => ?_)
                · refine g_const hX dX9_chooseText_107 ?_
                  refine g_istore hX dX9_chooseText_108 ?_
                  dsimp only [List.set]
                  refine g_aload hX dX9_chooseText_110 rfl rfl ?_
                  refine g_ifnull (r := some _) hX dX9_chooseText_112 rfl (fun z112 => absurd z112 (by simp)) (fun a112 z112 => ?_)
                  refine g_iload hX dX9_chooseText_115 rfl ?_
                  refine z_if_eq hX dX9_chooseText_117 (by first | assumption | (constructor <;> omega)) (fun c117 => ?_) (fun c117 => ?_)
                  · refine z_iinc hX dX9_chooseText_132 rfl ?_
                    dsimp only [List.set]
                    refine g_goto hX dX9_chooseText_135 ?_
                    have hb1 : hymK σ th y d (t + 1) = (b9 : Int) := (hym_n (fun h9 => h9.2.elim (fun q => by omega) (fun q => q.elim (fun q => by rw [hb, Int.toNat_natCast] at q; omega) (fun q => by rw [hb, Int.toNat_natCast] at q; omega)))).trans hb
                    have e1 := rfZ_s (A := A) (k := 7) hb1
                    have e2 := hmZ_s (σ := σ) hb1
                    have e3 := hcZ_s (σ := σ) (y := y) hb1
                    have h9 := fun v8 v9 v10 v11 v12 => ih (t + 1) v8 v9 v10 v11 v12 (by omega)
                    simp only [e1, e2, e3] at h9
                    exact h9 _ _ _ _ _
                  · exfalso; omega
                · refine g_iload hX dX9_chooseText_96 rfl ?_
                  refine g_iload hX dX9_chooseText_98 rfl ?_
                  refine z_icmp_ge hX dX9_chooseText_100 (by first | assumption | (constructor <;> omega)) (by first | assumption | (constructor <;> omega)) (fun c100 => ?_) (fun c100 => ?_)
                  · refine g_const hX dX9_chooseText_107 ?_
                    refine g_istore hX dX9_chooseText_108 ?_
                    dsimp only [List.set]
                    refine g_aload hX dX9_chooseText_110 rfl rfl ?_
                    refine g_ifnull (r := some _) hX dX9_chooseText_112 rfl (fun z112 => absurd z112 (by simp)) (fun a112 z112 => ?_)
                    refine g_iload hX dX9_chooseText_115 rfl ?_
                    refine z_if_eq hX dX9_chooseText_117 (by first | assumption | (constructor <;> omega)) (fun c117 => ?_) (fun c117 => ?_)
                    · refine z_iinc hX dX9_chooseText_132 rfl ?_
                      dsimp only [List.set]
                      refine g_goto hX dX9_chooseText_135 ?_
                      have hb1 : hymK σ th y d (t + 1) = (b9 : Int) := (hym_n (fun h9 => h9.2.elim (fun q => by omega) (fun q => q.elim (fun q => by rw [hb, Int.toNat_natCast] at q; omega) (fun q => by rw [hb, hbu, Int.toNat_natCast, Int.toNat_natCast] at q; omega)))).trans hb
                      have e1 := rfZ_s (A := A) (k := 7) hb1
                      have e2 := hmZ_s (σ := σ) hb1
                      have e3 := hcZ_s (σ := σ) (y := y) hb1
                      have h9 := fun v8 v9 v10 v11 v12 => ih (t + 1) v8 v9 v10 v11 v12 (by omega)
                      simp only [e1, e2, e3] at h9
                      exact h9 _ _ _ _ _
                    · exfalso; omega
                  · refine g_const hX dX9_chooseText_103 ?_
                    refine g_goto hX dX9_chooseText_104 ?_
                    refine g_istore hX dX9_chooseText_108 ?_
                    dsimp only [List.set]
                    refine g_aload hX dX9_chooseText_110 rfl rfl ?_
                    refine g_ifnull (r := some _) hX dX9_chooseText_112 rfl (fun z112 => absurd z112 (by simp)) (fun a112 z112 => ?_)
                    refine g_iload hX dX9_chooseText_115 rfl ?_
                    refine z_if_eq hX dX9_chooseText_117 (by first | assumption | (constructor <;> omega)) (fun c117 => ?_) (fun c117 => ?_)
                    · exfalso; omega
                    · refine g_aload hX dX9_chooseText_120 rfl rfl ?_
                      refine g_astore hX dX9_chooseText_122 rfl ?_
                      dsimp only [List.set]
                      refine g_iload hX dX9_chooseText_124 rfl ?_
                      refine g_istore hX dX9_chooseText_126 ?_
                      dsimp only [List.set]
                      refine g_iload hX dX9_chooseText_128 rfl ?_
                      refine g_istore hX dX9_chooseText_130 ?_
                      dsimp only [List.set]
                      refine z_iinc hX dX9_chooseText_132 rfl ?_
                      dsimp only [List.set]
                      refine g_goto hX dX9_chooseText_135 ?_
                      have hb1 : hymK σ th y d (t + 1) = (t : Int) := hym_y (⟨c62, Or.inr (Or.inr (by rw [hb, hbu, Int.toNat_natCast, Int.toNat_natCast]; exact ⟨by omega, by omega⟩))⟩)
                      have e1 := rfZ_s (A := A) (k := 7) hb1
                      have e2 := hmZ_s (σ := σ) hb1
                      have e3 := hcZ_s (σ := σ) (y := y) hb1
                      rw [hbu, Int.toNat_natCast] at e3
                      have h9 := fun v8 v9 v10 v11 v12 => ih (t + 1) v8 v9 v10 v11 v12 (by omega)
                      simp only [e1, e2, e3] at h9
                      exact h9 _ _ _ _ _
  refine g_null hX dX9_chooseText_0 ?_
  refine g_astore hX dX9_chooseText_1 rfl ?_
  dsimp only [List.set]
  refine g_const hX dX9_chooseText_3 ?_
  refine g_istore hX dX9_chooseText_4 ?_
  dsimp only [List.set]
  refine g_const hX dX9_chooseText_6 ?_
  refine g_istore hX dX9_chooseText_7 ?_
  dsimp only [List.set]
  refine g_const hX dX9_chooseText_9 ?_
  refine g_istore hX dX9_chooseText_10 ?_
  dsimp only [List.set]
  have h9 := fun v8 v9 v10 v11 v12 => loop n0 0 v8 v9 v10 v11 v12 (by omega)
  simp only [show rfZ A 7 (hymK σ th y d 0) = .null from rfl, show hmZ σ (hymK σ th y d 0) = 0 from rfl, show hcZ σ y (hymK σ th y d 0) = 0 from rfl] at h9
  exact h9 _ _ _ _ _
