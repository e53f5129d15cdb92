/-! choosing -/
def rfZ (A : Nat → Nat → Nat) (k : Nat) (z : Int) : Value := if z = -100 then .null else .ref (A k z.toNat)
theorem rfZ_n {A : Nat → Nat → Nat} {k : Nat} {z : Int} (h : z = -100) : rfZ A k z = .null := if_pos h
theorem rfZ_s {A : Nat → Nat → Nat} {k b : Nat} {z : Int} (h : z = (b : Int)) : rfZ A k z = .ref (A k b) := by
  unfold rfZ
  rw [if_neg (by omega), h, Int.toNat_natCast]
theorem cat_rfZ (A : Nat → Nat → Nat) (k : Nat) (z : Int) : (rfZ A k z).category = 1 := by
  unfold rfZ
  split <;> rfl
def fwZ (σ : SG) (t : Nat) (b : Int) : Int := if b = -100 then 0 else clZ σ t b.toNat
theorem fwZ_s {σ : SG} {t b : Nat} {z : Int} (h : z = (b : Int)) : fwZ σ t z = clZ σ t b := by
  unfold fwZ
  rw [if_neg (by omega), h, Int.toNat_natCast]
theorem bst_y {σ : SG} {t u : Nat} {of y : Int} (h : (of = 0 ∨ freeU σ u y) ∧ fitZ σ t u ≠ 0 ∧ (bstK σ t of y u = -100 ∨ clZ σ t u < clZ σ t (bstK σ t of y u).toNat)) : bstK σ t of y (u + 1) = (u : Int) := if_pos h
theorem bst_n {σ : SG} {t u : Nat} {of y : Int} (h : ¬ ((of = 0 ∨ freeU σ u y) ∧ fitZ σ t u ≠ 0 ∧ (bstK σ t of y u = -100 ∨ clZ σ t u < clZ σ t (bstK σ t of y u).toNat))) : bstK σ t of y (u + 1) = bstK σ t of y u := if_neg h
theorem HX.inj7 {aD h : Nat} {A : Nat → Nat → Nat} {ow : Nat → Nat × Nat} {σ : SG} {τ : Nat → Nat → Int} {M : hM} (H : HX aD h A ow σ τ M) {i j : Nat} (hi : (i : Int) < σ 0 0 0) (hj : (j : Int) < σ 0 0 0) (e : A 7 i = A 7 j) : i = j := by
  by_cases q : i = j
  · exact q
  · exact absurd e (H.ne (HX.v7 (by decide) hi) (HX.v7 (by decide) hj) (Or.inr q))

def sp_X9_bestTune (g : hG) : hS := fun as M sz K => ∃ (h : Nat) (A : Nat → Nat → Nat) (ow : Nat → Nat × Nat) (σ : SG) (τ : Nat → Nat → Int) (t : Nat) (of y : Int), as = [.ref h, .ref (A 7 t), .int (iZ of), .int (iZ y)] ∧ HX g.2.2.2.2 h A ow σ τ M ∧ SV σ ∧ (t : Int) < σ 0 0 0 ∧ (of = 0 ∨ of = 1) ∧ (0 ≤ y ∧ y ≤ 5000) ∧ K (.inl (some (rfZ A 12 (bstZ σ t of y)))) M sz
theorem s_X9_bestTune {l : Launch} {g : hG} (hst : l.stackTraces = false) : Ctr l g mX9_bestTune (sp_X9_bestTune g) := by
  refine Ctr.mk9 hst (by decide) ?_ ?_
  · rintro as M sz K ⟨h, A, ow, σ, τ, t, of, y, rfl, hH, hV, ht, hof, hy, hK⟩
    exact ⟨by simp [mX9_bestTune], cat_ok rfl⟩
  rintro X as M sz K hX rfl rfl hR ⟨h, A, ow, σ, τ, t, of, y, rfl, hH, hV, ht, hof, hy, hK⟩
  show G X 0 [.ref h, .ref (A 7 t), .int (iZ of), .int (iZ y), U9, U9, U9, U9, U9, U9] [] M sz 0 0
  obtain ⟨n0, n1, n2, n3, ⟨e0, hn0⟩, ⟨e1, hn1⟩, ⟨e2, hn2⟩, ⟨e3, hn3⟩⟩ := hV.nat
  have hob := hH.ob
  have hl0 := hH.l0 e0
  obtain ⟨mo0, ho0⟩ := hl0.o
  have hl1 := hH.l1 e1
  obtain ⟨mo1, ho1⟩ := hl1.o
  have hl2 := hH.l2 e2
  obtain ⟨mo2, ho2⟩ := hl2.o
  have hl3 := hH.l3 e3
  obtain ⟨mo3, ho3⟩ := hl3.o
  have hcl0 := fun b => cl_r hV t b
  have loop : ∀ (k9 u : Nat) (v7 v8 v9 : Value), u + k9 = n1 → G X 9 [.ref h, .ref (A 7 t), .int (iZ of), .int (iZ y), rfZ A 12 (bstK σ t of y u), .int (iZ (fwZ σ t (bstK σ t of y u))), .int (iZ (u : Int)), v7, v8, v9] [] M sz 0 0 := by
    intro k9
    induction k9 with
    | zero =>
      intro u v7 v8 v9 hk
      have hun : u = (σ 1 0 0).toNat := by omega
      rcases bst_r σ t of y u with hb | ⟨hb0, hb1, hb2⟩
      · rw [rfZ_n hb, show fwZ σ t (bstK σ t of y u) = 0 from if_pos hb]
        have hbz : bstZ σ t of y = -100 := by unfold bstZ; rw [← hun]; exact hb
        refine g_iload hX dX9_bestTune_9 rfl ?_
        refine g_aload hX dX9_bestTune_11 rfl rfl ?_
        refine g_get hX dX9_bestTune_12 (by first | exact hob | exact ho0 | exact ho1 | exact ho2 | exact ho3 | exact hH.tx (by omega) | exact hH.ux (by omega) | exact hH.fx (by omega) | exact hH.sx (by omega) | exact hH.tr (by omega) | exact hH.ur (by omega) | exact (hH.tw (by omega)).1 | exact (hH.uw (by omega)).1 | exact hH.fr (by omega) | exact hH.pl.1) rfl ?_
        refine g_cV0 (c2 := 0) (s2 := 0) hX (s_Jx4a65c_size_8abf5 hst) dX9_bestTune_15 (by first | exact hob | exact ho0 | exact ho1 | exact ho2 | exact ho3 | exact hH.tx (by omega) | exact hH.ux (by omega) | exact hH.fx (by omega) | exact hH.sx (by omega) | exact hH.tr (by omega) | exact hH.ur (by omega) | exact (hH.tw (by omega)).1 | exact (hH.uw (by omega)).1 | exact hH.fr (by omega) | exact hH.pl.1) (by first | exact Nat.le_of_ble_eq_true rfl | simp [cat_rf, Value.category]) ⟨rfl, rfl, by decide, by decide⟩ ?_
        refine ⟨_, _, _, _, _, rfl, hl1, Kc_i ?_⟩
        refine z_icmp_ge hX dX9_bestTune_18 (by first | assumption | (constructor <;> omega)) (by first | assumption | (constructor <;> omega)) (fun c18 => ?_) (fun c18 => ?_)
        · refine g_aload hX dX9_bestTune_106 rfl rfl ?_
          refine g_aret hX hR dX9_bestTune_108 rfl (by first | exact Or.inl ⟨_, rfl⟩ | exact Or.inr ⟨_, rfl⟩) (by first | rfl | exact isRefV_rf _) (by decide) (by decide) ?_
          have hK2 := hK
          rw [show bstZ σ t of y = -100 from hbz] at hK2
          rw [rfZ_n rfl] at hK2
          exact hK2
        · exfalso; omega
      · obtain ⟨b9, hb⟩ : ∃ b9 : Nat, bstK σ t of y u = (b9 : Int) := ⟨(bstK σ t of y u).toNat, by omega⟩
        rw [rfZ_s hb, fwZ_s hb]
        have hbz : bstZ σ t of y = (b9 : Int) := by unfold bstZ; rw [← hun]; exact hb
        have hcl9 := hcl0 b9
        refine g_iload hX dX9_bestTune_9 rfl ?_
        refine g_aload hX dX9_bestTune_11 rfl rfl ?_
        refine g_get hX dX9_bestTune_12 (by first | exact hob | exact ho0 | exact ho1 | exact ho2 | exact ho3 | exact hH.tx (by omega) | exact hH.ux (by omega) | exact hH.fx (by omega) | exact hH.sx (by omega) | exact hH.tr (by omega) | exact hH.ur (by omega) | exact (hH.tw (by omega)).1 | exact (hH.uw (by omega)).1 | exact hH.fr (by omega) | exact hH.pl.1) rfl ?_
        refine g_cV0 (c2 := 0) (s2 := 0) hX (s_Jx4a65c_size_8abf5 hst) dX9_bestTune_15 (by first | exact hob | exact ho0 | exact ho1 | exact ho2 | exact ho3 | exact hH.tx (by omega) | exact hH.ux (by omega) | exact hH.fx (by omega) | exact hH.sx (by omega) | exact hH.tr (by omega) | exact hH.ur (by omega) | exact (hH.tw (by omega)).1 | exact (hH.uw (by omega)).1 | exact hH.fr (by omega) | exact hH.pl.1) (by first | exact Nat.le_of_ble_eq_true rfl | simp [cat_rf, Value.category]) ⟨rfl, rfl, by decide, by decide⟩ ?_
        refine ⟨_, _, _, _, _, rfl, hl1, Kc_i ?_⟩
        refine z_icmp_ge hX dX9_bestTune_18 (by first | assumption | (constructor <;> omega)) (by first | assumption | (constructor <;> omega)) (fun c18 => ?_) (fun c18 => ?_)
        · refine g_aload hX dX9_bestTune_106 rfl rfl ?_
          refine g_aret hX hR dX9_bestTune_108 rfl (by first | exact Or.inl ⟨_, rfl⟩ | exact Or.inr ⟨_, rfl⟩) (by first | rfl | exact isRefV_rf _) (by decide) (by decide) ?_
          have hK2 := hK
          rw [show bstZ σ t of y = (b9 : Int) from hbz] at hK2
          rw [rfZ_s rfl] at hK2
          exact hK2
        · exfalso; omega
    | succ k9 ih =>
      intro u v7 v8 v9 hk
      rcases bst_r σ t of y u with hb | ⟨hb0, hb1, hb2⟩
      · rw [rfZ_n hb, show fwZ σ t (bstK σ t of y u) = 0 from if_pos hb]
        refine g_iload hX dX9_bestTune_9 rfl ?_
        refine g_aload hX dX9_bestTune_11 rfl rfl ?_
        refine g_get hX dX9_bestTune_12 (by first | exact hob | exact ho0 | exact ho1 | exact ho2 | exact ho3 | exact hH.tx (by omega) | exact hH.ux (by omega) | exact hH.fx (by omega) | exact hH.sx (by omega) | exact hH.tr (by omega) | exact hH.ur (by omega) | exact (hH.tw (by omega)).1 | exact (hH.uw (by omega)).1 | exact hH.fr (by omega) | exact hH.pl.1) rfl ?_
        refine g_cV0 (c2 := 0) (s2 := 0) hX (s_Jx4a65c_size_8abf5 hst) dX9_bestTune_15 (by first | exact hob | exact ho0 | exact ho1 | exact ho2 | exact ho3 | exact hH.tx (by omega) | exact hH.ux (by omega) | exact hH.fx (by omega) | exact hH.sx (by omega) | exact hH.tr (by omega) | exact hH.ur (by omega) | exact (hH.tw (by omega)).1 | exact (hH.uw (by omega)).1 | exact hH.fr (by omega) | exact hH.pl.1) (by first | exact Nat.le_of_ble_eq_true rfl | simp [cat_rf, Value.category]) ⟨rfl, rfl, by decide, by decide⟩ ?_
        refine ⟨_, _, _, _, _, rfl, hl1, Kc_i ?_⟩
        refine z_icmp_ge hX dX9_bestTune_18 (by first | assumption | (constructor <;> omega)) (by first | assumption | (constructor <;> omega)) (fun c18 => ?_) (fun c18 => ?_)
        · exfalso; omega
        · refine g_aload hX dX9_bestTune_21 rfl rfl ?_
          refine g_get hX dX9_bestTune_22 (by first | exact hob | exact ho0 | exact ho1 | exact ho2 | exact ho3 | exact hH.tx (by omega) | exact hH.ux (by omega) | exact hH.fx (by omega) | exact hH.sx (by omega) | exact hH.tr (by omega) | exact hH.ur (by omega) | exact (hH.tw (by omega)).1 | exact (hH.uw (by omega)).1 | exact hH.fr (by omega) | exact hH.pl.1) rfl ?_
          refine g_iload hX dX9_bestTune_25 rfl ?_
          refine g_cV1 (c2 := 0) (s2 := 0) hX (s_Jx4a65c_get_915e3 hst) dX9_bestTune_27 (by first | exact hob | exact ho0 | exact ho1 | exact ho2 | exact ho3 | exact hH.tx (by omega) | exact hH.ux (by omega) | exact hH.fx (by omega) | exact hH.sx (by omega) | exact hH.tr (by omega) | exact hH.ur (by omega) | exact (hH.tw (by omega)).1 | exact (hH.uw (by omega)).1 | exact hH.fr (by omega) | exact hH.pl.1) (by first | exact Nat.le_of_ble_eq_true rfl | simp [cat_rf, Value.category]) ⟨rfl, rfl, by decide, by decide⟩ ?_
          refine ⟨_, _, _, _, _, _, rfl, hl1, by omega, Kc_i ?_⟩
          simp only [Int.toNat_natCast]
          refine g_cast hX dX9_bestTune_30 (by first | exact hob | exact ho0 | exact ho1 | exact ho2 | exact ho3 | exact hH.tx (by omega) | exact hH.ux (by omega) | exact hH.fx (by omega) | exact hH.sx (by omega) | exact hH.tr (by omega) | exact hH.ur (by omega) | exact (hH.tw (by omega)).1 | exact (hH.uw (by omega)).1 | exact hH.fr (by omega) | exact hH.pl.1) ?_
          refine g_astore hX dX9_bestTune_33 rfl ?_
          dsimp only [List.set]
          refine g_iload hX dX9_bestTune_35 rfl ?_
          refine z_if_eq hX dX9_bestTune_36 (by first | assumption | (constructor <;> omega)) (fun c36 => ?_) (fun c36 => ?_)
          · refine g_const hX dX9_bestTune_51 ?_
            refine g_goto hX dX9_bestTune_52 ?_
            refine g_istore hX dX9_bestTune_56 ?_
            dsimp only [List.set]
            refine g_iload hX dX9_bestTune_58 rfl ?_
            refine z_if_eq hX dX9_bestTune_60 (by first | assumption | (constructor <;> omega)) (fun c60 => ?_) (fun c60 => ?_)
            · exfalso; omega
            · refine g_aload hX dX9_bestTune_63 rfl rfl ?_
              refine g_aload hX dX9_bestTune_64 rfl rfl ?_
              refine g_cS2 (c2 := 0) (s2 := 0) hX (s_X9_timesThrough hst) dX9_bestTune_66 (by first | exact Nat.le_of_ble_eq_true rfl | simp [cat_rf, Value.category]) ⟨rfl, rfl, by decide, by decide⟩ ?_
              refine ⟨_, _, _, _, _, t, u, rfl, hH, hV, by omega, by omega, Kc_i ?_⟩
              have hft := fit_r σ t u
              refine z_if_eq hX dX9_bestTune_69 (by first | assumption | (constructor <;> omega)) (fun c69 => ?_) (fun c69 => ?_)
              · refine z_iinc hX dX9_bestTune_100 rfl ?_
                dsimp only [List.set]
                refine g_goto hX dX9_bestTune_103 ?_
                have hb1 : bstK σ t of y (u + 1) = -100 := (bst_n (fun h9 => h9.2.1 c69)).trans hb
                have e1 := rfZ_n (A := A) (k := 12) hb1
                have e2 : fwZ σ t (bstK σ t of y (u + 1)) = 0 := if_pos hb1
                have h9 := fun v7 v8 v9 => ih (u + 1) v7 v8 v9 (by omega)
                simp only [e1, e2] at h9
                exact h9 _ _ _
              · refine g_aload hX dX9_bestTune_72 rfl rfl ?_
                refine g_aload hX dX9_bestTune_73 rfl rfl ?_
                refine g_cS2 (c2 := 0) (s2 := 0) hX (s_X9_countClashes hst) dX9_bestTune_75 (by first | exact Nat.le_of_ble_eq_true rfl | simp [cat_rf, Value.category]) ⟨rfl, rfl, by decide, by decide⟩ ?_
                refine ⟨_, _, _, _, _, t, u, rfl, hH, hV, by omega, by omega, c69, Kc_i ?_⟩
                have hcl := cl_r hV t u
                refine g_istore hX dX9_bestTune_78 ?_
                dsimp only [List.set]
                refine g_aload hX dX9_bestTune_80 rfl rfl ?_
                refine g_ifnull (r := none) hX dX9_bestTune_82 rfl (fun z82 => ?_) (fun a82 z82 => absurd z82 (by simp))
                refine g_aload hX dX9_bestTune_92 rfl rfl ?_
                refine g_astore hX dX9_bestTune_94 rfl ?_
                dsimp only [List.set]
                refine g_iload hX dX9_bestTune_96 rfl ?_
                refine g_istore hX dX9_bestTune_98 ?_
                dsimp only [List.set]
                refine z_iinc hX dX9_bestTune_100 rfl ?_
                dsimp only [List.set]
                refine g_goto hX dX9_bestTune_103 ?_
                have hb1 : bstK σ t of y (u + 1) = (u : Int) := bst_y (⟨Or.inl c36, c69, Or.inl hb⟩)
                have e1 := rfZ_s (A := A) (k := 12) hb1
                have e2 : fwZ σ t (bstK σ t of y (u + 1)) = clZ σ t u := fwZ_s hb1
                have h9 := fun v7 v8 v9 => ih (u + 1) v7 v8 v9 (by omega)
                simp only [e1, e2] at h9
                exact h9 _ _ _
          · refine g_aload hX dX9_bestTune_39 rfl rfl ?_
            refine g_get hX dX9_bestTune_41 (by first | exact hob | exact ho0 | exact ho1 | exact ho2 | exact ho3 | exact hH.tx (by omega) | exact hH.ux (by omega) | exact hH.fx (by omega) | exact hH.sx (by omega) | exact hH.tr (by omega) | exact hH.ur (by omega) | exact (hH.tw (by omega)).1 | exact (hH.uw (by omega)).1 | exact hH.fr (by omega) | exact hH.pl.1) rfl ?_
            refine g_iload hX dX9_bestTune_44 rfl ?_
            refine g_cVN1 (c2 := 0) (s2 := 0) hX (s_X3_isFreeIn hst) dX9_bestTune_45 (by first | exact hob | exact ho0 | exact ho1 | exact ho2 | exact ho3 | exact hH.tx (by omega) | exact hH.ux (by omega) | exact hH.fx (by omega) | exact hH.sx (by omega) | exact hH.tr (by omega) | exact hH.ur (by omega) | exact (hH.tw (by omega)).1 | exact (hH.uw (by omega)).1 | exact hH.fr (by omega) | exact hH.pl.1) (by first | exact Nat.le_of_ble_eq_true rfl | simp [cat_rf, Value.category]) ⟨rfl, rfl, by decide, by decide⟩ ?_
            refine ⟨_, _, _, _, rfl, hH.ur (by omega), (hV.u u).2.2.2.1, by have := (hV.u u).1; omega, by omega, Kc_i ?_⟩
            refine z_ifb_eq hX dX9_bestTune_48 (fun c48 => ?_) (fun c48 => ?_)
            · refine g_const hX dX9_bestTune_55 ?_
              refine g_istore hX dX9_bestTune_56 ?_
              dsimp only [List.set]
              refine g_iload hX dX9_bestTune_58 rfl ?_
              refine z_if_eq hX dX9_bestTune_60 (by first | assumption | (constructor <;> omega)) (fun c60 => ?_) (fun c60 => ?_)
              · refine z_iinc hX dX9_bestTune_100 rfl ?_
                dsimp only [List.set]
                refine g_goto hX dX9_bestTune_103 ?_
                have hb1 : bstK σ t of y (u + 1) = -100 := (bst_n (fun h9 => h9.1.elim (fun q => c36 q) (fun q => c48 q))).trans hb
                have e1 := rfZ_n (A := A) (k := 12) hb1
                have e2 : fwZ σ t (bstK σ t of y (u + 1)) = 0 := if_pos hb1
                have h9 := fun v7 v8 v9 => ih (u + 1) v7 v8 v9 (by omega)
                simp only [e1, e2] at h9
                exact h9 _ _ _
              · exfalso; omega
            · refine g_const hX dX9_bestTune_51 ?_
              refine g_goto hX dX9_bestTune_52 ?_
              refine g_istore hX dX9_bestTune_56 ?_
              dsimp only [List.set]
              refine g_iload hX dX9_bestTune_58 rfl ?_
              refine z_if_eq hX dX9_bestTune_60 (by first | assumption | (constructor <;> omega)) (fun c60 => ?_) (fun c60 => ?_)
              · exfalso; omega
              · refine g_aload hX dX9_bestTune_63 rfl rfl ?_
                refine g_aload hX dX9_bestTune_64 rfl rfl ?_
                refine g_cS2 (c2 := 0) (s2 := 0) hX (s_X9_timesThrough hst) dX9_bestTune_66 (by first | exact Nat.le_of_ble_eq_true rfl | simp [cat_rf, Value.category]) ⟨rfl, rfl, by decide, by decide⟩ ?_
                refine ⟨_, _, _, _, _, t, u, rfl, hH, hV, by omega, by omega, Kc_i ?_⟩
                have hft := fit_r σ t u
                refine z_if_eq hX dX9_bestTune_69 (by first | assumption | (constructor <;> omega)) (fun c69 => ?_) (fun c69 => ?_)
                · refine z_iinc hX dX9_bestTune_100 rfl ?_
                  dsimp only [List.set]
                  refine g_goto hX dX9_bestTune_103 ?_
                  have hb1 : bstK σ t of y (u + 1) = -100 := (bst_n (fun h9 => h9.2.1 c69)).trans hb
                  have e1 := rfZ_n (A := A) (k := 12) hb1
                  have e2 : fwZ σ t (bstK σ t of y (u + 1)) = 0 := if_pos hb1
                  have h9 := fun v7 v8 v9 => ih (u + 1) v7 v8 v9 (by omega)
                  simp only [e1, e2] at h9
                  exact h9 _ _ _
                · refine g_aload hX dX9_bestTune_72 rfl rfl ?_
                  refine g_aload hX dX9_bestTune_73 rfl rfl ?_
                  refine g_cS2 (c2 := 0) (s2 := 0) hX (s_X9_countClashes hst) dX9_bestTune_75 (by first | exact Nat.le_of_ble_eq_true rfl | simp [cat_rf, Value.category]) ⟨rfl, rfl, by decide, by decide⟩ ?_
                  refine ⟨_, _, _, _, _, t, u, rfl, hH, hV, by omega, by omega, c69, Kc_i ?_⟩
                  have hcl := cl_r hV t u
                  refine g_istore hX dX9_bestTune_78 ?_
                  dsimp only [List.set]
                  refine g_aload hX dX9_bestTune_80 rfl rfl ?_
                  refine g_ifnull (r := none) hX dX9_bestTune_82 rfl (fun z82 => ?_) (fun a82 z82 => absurd z82 (by simp))
                  refine g_aload hX dX9_bestTune_92 rfl rfl ?_
                  refine g_astore hX dX9_bestTune_94 rfl ?_
                  dsimp only [List.set]
                  refine g_iload hX dX9_bestTune_96 rfl ?_
                  refine g_istore hX dX9_bestTune_98 ?_
                  dsimp only [List.set]
                  refine z_iinc hX dX9_bestTune_100 rfl ?_
                  dsimp only [List.set]
                  refine g_goto hX dX9_bestTune_103 ?_
                  have hb1 : bstK σ t of y (u + 1) = (u : Int) := bst_y (⟨Or.inr c48, c69, Or.inl hb⟩)
                  have e1 := rfZ_s (A := A) (k := 12) hb1
                  have e2 : fwZ σ t (bstK σ t of y (u + 1)) = clZ σ t u := fwZ_s hb1
                  have h9 := fun v7 v8 v9 => ih (u + 1) v7 v8 v9 (by omega)
                  simp only [e1, e2] at h9
                  exact h9 _ _ _
      · obtain ⟨b9, hb⟩ : ∃ b9 : Nat, bstK σ t of y u = (b9 : Int) := ⟨(bstK σ t of y u).toNat, by omega⟩
        rw [rfZ_s hb, fwZ_s hb]
        have hcl9 := hcl0 b9
        refine g_iload hX dX9_bestTune_9 rfl ?_
        refine g_aload hX dX9_bestTune_11 rfl rfl ?_
        refine g_get hX dX9_bestTune_12 (by first | exact hob | exact ho0 | exact ho1 | exact ho2 | exact ho3 | exact hH.tx (by omega) | exact hH.ux (by omega) | exact hH.fx (by omega) | exact hH.sx (by omega) | exact hH.tr (by omega) | exact hH.ur (by omega) | exact (hH.tw (by omega)).1 | exact (hH.uw (by omega)).1 | exact hH.fr (by omega) | exact hH.pl.1) rfl ?_
        refine g_cV0 (c2 := 0) (s2 := 0) hX (s_Jx4a65c_size_8abf5 hst) dX9_bestTune_15 (by first | exact hob | exact ho0 | exact ho1 | exact ho2 | exact ho3 | exact hH.tx (by omega) | exact hH.ux (by omega) | exact hH.fx (by omega) | exact hH.sx (by omega) | exact hH.tr (by omega) | exact hH.ur (by omega) | exact (hH.tw (by omega)).1 | exact (hH.uw (by omega)).1 | exact hH.fr (by omega) | exact hH.pl.1) (by first | exact Nat.le_of_ble_eq_true rfl | simp [cat_rf, Value.category]) ⟨rfl, rfl, by decide, by decide⟩ ?_
        refine ⟨_, _, _, _, _, rfl, hl1, Kc_i ?_⟩
        refine z_icmp_ge hX dX9_bestTune_18 (by first | assumption | (constructor <;> omega)) (by first | assumption | (constructor <;> omega)) (fun c18 => ?_) (fun c18 => ?_)
        · exfalso; omega
        · refine g_aload hX dX9_bestTune_21 rfl rfl ?_
          refine g_get hX dX9_bestTune_22 (by first | exact hob | exact ho0 | exact ho1 | exact ho2 | exact ho3 | exact hH.tx (by omega) | exact hH.ux (by omega) | exact hH.fx (by omega) | exact hH.sx (by omega) | exact hH.tr (by omega) | exact hH.ur (by omega) | exact (hH.tw (by omega)).1 | exact (hH.uw (by omega)).1 | exact hH.fr (by omega) | exact hH.pl.1) rfl ?_
          refine g_iload hX dX9_bestTune_25 rfl ?_
          refine g_cV1 (c2 := 0) (s2 := 0) hX (s_Jx4a65c_get_915e3 hst) dX9_bestTune_27 (by first | exact hob | exact ho0 | exact ho1 | exact ho2 | exact ho3 | exact hH.tx (by omega) | exact hH.ux (by omega) | exact hH.fx (by omega) | exact hH.sx (by omega) | exact hH.tr (by omega) | exact hH.ur (by omega) | exact (hH.tw (by omega)).1 | exact (hH.uw (by omega)).1 | exact hH.fr (by omega) | exact hH.pl.1) (by first | exact Nat.le_of_ble_eq_true rfl | simp [cat_rf, Value.category]) ⟨rfl, rfl, by decide, by decide⟩ ?_
          refine ⟨_, _, _, _, _, _, rfl, hl1, by omega, Kc_i ?_⟩
          simp only [Int.toNat_natCast]
          refine g_cast hX dX9_bestTune_30 (by first | exact hob | exact ho0 | exact ho1 | exact ho2 | exact ho3 | exact hH.tx (by omega) | exact hH.ux (by omega) | exact hH.fx (by omega) | exact hH.sx (by omega) | exact hH.tr (by omega) | exact hH.ur (by omega) | exact (hH.tw (by omega)).1 | exact (hH.uw (by omega)).1 | exact hH.fr (by omega) | exact hH.pl.1) ?_
          refine g_astore hX dX9_bestTune_33 rfl ?_
          dsimp only [List.set]
          refine g_iload hX dX9_bestTune_35 rfl ?_
          refine z_if_eq hX dX9_bestTune_36 (by first | assumption | (constructor <;> omega)) (fun c36 => ?_) (fun c36 => ?_)
          · refine g_const hX dX9_bestTune_51 ?_
            refine g_goto hX dX9_bestTune_52 ?_
            refine g_istore hX dX9_bestTune_56 ?_
            dsimp only [List.set]
            refine g_iload hX dX9_bestTune_58 rfl ?_
            refine z_if_eq hX dX9_bestTune_60 (by first | assumption | (constructor <;> omega)) (fun c60 => ?_) (fun c60 => ?_)
            · exfalso; omega
            · refine g_aload hX dX9_bestTune_63 rfl rfl ?_
              refine g_aload hX dX9_bestTune_64 rfl rfl ?_
              refine g_cS2 (c2 := 0) (s2 := 0) hX (s_X9_timesThrough hst) dX9_bestTune_66 (by first | exact Nat.le_of_ble_eq_true rfl | simp [cat_rf, Value.category]) ⟨rfl, rfl, by decide, by decide⟩ ?_
              refine ⟨_, _, _, _, _, t, u, rfl, hH, hV, by omega, by omega, Kc_i ?_⟩
              have hft := fit_r σ t u
              refine z_if_eq hX dX9_bestTune_69 (by first | assumption | (constructor <;> omega)) (fun c69 => ?_) (fun c69 => ?_)
              · refine z_iinc hX dX9_bestTune_100 rfl ?_
                dsimp only [List.set]
                refine g_goto hX dX9_bestTune_103 ?_
                have hb1 : bstK σ t of y (u + 1) = (b9 : Int) := (bst_n (fun h9 => h9.2.1 c69)).trans hb
                have e1 := rfZ_s (A := A) (k := 12) hb1
                have e2 : fwZ σ t (bstK σ t of y (u + 1)) = clZ σ t b9 := fwZ_s hb1
                have h9 := fun v7 v8 v9 => ih (u + 1) v7 v8 v9 (by omega)
                simp only [e1, e2] at h9
                exact h9 _ _ _
              · refine g_aload hX dX9_bestTune_72 rfl rfl ?_
                refine g_aload hX dX9_bestTune_73 rfl rfl ?_
                refine g_cS2 (c2 := 0) (s2 := 0) hX (s_X9_countClashes hst) dX9_bestTune_75 (by first | exact Nat.le_of_ble_eq_true rfl | simp [cat_rf, Value.category]) ⟨rfl, rfl, by decide, by decide⟩ ?_
                refine ⟨_, _, _, _, _, t, u, rfl, hH, hV, by omega, by omega, c69, Kc_i ?_⟩
                have hcl := cl_r hV t u
                refine g_istore hX dX9_bestTune_78 ?_
                dsimp only [List.set]
                refine g_aload hX dX9_bestTune_80 rfl rfl ?_
                refine g_ifnull (r := some _) hX dX9_bestTune_82 rfl (fun z82 => absurd z82 (by simp)) (fun a82 z82 => ?_)
                refine g_iload hX dX9_bestTune_85 rfl ?_
                refine g_iload hX dX9_bestTune_87 rfl ?_
                refine z_icmp_ge hX dX9_bestTune_89 (by first | assumption | (constructor <;> omega)) (by first | assumption | (constructor <;> omega)) (fun c89 => ?_) (fun c89 => ?_)
                · refine z_iinc hX dX9_bestTune_100 rfl ?_
                  dsimp only [List.set]
                  refine g_goto hX dX9_bestTune_103 ?_
                  have hb1 : bstK σ t of y (u + 1) = (b9 : Int) := (bst_n (fun h9 => h9.2.2.elim (fun q => by omega) (fun q => by rw [hb, Int.toNat_natCast] at q; omega))).trans hb
                  have e1 := rfZ_s (A := A) (k := 12) hb1
                  have e2 : fwZ σ t (bstK σ t of y (u + 1)) = clZ σ t b9 := fwZ_s hb1
                  have h9 := fun v7 v8 v9 => ih (u + 1) v7 v8 v9 (by omega)
                  simp only [e1, e2] at h9
                  exact h9 _ _ _
                · refine g_aload hX dX9_bestTune_92 rfl rfl ?_
                  refine g_astore hX dX9_bestTune_94 rfl ?_
                  dsimp only [List.set]
                  refine g_iload hX dX9_bestTune_96 rfl ?_
                  refine g_istore hX dX9_bestTune_98 ?_
                  dsimp only [List.set]
                  refine z_iinc hX dX9_bestTune_100 rfl ?_
                  dsimp only [List.set]
                  refine g_goto hX dX9_bestTune_103 ?_
                  have hb1 : bstK σ t of y (u + 1) = (u : Int) := bst_y (⟨Or.inl c36, c69, Or.inr (by rw [hb, Int.toNat_natCast]; omega)⟩)
                  have e1 := rfZ_s (A := A) (k := 12) hb1
                  have e2 : fwZ σ t (bstK σ t of y (u + 1)) = clZ σ t u := fwZ_s hb1
                  have h9 := fun v7 v8 v9 => ih (u + 1) v7 v8 v9 (by omega)
                  simp only [e1, e2] at h9
                  exact h9 _ _ _
          · refine g_aload hX dX9_bestTune_39 rfl rfl ?_
            refine g_get hX dX9_bestTune_41 (by first | exact hob | exact ho0 | exact ho1 | exact ho2 | exact ho3 | exact hH.tx (by omega) | exact hH.ux (by omega) | exact hH.fx (by omega) | exact hH.sx (by omega) | exact hH.tr (by omega) | exact hH.ur (by omega) | exact (hH.tw (by omega)).1 | exact (hH.uw (by omega)).1 | exact hH.fr (by omega) | exact hH.pl.1) rfl ?_
            refine g_iload hX dX9_bestTune_44 rfl ?_
            refine g_cVN1 (c2 := 0) (s2 := 0) hX (s_X3_isFreeIn hst) dX9_bestTune_45 (by first | exact hob | exact ho0 | exact ho1 | exact ho2 | exact ho3 | exact hH.tx (by omega) | exact hH.ux (by omega) | exact hH.fx (by omega) | exact hH.sx (by omega) | exact hH.tr (by omega) | exact hH.ur (by omega) | exact (hH.tw (by omega)).1 | exact (hH.uw (by omega)).1 | exact hH.fr (by omega) | exact hH.pl.1) (by first | exact Nat.le_of_ble_eq_true rfl | simp [cat_rf, Value.category]) ⟨rfl, rfl, by decide, by decide⟩ ?_
            refine ⟨_, _, _, _, rfl, hH.ur (by omega), (hV.u u).2.2.2.1, by have := (hV.u u).1; omega, by omega, Kc_i ?_⟩
            refine z_ifb_eq hX dX9_bestTune_48 (fun c48 => ?_) (fun c48 => ?_)
            · refine g_const hX dX9_bestTune_55 ?_
              refine g_istore hX dX9_bestTune_56 ?_
              dsimp only [List.set]
              refine g_iload hX dX9_bestTune_58 rfl ?_
              refine z_if_eq hX dX9_bestTune_60 (by first | assumption | (constructor <;> omega)) (fun c60 => ?_) (fun c60 => ?_)
              · refine z_iinc hX dX9_bestTune_100 rfl ?_
                dsimp only [List.set]
                refine g_goto hX dX9_bestTune_103 ?_
                have hb1 : bstK σ t of y (u + 1) = (b9 : Int) := (bst_n (fun h9 => h9.1.elim (fun q => c36 q) (fun q => c48 q))).trans hb
                have e1 := rfZ_s (A := A) (k := 12) hb1
                have e2 : fwZ σ t (bstK σ t of y (u + 1)) = clZ σ t b9 := fwZ_s hb1
                have h9 := fun v7 v8 v9 => ih (u + 1) v7 v8 v9 (by omega)
                simp only [e1, e2] at h9
                exact h9 _ _ _
              · exfalso; omega
            · refine g_const hX dX9_bestTune_51 ?_
              refine g_goto hX dX9_bestTune_52 ?_
              refine g_istore hX dX9_bestTune_56 ?_
              dsimp only [List.set]
              refine g_iload hX dX9_bestTune_58 rfl ?_
              refine z_if_eq hX dX9_bestTune_60 (by first | assumption | (constructor <;> omega)) (fun c60 => ?_) (fun c60 => ?_)
              · exfalso; omega
              · refine g_aload hX dX9_bestTune_63 rfl rfl ?_
                refine g_aload hX dX9_bestTune_64 rfl rfl ?_
                refine g_cS2 (c2 := 0) (s2 := 0) hX (s_X9_timesThrough hst) dX9_bestTune_66 (by first | exact Nat.le_of_ble_eq_true rfl | simp [cat_rf, Value.category]) ⟨rfl, rfl, by decide, by decide⟩ ?_
                refine ⟨_, _, _, _, _, t, u, rfl, hH, hV, by omega, by omega, Kc_i ?_⟩
                have hft := fit_r σ t u
                refine z_if_eq hX dX9_bestTune_69 (by first | assumption | (constructor <;> omega)) (fun c69 => ?_) (fun c69 => ?_)
                · refine z_iinc hX dX9_bestTune_100 rfl ?_
                  dsimp only [List.set]
                  refine g_goto hX dX9_bestTune_103 ?_
                  have hb1 : bstK σ t of y (u + 1) = (b9 : Int) := (bst_n (fun h9 => h9.2.1 c69)).trans hb
                  have e1 := rfZ_s (A := A) (k := 12) hb1
                  have e2 : fwZ σ t (bstK σ t of y (u + 1)) = clZ σ t b9 := fwZ_s hb1
                  have h9 := fun v7 v8 v9 => ih (u + 1) v7 v8 v9 (by omega)
                  simp only [e1, e2] at h9
                  exact h9 _ _ _
                · refine g_aload hX dX9_bestTune_72 rfl rfl ?_
                  refine g_aload hX dX9_bestTune_73 rfl rfl ?_
                  refine g_cS2 (c2 := 0) (s2 := 0) hX (s_X9_countClashes hst) dX9_bestTune_75 (by first | exact Nat.le_of_ble_eq_true rfl | simp [cat_rf, Value.category]) ⟨rfl, rfl, by decide, by decide⟩ ?_
                  refine ⟨_, _, _, _, _, t, u, rfl, hH, hV, by omega, by omega, c69, Kc_i ?_⟩
                  have hcl := cl_r hV t u
                  refine g_istore hX dX9_bestTune_78 ?_
                  dsimp only [List.set]
                  refine g_aload hX dX9_bestTune_80 rfl rfl ?_
                  refine g_ifnull (r := some _) hX dX9_bestTune_82 rfl (fun z82 => absurd z82 (by simp)) (fun a82 z82 => ?_)
                  refine g_iload hX dX9_bestTune_85 rfl ?_
                  refine g_iload hX dX9_bestTune_87 rfl ?_
                  refine z_icmp_ge hX dX9_bestTune_89 (by first | assumption | (constructor <;> omega)) (by first | assumption | (constructor <;> omega)) (fun c89 => ?_) (fun c89 => ?_)
                  · refine z_iinc hX dX9_bestTune_100 rfl ?_
                    dsimp only [List.set]
                    refine g_goto hX dX9_bestTune_103 ?_
                    have hb1 : bstK σ t of y (u + 1) = (b9 : Int) := (bst_n (fun h9 => h9.2.2.elim (fun q => by omega) (fun q => by rw [hb, Int.toNat_natCast] at q; omega))).trans hb
                    have e1 := rfZ_s (A := A) (k := 12) hb1
                    have e2 : fwZ σ t (bstK σ t of y (u + 1)) = clZ σ t b9 := fwZ_s hb1
                    have h9 := fun v7 v8 v9 => ih (u + 1) v7 v8 v9 (by omega)
                    simp only [e1, e2] at h9
                    exact h9 _ _ _
                  · refine g_aload hX dX9_bestTune_92 rfl rfl ?_
                    refine g_astore hX dX9_bestTune_94 rfl ?_
                    dsimp only [List.set]
                    refine g_iload hX dX9_bestTune_96 rfl ?_
                    refine g_istore hX dX9_bestTune_98 ?_
                    dsimp only [List.set]
                    refine z_iinc hX dX9_bestTune_100 rfl ?_
                    dsimp only [List.set]
                    refine g_goto hX dX9_bestTune_103 ?_
                    have hb1 : bstK σ t of y (u + 1) = (u : Int) := bst_y (⟨Or.inr c48, c69, Or.inr (by rw [hb, Int.toNat_natCast]; omega)⟩)
                    have e1 := rfZ_s (A := A) (k := 12) hb1
                    have e2 : fwZ σ t (bstK σ t of y (u + 1)) = clZ σ t u := fwZ_s hb1
                    have h9 := fun v7 v8 v9 => ih (u + 1) v7 v8 v9 (by omega)
                    simp only [e1, e2] at h9
                    exact h9 _ _ _
  refine g_null hX dX9_bestTune_0 ?_
  refine g_astore hX dX9_bestTune_1 rfl ?_
  dsimp only [List.set]
  refine g_const hX dX9_bestTune_3 ?_
  refine g_istore hX dX9_bestTune_4 ?_
  dsimp only [List.set]
  refine g_const hX dX9_bestTune_6 ?_
  refine g_istore hX dX9_bestTune_7 ?_
  dsimp only [List.set]
  have h9 := fun v7 v8 v9 => loop n1 0 v7 v8 v9 (by omega)
  simp only [show rfZ A 12 (bstK σ t of y 0) = .null from rfl, show fwZ σ t (bstK σ t of y 0) = 0 from rfl] at h9
  exact h9 _ _ _
