/-! the reference: the calls that only answer, of tunes and days -/

def sp_X10_fits : hS := fun as M sz K => ∃ (b r : Nat) (σ : SG) (th : Int) (P Q : Nat → Int) (x z : Int), as = [.ref r, .int (iZ x), .int (iZ z)] ∧ MX b r σ th P Q M ∧ SV σ ∧ inR x ∧ inR z ∧ MO b r (oc_fits σ x z) K
theorem s_X10_fits {l : Launch} {g : hG} (hst : l.stackTraces = false) : Ctr l g mX10_fits sp_X10_fits := by
  refine Ctr.mk9 hst (by decide) ?_ ?_
  · rintro as M sz K ⟨b, r, σ, th, P, Q, x, z, rfl, hM, hV, rx, rz, hK⟩
    exact ⟨by simp [mX10_fits], cat_ok rfl⟩
  rintro X as M sz K hX rfl rfl hR ⟨b, r, σ, th, P, Q, x, z, rfl, hM, hV, rx, rz, hK⟩
  show G X 0 [.ref r, .int (iZ x), .int (iZ z)] [] M sz 0 0
  obtain ⟨n0, n1, n2, n3, ⟨e0, hn0⟩, ⟨e1, hn1⟩, ⟨e2, hn2⟩, ⟨e3, hn3⟩⟩ := hV.nat
  refine g_aload hX dX10_fits_0 rfl rfl ?_
  refine g_aload hX dX10_fits_1 rfl rfl ?_
  refine g_iload hX dX10_fits_2 rfl ?_
  refine g_cV1 (c2 := 0) (s2 := 0) hX (s_X10_isText hst) dX10_fits_3 (by first | assumption | exact hM.2.1) (by first | exact Nat.le_of_ble_eq_true rfl | simp [cat_rf, Value.category]) ⟨rfl, rfl, by decide, by decide⟩ ?_
  refine ⟨_, _, _, _, _, _, _, rfl, hM, hV, (by first | assumption | (constructor <;> omega)), Kc_i ?_⟩
  refine z_ifb_eq hX dX10_fits_6 (fun c6 => ?_) (fun c6 => ?_)
  · refine g_const hX dX10_fits_21 ?_
    refine o_put hX dX10_fits_22 hM.2.1 (by simp [MFL]) rfl rfl (fun M1 hs1 hn1 => ?_)
    have hM := hM.th hs1 hn1
    
    refine g_aload hX dX10_fits_25 rfl rfl ?_
    refine g_get hX dX10_fits_26 (by first | assumption | exact hM.2.1) rfl ?_
    refine z_if_le hX dX10_fits_29 (by constructor <;> omega) (fun c29 => absurd c29 (by omega)) (fun c29 => ?_)
    
    refine g_const hX dX10_fits_32 ?_
    refine g_goto hX dX10_fits_33 ?_
    refine g_iret hX hR dX10_fits_42 rfl rfl (by decide) (by decide) ?_
    exact MV hK (c := 1) (if_pos (fun q => c6 q.1)) hM hV
  · refine g_aload hX dX10_fits_9 rfl rfl ?_
    refine g_iload hX dX10_fits_10 rfl ?_
    refine g_cV1 (c2 := 0) (s2 := 0) hX (s_X10_isTune hst) dX10_fits_11 (by first | assumption | exact hM.2.1) (by first | exact Nat.le_of_ble_eq_true rfl | simp [cat_rf, Value.category]) ⟨rfl, rfl, by decide, by decide⟩ ?_
    refine ⟨_, _, _, _, _, _, _, rfl, hM, hV, (by first | assumption | (constructor <;> omega)), Kc_i ?_⟩
    refine z_ifb_eq hX dX10_fits_14 (fun c14 => ?_) (fun c14 => ?_)
    · refine g_const hX dX10_fits_21 ?_
      refine o_put hX dX10_fits_22 hM.2.1 (by simp [MFL]) rfl rfl (fun M1 hs1 hn1 => ?_)
      have hM := hM.th hs1 hn1
      
      refine g_aload hX dX10_fits_25 rfl rfl ?_
      refine g_get hX dX10_fits_26 (by first | assumption | exact hM.2.1) rfl ?_
      refine z_if_le hX dX10_fits_29 (by constructor <;> omega) (fun c29 => absurd c29 (by omega)) (fun c29 => ?_)
      
      refine g_const hX dX10_fits_32 ?_
      refine g_goto hX dX10_fits_33 ?_
      refine g_iret hX hR dX10_fits_42 rfl rfl (by decide) (by decide) ?_
      exact MV hK (c := 1) (if_pos (fun q => c14 q.2)) hM hV
    · refine g_const hX dX10_fits_17 ?_
      refine g_goto hX dX10_fits_18 ?_
      refine o_put hX dX10_fits_22 hM.2.1 (by simp [MFL]) rfl rfl (fun M1 hs1 hn1 => ?_)
      have hM := hM.th hs1 hn1
      
      refine g_aload hX dX10_fits_25 rfl rfl ?_
      refine g_get hX dX10_fits_26 (by first | assumption | exact hM.2.1) rfl ?_
      refine z_if_le hX dX10_fits_29 (by constructor <;> omega) (fun c29 => ?_) (fun c29 => absurd c29 (by omega))
      
      refine g_aload hX dX10_fits_36 rfl rfl ?_
      refine g_iload hX dX10_fits_37 rfl ?_
      refine g_iload hX dX10_fits_38 rfl ?_
      refine g_cV2 (c2 := 0) (s2 := 0) hX (s_X10_fit hst) dX10_fits_39 (by first | assumption | exact hM.2.1) (by first | exact Nat.le_of_ble_eq_true rfl | simp [cat_rf, Value.category]) ⟨rfl, rfl, by decide, by decide⟩ ?_
      obtain ⟨t, rfl⟩ : ∃ t : Nat, x = (t : Int) := ⟨x.toNat, by omega⟩
      obtain ⟨u, rfl⟩ : ∃ u : Nat, z = (u : Int) := ⟨z.toNat, by omega⟩
      refine ⟨_, _, _, _, _, _, t, u, rfl, hM, hV, by omega, by omega, Kc_i ?_⟩
      refine g_iret hX hR dX10_fits_42 rfl rfl (by decide) (by decide) ?_
      exact MV hK (c := 0) ((if_neg (fun q => q ⟨c6, c14⟩)).trans (by rw [Int.toNat_natCast, Int.toNat_natCast])) hM hV

def sp_X10_clashes : hS := fun as M sz K => ∃ (b r : Nat) (σ : SG) (th : Int) (P Q : Nat → Int) (x z : Int), as = [.ref r, .int (iZ x), .int (iZ z)] ∧ MX b r σ th P Q M ∧ SV σ ∧ inR x ∧ inR z ∧ MO b r (oc_clashes σ x z) K
theorem s_X10_clashes {l : Launch} {g : hG} (hst : l.stackTraces = false) : Ctr l g mX10_clashes sp_X10_clashes := by
  refine Ctr.mk9 hst (by decide) ?_ ?_
  · rintro as M sz K ⟨b, r, σ, th, P, Q, x, z, rfl, hM, hV, rx, rz, hK⟩
    exact ⟨by simp [mX10_clashes], cat_ok rfl⟩
  rintro X as M sz K hX rfl rfl hR ⟨b, r, σ, th, P, Q, x, z, rfl, hM, hV, rx, rz, hK⟩
  show G X 0 [.ref r, .int (iZ x), .int (iZ z)] [] M sz 0 0
  obtain ⟨n0, n1, n2, n3, ⟨e0, hn0⟩, ⟨e1, hn1⟩, ⟨e2, hn2⟩, ⟨e3, hn3⟩⟩ := hV.nat
  refine g_aload hX dX10_clashes_0 rfl rfl ?_
  refine g_aload hX dX10_clashes_1 rfl rfl ?_
  refine g_iload hX dX10_clashes_2 rfl ?_
  refine g_cV1 (c2 := 0) (s2 := 0) hX (s_X10_isText hst) dX10_clashes_3 (by first | assumption | exact hM.2.1) (by first | exact Nat.le_of_ble_eq_true rfl | simp [cat_rf, Value.category]) ⟨rfl, rfl, by decide, by decide⟩ ?_
  refine ⟨_, _, _, _, _, _, _, rfl, hM, hV, (by first | assumption | (constructor <;> omega)), Kc_i ?_⟩
  refine z_ifb_eq hX dX10_clashes_6 (fun c6 => ?_) (fun c6 => ?_)
  · refine g_const hX dX10_clashes_17 ?_
    refine g_goto hX dX10_clashes_18 ?_
    refine o_put hX dX10_clashes_35 hM.2.1 (by simp [MFL]) rfl rfl (fun M1 hs1 hn1 => ?_)
    have hM := hM.th hs1 hn1
    
    refine g_aload hX dX10_clashes_38 rfl rfl ?_
    refine g_get hX dX10_clashes_39 (by first | assumption | exact hM.2.1) rfl ?_
    refine z_if_le hX dX10_clashes_42 (by constructor <;> omega) (fun c42 => absurd c42 (by omega)) (fun c42 => ?_)
    
    refine g_const hX dX10_clashes_45 ?_
    refine g_goto hX dX10_clashes_46 ?_
    refine g_iret hX hR dX10_clashes_55 rfl rfl (by decide) (by decide) ?_
    exact MV hK (c := 1) (if_pos (fun q => c6 q.1)) hM hV
  · refine g_aload hX dX10_clashes_9 rfl rfl ?_
    refine g_iload hX dX10_clashes_10 rfl ?_
    refine g_cV1 (c2 := 0) (s2 := 0) hX (s_X10_isTune hst) dX10_clashes_11 (by first | assumption | exact hM.2.1) (by first | exact Nat.le_of_ble_eq_true rfl | simp [cat_rf, Value.category]) ⟨rfl, rfl, by decide, by decide⟩ ?_
    refine ⟨_, _, _, _, _, _, _, rfl, hM, hV, (by first | assumption | (constructor <;> omega)), Kc_i ?_⟩
    refine z_ifb_ne hX dX10_clashes_14 (fun c14 => ?_) (fun c14 => ?_)
    · refine g_aload hX dX10_clashes_21 rfl rfl ?_
      refine g_iload hX dX10_clashes_22 rfl ?_
      refine g_iload hX dX10_clashes_23 rfl ?_
      refine g_cV2 (c2 := 0) (s2 := 0) hX (s_X10_fit hst) dX10_clashes_24 (by first | assumption | exact hM.2.1) (by first | exact Nat.le_of_ble_eq_true rfl | simp [cat_rf, Value.category]) ⟨rfl, rfl, by decide, by decide⟩ ?_
      obtain ⟨t, rfl⟩ : ∃ t : Nat, x = (t : Int) := ⟨x.toNat, by omega⟩
      obtain ⟨u, rfl⟩ : ∃ u : Nat, z = (u : Int) := ⟨z.toNat, by omega⟩
      refine ⟨_, _, _, _, _, _, t, u, rfl, hM, hV, by omega, by omega, Kc_i ?_⟩
      have hft := fit_r σ t u
      refine z_if_ne hX dX10_clashes_27 (by first | assumption | (constructor <;> omega)) (fun c27 => ?_) (fun c27 => ?_)
      · refine g_const hX dX10_clashes_34 ?_
        refine o_put hX dX10_clashes_35 hM.2.1 (by simp [MFL]) rfl rfl (fun M1 hs1 hn1 => ?_)
        have hM := hM.th hs1 hn1
        
        refine g_aload hX dX10_clashes_38 rfl rfl ?_
        refine g_get hX dX10_clashes_39 (by first | assumption | exact hM.2.1) rfl ?_
        refine z_if_le hX dX10_clashes_42 (by constructor <;> omega) (fun c42 => ?_) (fun c42 => absurd c42 (by omega))
        
        refine g_aload hX dX10_clashes_49 rfl rfl ?_
        refine g_iload hX dX10_clashes_50 rfl ?_
        refine g_iload hX dX10_clashes_51 rfl ?_
        refine g_cV2 (c2 := 0) (s2 := 0) hX (s_X10_clash hst) dX10_clashes_52 (by first | assumption | exact hM.2.1) (by first | exact Nat.le_of_ble_eq_true rfl | simp [cat_rf, Value.category]) ⟨rfl, rfl, by decide, by decide⟩ ?_
        refine ⟨_, _, _, _, _, _, t, u, rfl, hM, hV, by omega, by omega, (by omega), Kc_i ?_⟩
        refine g_iret hX hR dX10_clashes_55 rfl rfl (by decide) (by decide) ?_
        exact MV hK (c := 0) ((if_neg (fun q => q ⟨c6, c14⟩)).trans ((if_neg (by rw [Int.toNat_natCast, Int.toNat_natCast]; omega)).trans (by rw [Int.toNat_natCast, Int.toNat_natCast]))) hM hV
      · refine g_const hX dX10_clashes_30 ?_
        refine g_goto hX dX10_clashes_31 ?_
        refine o_put hX dX10_clashes_35 hM.2.1 (by simp [MFL]) rfl rfl (fun M1 hs1 hn1 => ?_)
        have hM := hM.th hs1 hn1
        
        refine g_aload hX dX10_clashes_38 rfl rfl ?_
        refine g_get hX dX10_clashes_39 (by first | assumption | exact hM.2.1) rfl ?_
        refine z_if_le hX dX10_clashes_42 (by constructor <;> omega) (fun c42 => absurd c42 (by omega)) (fun c42 => ?_)
        
        refine g_const hX dX10_clashes_45 ?_
        refine g_goto hX dX10_clashes_46 ?_
        refine g_iret hX hR dX10_clashes_55 rfl rfl (by decide) (by decide) ?_
        exact MV hK (c := 2) ((if_neg (fun q => q ⟨c6, c14⟩)).trans (if_pos (by rw [Int.toNat_natCast, Int.toNat_natCast]; omega))) hM hV
    · refine g_const hX dX10_clashes_17 ?_
      refine g_goto hX dX10_clashes_18 ?_
      refine o_put hX dX10_clashes_35 hM.2.1 (by simp [MFL]) rfl rfl (fun M1 hs1 hn1 => ?_)
      have hM := hM.th hs1 hn1
      
      refine g_aload hX dX10_clashes_38 rfl rfl ?_
      refine g_get hX dX10_clashes_39 (by first | assumption | exact hM.2.1) rfl ?_
      refine z_if_le hX dX10_clashes_42 (by constructor <;> omega) (fun c42 => absurd c42 (by omega)) (fun c42 => ?_)
      
      refine g_const hX dX10_clashes_45 ?_
      refine g_goto hX dX10_clashes_46 ?_
      refine g_iret hX hR dX10_clashes_55 rfl rfl (by decide) (by decide) ?_
      exact MV hK (c := 1) (if_pos (fun q => c14 q.2)) hM hV

def sp_X10_best : hS := fun as M sz K => ∃ (b r : Nat) (σ : SG) (th : Int) (P Q : Nat → Int) (x : Int), as = [.ref r, .int (iZ x)] ∧ MX b r σ th P Q M ∧ SV σ ∧ inR x ∧ MO b r (oc_best σ x) K
theorem s_X10_best {l : Launch} {g : hG} (hst : l.stackTraces = false) : Ctr l g mX10_best sp_X10_best := by
  refine Ctr.mk9 hst (by decide) ?_ ?_
  · rintro as M sz K ⟨b, r, σ, th, P, Q, x, rfl, hM, hV, rx, hK⟩
    exact ⟨by simp [mX10_best], cat_ok rfl⟩
  rintro X as M sz K hX rfl rfl hR ⟨b, r, σ, th, P, Q, x, rfl, hM, hV, rx, hK⟩
  show G X 0 [.ref r, .int (iZ x)] [] M sz 0 0
  obtain ⟨n0, n1, n2, n3, ⟨e0, hn0⟩, ⟨e1, hn1⟩, ⟨e2, hn2⟩, ⟨e3, hn3⟩⟩ := hV.nat
  refine g_aload hX dX10_best_0 rfl rfl ?_
  refine g_aload hX dX10_best_1 rfl rfl ?_
  refine g_iload hX dX10_best_2 rfl ?_
  refine g_cV1 (c2 := 0) (s2 := 0) hX (s_X10_isText hst) dX10_best_3 (by first | assumption | exact hM.2.1) (by first | exact Nat.le_of_ble_eq_true rfl | simp [cat_rf, Value.category]) ⟨rfl, rfl, by decide, by decide⟩ ?_
  refine ⟨_, _, _, _, _, _, _, rfl, hM, hV, (by first | assumption | (constructor <;> omega)), Kc_i ?_⟩
  refine z_ifb_eq hX dX10_best_6 (fun c6 => ?_) (fun c6 => ?_)
  · refine g_const hX dX10_best_13 ?_
    refine o_put hX dX10_best_14 hM.2.1 (by simp [MFL]) rfl rfl (fun M1 hs1 hn1 => ?_)
    have hM := hM.th hs1 hn1
    
    refine g_aload hX dX10_best_17 rfl rfl ?_
    refine g_get hX dX10_best_18 (by first | assumption | exact hM.2.1) rfl ?_
    refine z_if_le hX dX10_best_21 (by constructor <;> omega) (fun c21 => absurd c21 (by omega)) (fun c21 => ?_)
    
    refine g_const hX dX10_best_24 ?_
    refine g_goto hX dX10_best_25 ?_
    refine g_iret hX hR dX10_best_35 rfl rfl (by decide) (by decide) ?_
    exact MV hK (c := 1) (if_pos c6) hM hV
  · refine g_const hX dX10_best_9 ?_
    refine g_goto hX dX10_best_10 ?_
    refine o_put hX dX10_best_14 hM.2.1 (by simp [MFL]) rfl rfl (fun M1 hs1 hn1 => ?_)
    have hM := hM.th hs1 hn1
    
    refine g_aload hX dX10_best_17 rfl rfl ?_
    refine g_get hX dX10_best_18 (by first | assumption | exact hM.2.1) rfl ?_
    refine z_if_le hX dX10_best_21 (by constructor <;> omega) (fun c21 => ?_) (fun c21 => absurd c21 (by omega))
    
    refine g_aload hX dX10_best_28 rfl rfl ?_
    refine g_iload hX dX10_best_29 rfl ?_
    refine g_const hX dX10_best_30 ?_
    refine g_const hX dX10_best_31 ?_
    refine g_cV3 (c2 := 0) (s2 := 0) hX (s_X10_bestOf hst) dX10_best_32 (by first | assumption | exact hM.2.1) (by first | exact Nat.le_of_ble_eq_true rfl | simp [cat_rf, Value.category]) ⟨rfl, rfl, by decide, by decide⟩ ?_
    obtain ⟨t, rfl⟩ : ∃ t : Nat, x = (t : Int) := ⟨x.toNat, by omega⟩
    refine ⟨_, _, _, _, _, _, t, _, _, rfl, hM, hV, by omega, Or.inr rfl, by omega, Kc_i ?_⟩
    refine g_iret hX hR dX10_best_35 rfl rfl (by decide) (by decide) ?_
    exact kint (MV hK (c := 0) (if_neg (fun q => q c6)) hM hV) (by rw [Int.toNat_natCast]; rfl)

theorem alk_sym {σ : SG} (a b : Nat) : alkZ σ a b ↔ alkZ σ b a := by
  constructor
  · intro h
    exact ⟨h.1.symm, fun k hk => (h.2 k (by have := h.1; omega)).symm⟩
  · intro h
    exact ⟨h.1.symm, fun k hk => (h.2 k (by have := h.1; omega)).symm⟩

def sp_X10_alike : hS := fun as M sz K => ∃ (b r : Nat) (σ : SG) (th : Int) (P Q : Nat → Int) (x : Int), as = [.ref r, .int (iZ x)] ∧ MX b r σ th P Q M ∧ SV σ ∧ inR x ∧ MO b r (oc_alike σ x) K
theorem s_X10_alike {l : Launch} {g : hG} (hst : l.stackTraces = false) : Ctr l g mX10_alike sp_X10_alike := by
  refine Ctr.mk9 hst (by decide) ?_ ?_
  · rintro as M sz K ⟨b, r, σ, th, P, Q, x, rfl, hM, hV, rx, hK⟩
    exact ⟨by simp [mX10_alike], cat_ok rfl⟩
  rintro X as M sz K hX rfl rfl hR ⟨b, r, σ, th, P, Q, x, rfl, hM, hV, rx, hK⟩
  show G X 0 [.ref r, .int (iZ x), U9, U9] [] M sz 0 0
  obtain ⟨n0, n1, n2, n3, ⟨e0, hn0⟩, ⟨e1, hn1⟩, ⟨e2, hn2⟩, ⟨e3, hn3⟩⟩ := hV.nat
  have after : ∀ (M1 : Nat → Option hC) (u : Nat), MX b r σ 0 P Q M1 → (u : Int) < σ 1 0 0 → inN σ 1 (u : Int) → MO b r (oc_alike σ (u : Int)) K → G X 21 [.ref r, .int (iZ (u : Int)), .int (iZ 0), .int (iZ 0)] [] M1 sz 0 0 := by
    intro M1 u hM hu hq hK
    have loop : ∀ (k9 a : Nat), (a : Int) + k9 = σ 1 0 0 → G X 21 [.ref r, .int (iZ (u : Int)), .int (iZ (alkK σ u a)), .int (iZ (a : Int))] [] M1 sz 0 0 := by
      intro k9
      induction k9 with
      | zero =>
        intro a hk
        refine g_iload hX dX10_alike_21 rfl ?_
        refine g_aload hX dX10_alike_22 rfl rfl ?_
        refine g_get hX dX10_alike_23 (by first | assumption | exact hM.2.1) rfl ?_
        refine z_icmp_ge hX dX10_alike_26 (by first | assumption | (constructor <;> omega)) (by first | assumption | (constructor <;> omega)) (fun c26 => ?_) (fun c26 => ?_)
        · refine g_iload hX dX10_alike_59 rfl ?_
          refine g_iret hX hR dX10_alike_60 rfl rfl (by decide) (by decide) ?_
          exact kint (MV hK (c := 0) (if_neg (fun q => q hq)) hM hV) (by rw [Int.toNat_natCast]; congr 1; omega)
        · exfalso; omega
      | succ k9 ih =>
        intro a hk
        have har := alkK_r σ u a
        refine g_iload hX dX10_alike_21 rfl ?_
        refine g_aload hX dX10_alike_22 rfl rfl ?_
        refine g_get hX dX10_alike_23 (by first | assumption | exact hM.2.1) rfl ?_
        refine z_icmp_ge hX dX10_alike_26 (by first | assumption | (constructor <;> omega)) (by first | assumption | (constructor <;> omega)) (fun c26 => ?_) (fun c26 => ?_)
        · exfalso; omega
        · refine g_aload hX dX10_alike_29 rfl rfl ?_
          refine g_get hX dX10_alike_30 (by first | assumption | exact hM.2.1) rfl ?_
          refine z_if_ne hX dX10_alike_33 (by constructor <;> omega) (fun c33 => absurd c33 (by omega)) (fun c33 => ?_)
          
          refine g_iload hX dX10_alike_36 rfl ?_
          refine g_aload hX dX10_alike_37 rfl rfl ?_
          refine g_iload hX dX10_alike_38 rfl ?_
          refine g_iload hX dX10_alike_39 rfl ?_
          refine g_cV2 (c2 := 0) (s2 := 0) hX (s_X10_areAlike hst) dX10_alike_40 (by first | assumption | exact hM.2.1) (by first | exact Nat.le_of_ble_eq_true rfl | simp [cat_rf, Value.category]) ⟨rfl, rfl, by decide, by decide⟩ ?_
          refine ⟨_, _, _, _, _, _, u, a, rfl, hM, hV, by omega, by omega, Kc_i ?_⟩
          refine z_ifb_eq hX dX10_alike_43 (fun c43 => ?_) (fun c43 => ?_)
          · refine g_const hX dX10_alike_50 ?_
            refine z_iadd hX dX10_alike_51 ?_
            refine g_istore hX dX10_alike_52 ?_
            dsimp only [List.set]
            refine z_iinc hX dX10_alike_53 rfl ?_
            dsimp only [List.set]
            refine g_goto hX dX10_alike_56 ?_
            have h9 := ih (a + 1) (by omega)
            rw [show alkK σ u (a + 1) = alkK σ u a + 0 from congrArg (alkK σ u a + ·) (bZ_f (fun e => c43 ((alk_sym u a).mpr e)))] at h9
            exact h9
          · refine g_const hX dX10_alike_46 ?_
            refine g_goto hX dX10_alike_47 ?_
            refine z_iadd hX dX10_alike_51 ?_
            refine g_istore hX dX10_alike_52 ?_
            dsimp only [List.set]
            refine z_iinc hX dX10_alike_53 rfl ?_
            dsimp only [List.set]
            refine g_goto hX dX10_alike_56 ?_
            have h9 := ih (a + 1) (by omega)
            rw [show alkK σ u (a + 1) = alkK σ u a + 1 from congrArg (alkK σ u a + ·) (bZ_t ((alk_sym u a).mp c43))] at h9
            exact h9
    exact loop (σ 1 0 0).toNat 0 (by omega)
  refine g_aload hX dX10_alike_0 rfl rfl ?_
  refine g_aload hX dX10_alike_1 rfl rfl ?_
  refine g_iload hX dX10_alike_2 rfl ?_
  refine g_cV1 (c2 := 0) (s2 := 0) hX (s_X10_isTune hst) dX10_alike_3 (by first | assumption | exact hM.2.1) (by first | exact Nat.le_of_ble_eq_true rfl | simp [cat_rf, Value.category]) ⟨rfl, rfl, by decide, by decide⟩ ?_
  refine ⟨_, _, _, _, _, _, _, rfl, hM, hV, (by first | assumption | (constructor <;> omega)), Kc_i ?_⟩
  refine z_ifb_eq hX dX10_alike_6 (fun c6 => ?_) (fun c6 => ?_)
  · refine g_const hX dX10_alike_13 ?_
    refine o_put hX dX10_alike_14 hM.2.1 (by simp [MFL]) rfl rfl (fun M1 hs1 hn1 => ?_)
    have hM := hM.th hs1 hn1
    
    refine g_const hX dX10_alike_17 ?_
    refine g_istore hX dX10_alike_18 ?_
    dsimp only [List.set]
    refine g_const hX dX10_alike_19 ?_
    refine g_istore hX dX10_alike_20 ?_
    dsimp only [List.set]
    refine g_iload hX dX10_alike_21 rfl ?_
    refine g_aload hX dX10_alike_22 rfl rfl ?_
    refine g_get hX dX10_alike_23 (by first | assumption | exact hM.2.1) rfl ?_
    refine z_icmp_ge hX dX10_alike_26 (by first | assumption | (constructor <;> omega)) (by first | assumption | (constructor <;> omega)) (fun c26 => ?_) (fun c26 => ?_)
    · refine g_iload hX dX10_alike_59 rfl ?_
      refine g_iret hX hR dX10_alike_60 rfl rfl (by decide) (by decide) ?_
      exact MV hK (c := 1) (if_pos c6) hM hV
    · refine g_aload hX dX10_alike_29 rfl rfl ?_
      refine g_get hX dX10_alike_30 (by first | assumption | exact hM.2.1) rfl ?_
      refine z_if_ne hX dX10_alike_33 (by constructor <;> omega) (fun c33 => ?_) (fun c33 => absurd c33 (by omega))
      
      refine g_iload hX dX10_alike_59 rfl ?_
      refine g_iret hX hR dX10_alike_60 rfl rfl (by decide) (by decide) ?_
      exact MV hK (c := 1) (if_pos c6) hM hV
  · refine g_const hX dX10_alike_9 ?_
    refine g_goto hX dX10_alike_10 ?_
    refine o_put hX dX10_alike_14 hM.2.1 (by simp [MFL]) rfl rfl (fun M1 hs1 hn1 => ?_)
    have hM := hM.th hs1 hn1
    
    refine g_const hX dX10_alike_17 ?_
    refine g_istore hX dX10_alike_18 ?_
    dsimp only [List.set]
    refine g_const hX dX10_alike_19 ?_
    refine g_istore hX dX10_alike_20 ?_
    dsimp only [List.set]
    obtain ⟨u, rfl⟩ : ∃ u : Nat, x = (u : Int) := ⟨x.toNat, by omega⟩
    exact after M1 u hM (by omega) c6 hK

abbrev fsK (σ : SG) (u m : Nat) : Prop := ∀ j : Nat, j < m → ¬ alkZ σ j u
theorem fsK_s {σ : SG} {u m : Nat} : fsK σ u (m + 1) ↔ (fsK σ u m ∧ ¬ alkZ σ m u) := by
  constructor
  · intro h
    exact ⟨fun j hj => h j (by omega), h m (by omega)⟩
  · intro h j hj
    by_cases e : j = m
    · rw [e]; exact h.2
    · exact h.1 j (by omega)

def sp_X10_metres : hS := fun as M sz K => ∃ (b r : Nat) (σ : SG) (th : Int) (P Q : Nat → Int), as = [.ref r] ∧ MX b r σ th P Q M ∧ SV σ ∧ MO b r (oc_metres σ) K
theorem s_X10_metres {l : Launch} {g : hG} (hst : l.stackTraces = false) : Ctr l g mX10_metres sp_X10_metres := by
  refine Ctr.mk9 hst (by decide) ?_ ?_
  · rintro as M sz K ⟨b, r, σ, th, P, Q, rfl, hM, hV, hK⟩
    exact ⟨by simp [mX10_metres], cat_ok rfl⟩
  rintro X as M sz K hX rfl rfl hR ⟨b, r, σ, th, P, Q, rfl, hM, hV, hK⟩
  show G X 0 [.ref r, U9, U9, U9, U9] [] M sz 0 0
  obtain ⟨n0, n1, n2, n3, ⟨e0, hn0⟩, ⟨e1, hn1⟩, ⟨e2, hn2⟩, ⟨e3, hn3⟩⟩ := hV.nat
  have after : ∀ (M1 : Nat → Option hC), MX b r σ 0 P Q M1 → G X 9 [.ref r, .int (iZ 0), .int (iZ 0), U9, U9] [] M1 sz 0 0 := by
    intro M1 hM
    have inner : ∀ u : Nat, (u : Int) < σ 1 0 0 → G X 52 [.ref r, .int (iZ (metK σ u)), .int (iZ (u : Int)), .int (iZ (bZ (fstM σ u))), .int (iZ (u : Int))] [] M1 sz 0 0 → ∀ (k9 m : Nat), m + k9 = u → G X 22 [.ref r, .int (iZ (metK σ u)), .int (iZ (u : Int)), .int (iZ (bZ (fsK σ u m))), .int (iZ (m : Int))] [] M1 sz 0 0 := by
      intro u hu hend k9
      induction k9 with
      | zero =>
        intro m hk
        obtain rfl : m = u := by omega
        refine g_iload hX dX10_metres_22 rfl ?_
        refine g_iload hX dX10_metres_24 rfl ?_
        refine z_icmp_ge hX dX10_metres_25 (by first | assumption | (constructor <;> omega)) (by first | assumption | (constructor <;> omega)) (fun c25 => ?_) (fun c25 => ?_)
        · exact hend
        · exfalso; omega
      | succ k9 ih =>
        intro m hk
        refine g_iload hX dX10_metres_22 rfl ?_
        refine g_iload hX dX10_metres_24 rfl ?_
        refine z_icmp_ge hX dX10_metres_25 (by first | assumption | (constructor <;> omega)) (by first | assumption | (constructor <;> omega)) (fun c25 => ?_) (fun c25 => ?_)
        · exfalso; omega
        · refine g_iload hX dX10_metres_28 rfl ?_
          refine g_aload hX dX10_metres_29 rfl rfl ?_
          refine g_iload hX dX10_metres_30 rfl ?_
          refine g_iload hX dX10_metres_32 rfl ?_
          refine g_cV2 (c2 := 0) (s2 := 0) hX (s_X10_areAlike hst) dX10_metres_33 (by first | assumption | exact hM.2.1) (by first | exact Nat.le_of_ble_eq_true rfl | simp [cat_rf, Value.category]) ⟨rfl, rfl, by decide, by decide⟩ ?_
          refine ⟨_, _, _, _, _, _, m, u, rfl, hM, hV, by omega, by omega, Kc_i ?_⟩
          refine z_ifb_ne hX dX10_metres_36 (fun c36 => ?_) (fun c36 => ?_)
          · refine g_const hX dX10_metres_43 ?_
            refine g_eqL (lv' := _) (st' := [.int (iZ (bZ (¬ alkZ σ m u))), .int (iZ (bZ (fsK σ u m)))]) rfl (by rw [bZ_f (c := ¬ alkZ σ m u) (fun q => q c36)]) ?_
            refine z_iband hX dX10_metres_44 ?_
            refine g_istore hX dX10_metres_45 ?_
            dsimp only [List.set]
            refine z_iinc hX dX10_metres_46 rfl ?_
            dsimp only [List.set]
            refine g_goto hX dX10_metres_49 ?_
            have h9 := ih (m + 1) (by omega)
            rw [bZ_iff fsK_s] at h9
            exact h9
          · refine g_const hX dX10_metres_39 ?_
            refine g_goto hX dX10_metres_40 ?_
            refine g_eqL (lv' := _) (st' := [.int (iZ (bZ (¬ alkZ σ m u))), .int (iZ (bZ (fsK σ u m)))]) rfl (by rw [bZ_t (c := ¬ alkZ σ m u) c36]) ?_
            refine z_iband hX dX10_metres_44 ?_
            refine g_istore hX dX10_metres_45 ?_
            dsimp only [List.set]
            refine z_iinc hX dX10_metres_46 rfl ?_
            dsimp only [List.set]
            refine g_goto hX dX10_metres_49 ?_
            have h9 := ih (m + 1) (by omega)
            rw [bZ_iff fsK_s] at h9
            exact h9
    have loop : ∀ (k9 u : Nat) (v3 v4 : Value), (u : Int) + k9 = σ 1 0 0 → G X 9 [.ref r, .int (iZ (metK σ u)), .int (iZ (u : Int)), v3, v4] [] M1 sz 0 0 := by
      intro k9
      induction k9 with
      | zero =>
        intro u v3 v4 hk
        refine g_iload hX dX10_metres_9 rfl ?_
        refine g_aload hX dX10_metres_10 rfl rfl ?_
        refine g_get hX dX10_metres_11 (by first | assumption | exact hM.2.1) rfl ?_
        refine z_icmp_ge hX dX10_metres_14 (by first | assumption | (constructor <;> omega)) (by first | assumption | (constructor <;> omega)) (fun c14 => ?_) (fun c14 => ?_)
        · refine g_iload hX dX10_metres_70 rfl ?_
          refine g_iret hX hR dX10_metres_71 rfl rfl (by decide) (by decide) ?_
          exact kint (MV hK (c := 0) rfl hM hV) (by congr 1; omega)
        · exfalso; omega
      | succ k9 ih =>
        intro u v3 v4 hk
        have hu9 : (u : Int) < σ 1 0 0 := by omega
        have hmr := metK_r σ u
        refine g_iload hX dX10_metres_9 rfl ?_
        refine g_aload hX dX10_metres_10 rfl rfl ?_
        refine g_get hX dX10_metres_11 (by first | assumption | exact hM.2.1) rfl ?_
        refine z_icmp_ge hX dX10_metres_14 (by first | assumption | (constructor <;> omega)) (by first | assumption | (constructor <;> omega)) (fun c14 => ?_) (fun c14 => ?_)
        · exfalso; omega
        · refine g_const hX dX10_metres_17 ?_
          refine g_istore hX dX10_metres_18 ?_
          dsimp only [List.set]
          refine g_const hX dX10_metres_19 ?_
          refine g_istore hX dX10_metres_20 ?_
          dsimp only [List.set]
          have hin := inner u hu9 ?_ u 0 (by omega)
          · rw [show bZ (fsK σ u 0) = 1 from bZ_t (fun j hj => absurd hj (Nat.not_lt_zero j))] at hin
            exact hin
          · skip
            refine g_iload hX dX10_metres_52 rfl ?_
            refine g_iload hX dX10_metres_53 rfl ?_
            refine z_ifb_eq hX dX10_metres_54 (fun c54 => ?_) (fun c54 => ?_)
            · refine g_const hX dX10_metres_61 ?_
              refine z_iadd hX dX10_metres_62 ?_
              refine g_istore hX dX10_metres_63 ?_
              dsimp only [List.set]
              refine z_iinc hX dX10_metres_64 rfl ?_
              dsimp only [List.set]
              refine g_goto hX dX10_metres_67 ?_
              have h9 := ih (u + 1) (.int (iZ (bZ (fstM σ u)))) (.int (iZ (u : Int))) (by omega)
              rw [show metK σ (u + 1) = metK σ u + 0 from congrArg (metK σ u + ·) (bZ_f c54)] at h9
              exact h9
            · refine g_const hX dX10_metres_57 ?_
              refine g_goto hX dX10_metres_58 ?_
              refine z_iadd hX dX10_metres_62 ?_
              refine g_istore hX dX10_metres_63 ?_
              dsimp only [List.set]
              refine z_iinc hX dX10_metres_64 rfl ?_
              dsimp only [List.set]
              refine g_goto hX dX10_metres_67 ?_
              have h9 := ih (u + 1) (.int (iZ (bZ (fstM σ u)))) (.int (iZ (u : Int))) (by omega)
              rw [show metK σ (u + 1) = metK σ u + 1 from congrArg (metK σ u + ·) (bZ_t c54)] at h9
              exact h9
    exact loop (σ 1 0 0).toNat 0 _ _ (by omega)
  refine g_aload hX dX10_metres_0 rfl rfl ?_
  refine g_const hX dX10_metres_1 ?_
  refine o_put hX dX10_metres_2 hM.2.1 (by simp [MFL]) rfl rfl (fun M1 hs1 hn1 => ?_)
  have hM := hM.th hs1 hn1
  
  refine g_const hX dX10_metres_5 ?_
  refine g_istore hX dX10_metres_6 ?_
  dsimp only [List.set]
  refine g_const hX dX10_metres_7 ?_
  refine g_istore hX dX10_metres_8 ?_
  dsimp only [List.set]
  exact after M1 hM

def sp_X10_shift : hS := fun as M sz K => ∃ (b r : Nat) (σ : SG) (th : Int) (P Q : Nat → Int) (x lo hi : Int), as = [.ref r, .int (iZ x), .int (iZ lo), .int (iZ hi)] ∧ MX b r σ th P Q M ∧ SV σ ∧ inR x ∧ inR lo ∧ inR hi ∧ MO b r (oc_shift σ x lo hi) K
theorem s_X10_shift {l : Launch} {g : hG} (hst : l.stackTraces = false) : Ctr l g mX10_shift sp_X10_shift := by
  refine Ctr.mk9 hst (by decide) ?_ ?_
  · rintro as M sz K ⟨b, r, σ, th, P, Q, x, lo, hi, rfl, hM, hV, rx, rlo, rhi, hK⟩
    exact ⟨by simp [mX10_shift], cat_ok rfl⟩
  rintro X as M sz K hX rfl rfl hR ⟨b, r, σ, th, P, Q, x, lo, hi, rfl, hM, hV, rx, rlo, rhi, hK⟩
  show G X 0 [.ref r, .int (iZ x), .int (iZ lo), .int (iZ hi), U9, U9] [] M sz 0 0
  obtain ⟨n0, n1, n2, n3, ⟨e0, hn0⟩, ⟨e1, hn1⟩, ⟨e2, hn2⟩, ⟨e3, hn3⟩⟩ := hV.nat
  have ha8 : M (b + 8) = some (.inr (0, 12, .inl (fun i => iZ (σ 21 i 0)))) := hM.2.2 8 (by decide)
  have ha9 : M (b + 9) = some (.inr (0, 12, .inl (fun i => iZ (σ 22 i 0)))) := hM.2.2 9 (by decide)
  refine g_aload hX dX10_shift_0 rfl rfl ?_
  refine g_aload hX dX10_shift_1 rfl rfl ?_
  refine g_iload hX dX10_shift_2 rfl ?_
  refine g_cV1 (c2 := 0) (s2 := 0) hX (s_X10_isTune hst) dX10_shift_3 (by first | assumption | exact hM.2.1) (by first | exact Nat.le_of_ble_eq_true rfl | simp [cat_rf, Value.category]) ⟨rfl, rfl, by decide, by decide⟩ ?_
  refine ⟨_, _, _, _, _, _, _, rfl, hM, hV, (by first | assumption | (constructor <;> omega)), Kc_i ?_⟩
  refine z_ifb_ne hX dX10_shift_6 (fun c6 => ?_) (fun c6 => ?_)
  · refine g_iload hX dX10_shift_13 rfl ?_
    refine g_const hX dX10_shift_14 ?_
    refine g_const hX dX10_shift_15 ?_
    refine g_cS3 (c2 := 0) (s2 := 0) hX (s_X10_isIn hst) dX10_shift_17 (by first | exact Nat.le_of_ble_eq_true rfl | simp [cat_rf, Value.category]) ⟨rfl, rfl, by decide, by decide⟩ ?_
    refine ⟨_, _, _, rfl, (by first | assumption | (constructor <;> omega)), (by first | assumption | (constructor <;> omega)), (by first | assumption | (constructor <;> omega)), Kc_i ?_⟩
    refine z_ifb_eq hX dX10_shift_20 (fun c20 => ?_) (fun c20 => ?_)
    · refine g_const hX dX10_shift_33 ?_
      refine g_goto hX dX10_shift_34 ?_
      refine o_put hX dX10_shift_38 hM.2.1 (by simp [MFL]) rfl rfl (fun M1 hs1 hn1 => ?_)
      have hM := hM.th hs1 hn1
      have ha8 : M1 (b + 8) = some (.inr (0, 12, .inl (fun i => iZ (σ 21 i 0)))) := hM.2.2 8 (by decide)
      have ha9 : M1 (b + 9) = some (.inr (0, 12, .inl (fun i => iZ (σ 22 i 0)))) := hM.2.2 9 (by decide)
      
      refine g_aload hX dX10_shift_41 rfl rfl ?_
      refine g_get hX dX10_shift_42 (by first | assumption | exact hM.2.1) rfl ?_
      refine z_if_le hX dX10_shift_45 (by constructor <;> omega) (fun c45 => absurd c45 (by omega)) (fun c45 => ?_)
      
      refine g_const hX dX10_shift_48 ?_
      refine g_iret hX hR dX10_shift_49 rfl rfl (by decide) (by decide) ?_
      exact MV hK (c := 2) ((if_neg (fun q => q c6)).trans (if_pos (fun q => c20 q.1))) hM hV
    · refine g_iload hX dX10_shift_23 rfl ?_
      refine g_iload hX dX10_shift_24 rfl ?_
      refine g_const hX dX10_shift_25 ?_
      refine g_cS3 (c2 := 0) (s2 := 0) hX (s_X10_isIn hst) dX10_shift_27 (by first | exact Nat.le_of_ble_eq_true rfl | simp [cat_rf, Value.category]) ⟨rfl, rfl, by decide, by decide⟩ ?_
      refine ⟨_, _, _, rfl, (by first | assumption | (constructor <;> omega)), (by first | assumption | (constructor <;> omega)), (by first | assumption | (constructor <;> omega)), Kc_i ?_⟩
      refine z_ifb_ne hX dX10_shift_30 (fun c30 => ?_) (fun c30 => ?_)
      · refine g_const hX dX10_shift_37 ?_
        refine o_put hX dX10_shift_38 hM.2.1 (by simp [MFL]) rfl rfl (fun M1 hs1 hn1 => ?_)
        have hM := hM.th hs1 hn1
        have ha8 : M1 (b + 8) = some (.inr (0, 12, .inl (fun i => iZ (σ 21 i 0)))) := hM.2.2 8 (by decide)
        have ha9 : M1 (b + 9) = some (.inr (0, 12, .inl (fun i => iZ (σ 22 i 0)))) := hM.2.2 9 (by decide)
        
        refine g_aload hX dX10_shift_41 rfl rfl ?_
        refine g_get hX dX10_shift_42 (by first | assumption | exact hM.2.1) rfl ?_
        refine z_if_le hX dX10_shift_45 (by constructor <;> omega) (fun c45 => ?_) (fun c45 => absurd c45 (by omega))
        
        obtain ⟨u, rfl⟩ : ∃ u : Nat, x = (u : Int) := ⟨x.toNat, by omega⟩
        have hu9 := hV.u u
        refine g_iload hX dX10_shift_50 rfl ?_
        refine g_aload hX dX10_shift_51 rfl rfl ?_
        refine g_get hX dX10_shift_52 (by first | assumption | exact hM.2.1) rfl ?_
        refine g_iload hX dX10_shift_55 rfl ?_
        refine z_iald hX dX10_shift_56 (by first | assumption | exact hM.2.1) (by omega) (by omega) (by decide) rfl ?_
        try simp only [Int.toNat_natCast]
        refine z_isub hX dX10_shift_57 ?_
        refine g_istore hX dX10_shift_58 ?_
        dsimp only [List.set]
        refine g_iload hX dX10_shift_60 rfl ?_
        refine g_aload hX dX10_shift_61 rfl rfl ?_
        refine g_get hX dX10_shift_62 (by first | assumption | exact hM.2.1) rfl ?_
        refine g_iload hX dX10_shift_65 rfl ?_
        refine z_iald hX dX10_shift_66 (by first | assumption | exact hM.2.1) (by omega) (by omega) (by decide) rfl ?_
        try simp only [Int.toNat_natCast]
        refine z_isub hX dX10_shift_67 ?_
        refine g_istore hX dX10_shift_68 ?_
        dsimp only [List.set]
        refine g_iload hX dX10_shift_70 rfl ?_
        refine g_iload hX dX10_shift_72 rfl ?_
        refine z_icmp_le hX dX10_shift_74 (by first | assumption | (constructor <;> omega)) (by first | assumption | (constructor <;> omega)) (fun c74 => ?_) (fun c74 => ?_)
        · refine g_iload hX dX10_shift_82 rfl ?_
          refine z_if_le hX dX10_shift_84 (by first | assumption | (constructor <;> omega)) (fun c84 => ?_) (fun c84 => ?_)
          · refine g_iload hX dX10_shift_92 rfl ?_
            refine z_if_ge hX dX10_shift_94 (by first | assumption | (constructor <;> omega)) (fun c94 => ?_) (fun c94 => ?_)
            · refine g_const hX dX10_shift_102 ?_
              refine g_iret hX hR dX10_shift_103 rfl rfl (by decide) (by decide) ?_
              exact kint (MV hK (c := 0) ((if_neg (fun q => q c6)).trans (if_neg (fun q => q ⟨c20, c30⟩))) hM hV) (by rw [Int.toNat_natCast]; unfold shfZ; (repeat' split) <;> omega)
            · refine g_iload hX dX10_shift_97 rfl ?_
              refine g_goto hX dX10_shift_99 ?_
              refine g_iret hX hR dX10_shift_103 rfl rfl (by decide) (by decide) ?_
              exact kint (MV hK (c := 0) ((if_neg (fun q => q c6)).trans (if_neg (fun q => q ⟨c20, c30⟩))) hM hV) (by rw [Int.toNat_natCast]; unfold shfZ; (repeat' split) <;> omega)
          · refine g_iload hX dX10_shift_87 rfl ?_
            refine g_goto hX dX10_shift_89 ?_
            refine g_iret hX hR dX10_shift_103 rfl rfl (by decide) (by decide) ?_
            exact kint (MV hK (c := 0) ((if_neg (fun q => q c6)).trans (if_neg (fun q => q ⟨c20, c30⟩))) hM hV) (by rw [Int.toNat_natCast]; unfold shfZ; (repeat' split) <;> omega)
        · refine g_const hX dX10_shift_77 ?_
          refine g_goto hX dX10_shift_79 ?_
          refine g_iret hX hR dX10_shift_103 rfl rfl (by decide) (by decide) ?_
          exact kint (MV hK (c := 0) ((if_neg (fun q => q c6)).trans (if_neg (fun q => q ⟨c20, c30⟩))) hM hV) (by rw [Int.toNat_natCast]; unfold shfZ; (repeat' split) <;> omega)
      · refine g_const hX dX10_shift_33 ?_
        refine g_goto hX dX10_shift_34 ?_
        refine o_put hX dX10_shift_38 hM.2.1 (by simp [MFL]) rfl rfl (fun M1 hs1 hn1 => ?_)
        have hM := hM.th hs1 hn1
        have ha8 : M1 (b + 8) = some (.inr (0, 12, .inl (fun i => iZ (σ 21 i 0)))) := hM.2.2 8 (by decide)
        have ha9 : M1 (b + 9) = some (.inr (0, 12, .inl (fun i => iZ (σ 22 i 0)))) := hM.2.2 9 (by decide)
        
        refine g_aload hX dX10_shift_41 rfl rfl ?_
        refine g_get hX dX10_shift_42 (by first | assumption | exact hM.2.1) rfl ?_
        refine z_if_le hX dX10_shift_45 (by constructor <;> omega) (fun c45 => absurd c45 (by omega)) (fun c45 => ?_)
        
        refine g_const hX dX10_shift_48 ?_
        refine g_iret hX hR dX10_shift_49 rfl rfl (by decide) (by decide) ?_
        exact MV hK (c := 2) ((if_neg (fun q => q c6)).trans (if_pos (fun q => c30 q.2))) hM hV
  · refine g_const hX dX10_shift_9 ?_
    refine g_goto hX dX10_shift_10 ?_
    refine o_put hX dX10_shift_38 hM.2.1 (by simp [MFL]) rfl rfl (fun M1 hs1 hn1 => ?_)
    have hM := hM.th hs1 hn1
    have ha8 : M1 (b + 8) = some (.inr (0, 12, .inl (fun i => iZ (σ 21 i 0)))) := hM.2.2 8 (by decide)
    have ha9 : M1 (b + 9) = some (.inr (0, 12, .inl (fun i => iZ (σ 22 i 0)))) := hM.2.2 9 (by decide)
    
    refine g_aload hX dX10_shift_41 rfl rfl ?_
    refine g_get hX dX10_shift_42 (by first | assumption | exact hM.2.1) rfl ?_
    refine z_if_le hX dX10_shift_45 (by constructor <;> omega) (fun c45 => absurd c45 (by omega)) (fun c45 => ?_)
    
    refine g_const hX dX10_shift_48 ?_
    refine g_iret hX hR dX10_shift_49 rfl rfl (by decide) (by decide) ?_
    exact MV hK (c := 1) (if_pos c6) hM hV

def sp_X10_tellsEaster : hS := fun as M sz K => ∃ (b r : Nat) (σ : SG) (th : Int) (P Q : Nat → Int) (y : Int), as = [.ref r, .int (iZ y)] ∧ MX b r σ th P Q M ∧ SV σ ∧ inR y ∧ MO b r (oc_easter σ y) K
theorem s_X10_tellsEaster {l : Launch} {g : hG} (hst : l.stackTraces = false) : Ctr l g mX10_tellsEaster sp_X10_tellsEaster := by
  refine Ctr.mk9 hst (by decide) ?_ ?_
  · rintro as M sz K ⟨b, r, σ, th, P, Q, y, rfl, hM, hV, ry, hK⟩
    exact ⟨by simp [mX10_tellsEaster], cat_ok rfl⟩
  rintro X as M sz K hX rfl rfl hR ⟨b, r, σ, th, P, Q, y, rfl, hM, hV, ry, hK⟩
  show G X 0 [.ref r, .int (iZ y)] [] M sz 0 0
  obtain ⟨n0, n1, n2, n3, ⟨e0, hn0⟩, ⟨e1, hn1⟩, ⟨e2, hn2⟩, ⟨e3, hn3⟩⟩ := hV.nat
  refine g_aload hX dX10_tellsEaster_0 rfl rfl ?_
  refine g_iload hX dX10_tellsEaster_1 rfl ?_
  refine g_cS1 (c2 := 0) (s2 := 0) hX (s_X10_isYear hst) dX10_tellsEaster_2 (by first | exact Nat.le_of_ble_eq_true rfl | simp [cat_rf, Value.category]) ⟨rfl, rfl, by decide, by decide⟩ ?_
  refine ⟨_, rfl, (by first | assumption | (constructor <;> omega)), Kc_i ?_⟩
  refine z_ifb_eq hX dX10_tellsEaster_5 (fun c5 => ?_) (fun c5 => ?_)
  · refine g_const hX dX10_tellsEaster_12 ?_
    refine o_put hX dX10_tellsEaster_13 hM.2.1 (by simp [MFL]) rfl rfl (fun M1 hs1 hn1 => ?_)
    have hM := hM.th hs1 hn1
    
    refine g_aload hX dX10_tellsEaster_16 rfl rfl ?_
    refine g_get hX dX10_tellsEaster_17 (by first | assumption | exact hM.2.1) rfl ?_
    refine z_if_le hX dX10_tellsEaster_20 (by constructor <;> omega) (fun c20 => absurd c20 (by omega)) (fun c20 => ?_)
    
    refine g_const hX dX10_tellsEaster_23 ?_
    refine g_goto hX dX10_tellsEaster_24 ?_
    refine g_iret hX hR dX10_tellsEaster_31 rfl rfl (by decide) (by decide) ?_
    exact MV hK (c := 1) (if_pos c5) hM hV
  · refine g_const hX dX10_tellsEaster_8 ?_
    refine g_goto hX dX10_tellsEaster_9 ?_
    refine o_put hX dX10_tellsEaster_13 hM.2.1 (by simp [MFL]) rfl rfl (fun M1 hs1 hn1 => ?_)
    have hM := hM.th hs1 hn1
    
    refine g_aload hX dX10_tellsEaster_16 rfl rfl ?_
    refine g_get hX dX10_tellsEaster_17 (by first | assumption | exact hM.2.1) rfl ?_
    refine z_if_le hX dX10_tellsEaster_20 (by constructor <;> omega) (fun c20 => ?_) (fun c20 => absurd c20 (by omega))
    
    refine g_iload hX dX10_tellsEaster_27 rfl ?_
    refine g_cS1 (c2 := 0) (s2 := 0) hX (s_X10_easterOf hst) dX10_tellsEaster_28 (by first | exact Nat.le_of_ble_eq_true rfl | simp [cat_rf, Value.category]) ⟨rfl, rfl, by decide, by decide⟩ ?_
    refine ⟨_, rfl, by omega, Kc_i ?_⟩
    refine g_iret hX hR dX10_tellsEaster_31 rfl rfl (by decide) (by decide) ?_
    exact MV hK (c := 0) (if_neg (fun q => q c5)) hM hV

def sp_X10_easter : hS := fun as M sz K => ∃ (b r : Nat) (σ : SG) (th : Int) (P Q : Nat → Int) (y : Int), as = [.ref r, .int (iZ y)] ∧ MX b r σ th P Q M ∧ SV σ ∧ inR y ∧ MO b r (oc_easter σ y) K
theorem s_X10_easter {l : Launch} {g : hG} (hst : l.stackTraces = false) : Ctr l g mX10_easter sp_X10_easter := by
  refine Ctr.mk9 hst (by decide) ?_ ?_
  · rintro as M sz K ⟨b, r, σ, th, P, Q, y, rfl, hM, hV, ry, hK⟩
    exact ⟨by simp [mX10_easter], cat_ok rfl⟩
  rintro X as M sz K hX rfl rfl hR ⟨b, r, σ, th, P, Q, y, rfl, hM, hV, ry, hK⟩
  show G X 0 [.ref r, .int (iZ y)] [] M sz 0 0
  obtain ⟨n0, n1, n2, n3, ⟨e0, hn0⟩, ⟨e1, hn1⟩, ⟨e2, hn2⟩, ⟨e3, hn3⟩⟩ := hV.nat
  refine g_aload hX dX10_easter_0 rfl rfl ?_
  refine g_iload hX dX10_easter_1 rfl ?_
  refine g_cV1 (c2 := 0) (s2 := 0) hX (s_X10_tellsEaster hst) dX10_easter_2 (by first | assumption | exact hM.2.1) (by first | exact Nat.le_of_ble_eq_true rfl | simp [cat_rf, Value.category]) ⟨rfl, rfl, by decide, by decide⟩ ?_
  refine ⟨_, _, _, _, _, _, _, rfl, hM, hV, ry, fun P9 Q9 M9 s9 hM9 hV9 => Kc_i ?_⟩
  refine g_iret hX hR dX10_easter_5 rfl rfl (by decide) (by decide) ?_
  exact hK P9 Q9 M9 s9 hM9 hV9

def sp_X10_easterAnew : hS := fun as M sz K => ∃ (b r : Nat) (σ : SG) (th : Int) (P Q : Nat → Int) (y : Int), as = [.ref r, .int (iZ y)] ∧ MX b r σ th P Q M ∧ SV σ ∧ inR y ∧ MO b r (oc_easter σ y) K
theorem s_X10_easterAnew {l : Launch} {g : hG} (hst : l.stackTraces = false) : Ctr l g mX10_easterAnew sp_X10_easterAnew := by
  refine Ctr.mk9 hst (by decide) ?_ ?_
  · rintro as M sz K ⟨b, r, σ, th, P, Q, y, rfl, hM, hV, ry, hK⟩
    exact ⟨by simp [mX10_easterAnew], cat_ok rfl⟩
  rintro X as M sz K hX rfl rfl hR ⟨b, r, σ, th, P, Q, y, rfl, hM, hV, ry, hK⟩
  show G X 0 [.ref r, .int (iZ y)] [] M sz 0 0
  obtain ⟨n0, n1, n2, n3, ⟨e0, hn0⟩, ⟨e1, hn1⟩, ⟨e2, hn2⟩, ⟨e3, hn3⟩⟩ := hV.nat
  refine g_aload hX dX10_easterAnew_0 rfl rfl ?_
  refine g_iload hX dX10_easterAnew_1 rfl ?_
  refine g_cV1 (c2 := 0) (s2 := 0) hX (s_X10_tellsEaster hst) dX10_easterAnew_2 (by first | assumption | exact hM.2.1) (by first | exact Nat.le_of_ble_eq_true rfl | simp [cat_rf, Value.category]) ⟨rfl, rfl, by decide, by decide⟩ ?_
  refine ⟨_, _, _, _, _, _, _, rfl, hM, hV, ry, fun P9 Q9 M9 s9 hM9 hV9 => Kc_i ?_⟩
  refine g_iret hX hR dX10_easterAnew_5 rfl rfl (by decide) (by decide) ?_
  exact hK P9 Q9 M9 s9 hM9 hV9

def sp_X10_weekday : hS := fun as M sz K => ∃ (b r : Nat) (σ : SG) (th : Int) (P Q : Nat → Int) (y m d : Int), as = [.ref r, .int (iZ y), .int (iZ m), .int (iZ d)] ∧ MX b r σ th P Q M ∧ SV σ ∧ inR y ∧ inR m ∧ inR d ∧ MO b r (oc_weekday σ y m d) K
theorem s_X10_weekday {l : Launch} {g : hG} (hst : l.stackTraces = false) : Ctr l g mX10_weekday sp_X10_weekday := by
  refine Ctr.mk9 hst (by decide) ?_ ?_
  · rintro as M sz K ⟨b, r, σ, th, P, Q, y, m, d, rfl, hM, hV, ry, rm, rd, hK⟩
    exact ⟨by simp [mX10_weekday], cat_ok rfl⟩
  rintro X as M sz K hX rfl rfl hR ⟨b, r, σ, th, P, Q, y, m, d, rfl, hM, hV, ry, rm, rd, hK⟩
  show G X 0 [.ref r, .int (iZ y), .int (iZ m), .int (iZ d)] [] M sz 0 0
  obtain ⟨n0, n1, n2, n3, ⟨e0, hn0⟩, ⟨e1, hn1⟩, ⟨e2, hn2⟩, ⟨e3, hn3⟩⟩ := hV.nat
  refine g_aload hX dX10_weekday_0 rfl rfl ?_
  refine g_iload hX dX10_weekday_1 rfl ?_
  refine g_iload hX dX10_weekday_2 rfl ?_
  refine g_iload hX dX10_weekday_3 rfl ?_
  refine g_cS3 (c2 := 0) (s2 := 0) hX (s_X10_isDay hst) dX10_weekday_4 (by first | exact Nat.le_of_ble_eq_true rfl | simp [cat_rf, Value.category]) ⟨rfl, rfl, by decide, by decide⟩ ?_
  refine ⟨_, _, _, rfl, (by first | assumption | (constructor <;> omega)), (by first | assumption | (constructor <;> omega)), (by first | assumption | (constructor <;> omega)), Kc_i ?_⟩
  refine z_ifb_eq hX dX10_weekday_7 (fun c7 => ?_) (fun c7 => ?_)
  · refine g_const hX dX10_weekday_14 ?_
    refine o_put hX dX10_weekday_15 hM.2.1 (by simp [MFL]) rfl rfl (fun M1 hs1 hn1 => ?_)
    have hM := hM.th hs1 hn1
    
    refine g_aload hX dX10_weekday_18 rfl rfl ?_
    refine g_get hX dX10_weekday_19 (by first | assumption | exact hM.2.1) rfl ?_
    refine z_if_le hX dX10_weekday_22 (by constructor <;> omega) (fun c22 => absurd c22 (by omega)) (fun c22 => ?_)
    
    refine g_const hX dX10_weekday_25 ?_
    refine g_goto hX dX10_weekday_26 ?_
    refine g_iret hX hR dX10_weekday_39 rfl rfl (by decide) (by decide) ?_
    exact MV hK (c := 1) (if_pos c7) hM hV
  · refine g_const hX dX10_weekday_10 ?_
    refine g_goto hX dX10_weekday_11 ?_
    refine o_put hX dX10_weekday_15 hM.2.1 (by simp [MFL]) rfl rfl (fun M1 hs1 hn1 => ?_)
    have hM := hM.th hs1 hn1
    
    refine g_aload hX dX10_weekday_18 rfl rfl ?_
    refine g_get hX dX10_weekday_19 (by first | assumption | exact hM.2.1) rfl ?_
    refine z_if_le hX dX10_weekday_22 (by constructor <;> omega) (fun c22 => ?_) (fun c22 => absurd c22 (by omega))
    
    refine g_iload hX dX10_weekday_29 rfl ?_
    refine g_iload hX dX10_weekday_30 rfl ?_
    refine g_iload hX dX10_weekday_31 rfl ?_
    refine g_iload hX dX10_weekday_32 rfl ?_
    refine g_cS3 (c2 := 0) (s2 := 0) hX (s_X10_placeOf hst) dX10_weekday_33 (by first | exact Nat.le_of_ble_eq_true rfl | simp [cat_rf, Value.category]) ⟨rfl, rfl, by decide, by decide⟩ ?_
    obtain ⟨qy, qm, qd1, qd2⟩ := id c7
    have hml := mlen_r y m
    have hcd := cal_d (y := y) qm ⟨qd1, qd2⟩
    have hyl := ylen_r y
    refine ⟨_, _, _, rfl, by omega, by omega, by omega, Kc_i ?_⟩
    refine g_cS2 (c2 := 0) (s2 := 0) hX (s_X10_weekdayOf hst) dX10_weekday_36 (by first | exact Nat.le_of_ble_eq_true rfl | simp [cat_rf, Value.category]) ⟨rfl, rfl, by decide, by decide⟩ ?_
    refine ⟨_, _, rfl, by omega, by omega, Kc_i ?_⟩
    refine g_iret hX hR dX10_weekday_39 rfl rfl (by decide) (by decide) ?_
    exact MV hK (c := 0) (if_neg (fun q => q c7)) hM hV

def sp_X10_times : hS := fun as M sz K => ∃ (b r : Nat) (σ : SG) (th : Int) (P Q : Nat → Int) (t : Nat), as = [.ref r, .int (iZ (t : Int))] ∧ MX b r σ th P Q M ∧ SV σ ∧ (t : Int) < σ 0 0 0 ∧ K (.inl (some (.int (iZ (timZ σ t))))) M sz
theorem s_X10_times {l : Launch} {g : hG} (hst : l.stackTraces = false) : Ctr l g mX10_times sp_X10_times := by
  refine Ctr.mk9 hst (by decide) ?_ ?_
  · rintro as M sz K ⟨b, r, σ, th, P, Q, t, rfl, hM, hV, ht, hK⟩
    exact ⟨by simp [mX10_times], cat_ok rfl⟩
  rintro X as M sz K hX rfl rfl hR ⟨b, r, σ, th, P, Q, t, rfl, hM, hV, ht, hK⟩
  show G X 0 [.ref r, .int (iZ (t : Int)), U9, U9] [] M sz 0 0
  obtain ⟨n0, n1, n2, n3, ⟨e0, hn0⟩, ⟨e1, hn1⟩, ⟨e2, hn2⟩, ⟨e3, hn3⟩⟩ := hV.nat
  have ha21 : M (b + 21) = some (.inr (0, 60, .inl (fun i => iZ (σ 40 i 0)))) := hM.2.2 21 (by decide)
  have loop : ∀ (k9 i : Nat), (i : Int) + k9 = σ 3 0 0 → G X 4 [.ref r, .int (iZ (t : Int)), .int (iZ (timK σ t i)), .int (iZ (i : Int))] [] M sz 0 0 := by
    intro k9
    induction k9 with
    | zero =>
      intro i hk
      refine g_iload hX dX10_times_4 rfl ?_
      refine g_aload hX dX10_times_5 rfl rfl ?_
      refine g_get hX dX10_times_6 (by first | assumption | exact hM.2.1) rfl ?_
      refine z_icmp_ge hX dX10_times_9 (by first | assumption | (constructor <;> omega)) (by first | assumption | (constructor <;> omega)) (fun c9 => ?_) (fun c9 => ?_)
      · refine g_iload hX dX10_times_36 rfl ?_
        refine g_iret hX hR dX10_times_37 rfl rfl (by decide) (by decide) ?_
        exact kint hK (by unfold timZ; congr 1; omega)
      · exfalso; omega
    | succ k9 ih =>
      intro i hk
      have htk := timK_r σ t i
      have hsi := hV.s i (by omega)
      refine g_iload hX dX10_times_4 rfl ?_
      refine g_aload hX dX10_times_5 rfl rfl ?_
      refine g_get hX dX10_times_6 (by first | assumption | exact hM.2.1) rfl ?_
      refine z_icmp_ge hX dX10_times_9 (by first | assumption | (constructor <;> omega)) (by first | assumption | (constructor <;> omega)) (fun c9 => ?_) (fun c9 => ?_)
      · exfalso; omega
      · refine g_iload hX dX10_times_12 rfl ?_
        refine g_aload hX dX10_times_13 rfl rfl ?_
        refine g_get hX dX10_times_14 (by first | assumption | exact hM.2.1) rfl ?_
        refine g_iload hX dX10_times_17 rfl ?_
        refine z_iald hX dX10_times_18 (by first | assumption | exact hM.2.1) (by omega) (by omega) (by decide) rfl ?_
        try simp only [Int.toNat_natCast]
        refine g_iload hX dX10_times_19 rfl ?_
        refine z_icmp_ne hX dX10_times_20 (by first | assumption | (constructor <;> omega)) (by first | assumption | (constructor <;> omega)) (fun c20 => ?_) (fun c20 => ?_)
        · refine g_const hX dX10_times_27 ?_
          refine z_iadd hX dX10_times_28 ?_
          refine g_istore hX dX10_times_29 ?_
          dsimp only [List.set]
          refine z_iinc hX dX10_times_30 rfl ?_
          dsimp only [List.set]
          refine g_goto hX dX10_times_33 ?_
          have h9 := ih (i + 1) (by omega)
          rw [show timK σ t (i + 1) = timK σ t i + 0 from congrArg (timK σ t i + ·) (bZ_f c20)] at h9
          exact h9
        · refine g_const hX dX10_times_23 ?_
          refine g_goto hX dX10_times_24 ?_
          refine z_iadd hX dX10_times_28 ?_
          refine g_istore hX dX10_times_29 ?_
          dsimp only [List.set]
          refine z_iinc hX dX10_times_30 rfl ?_
          dsimp only [List.set]
          refine g_goto hX dX10_times_33 ?_
          have h9 := ih (i + 1) (by omega)
          rw [show timK σ t (i + 1) = timK σ t i + 1 from congrArg (timK σ t i + ·) (bZ_t c20)] at h9
          exact h9
  refine g_const hX dX10_times_0 ?_
  refine g_istore hX dX10_times_1 ?_
  dsimp only [List.set]
  refine g_const hX dX10_times_2 ?_
  refine g_istore hX dX10_times_3 ?_
  dsimp only [List.set]
  exact loop (σ 3 0 0).toNat 0 (by omega)

def sp_X10_sung : hS := fun as M sz K => ∃ (b r : Nat) (σ : SG) (th : Int) (P Q : Nat → Int) (x : Int), as = [.ref r, .int (iZ x)] ∧ MX b r σ th P Q M ∧ SV σ ∧ inR x ∧ MO b r (oc_sung σ x) K
theorem s_X10_sung {l : Launch} {g : hG} (hst : l.stackTraces = false) : Ctr l g mX10_sung sp_X10_sung := by
  refine Ctr.mk9 hst (by decide) ?_ ?_
  · rintro as M sz K ⟨b, r, σ, th, P, Q, x, rfl, hM, hV, rx, hK⟩
    exact ⟨by simp [mX10_sung], cat_ok rfl⟩
  rintro X as M sz K hX rfl rfl hR ⟨b, r, σ, th, P, Q, x, rfl, hM, hV, rx, hK⟩
  show G X 0 [.ref r, .int (iZ x)] [] M sz 0 0
  obtain ⟨n0, n1, n2, n3, ⟨e0, hn0⟩, ⟨e1, hn1⟩, ⟨e2, hn2⟩, ⟨e3, hn3⟩⟩ := hV.nat
  refine g_aload hX dX10_sung_0 rfl rfl ?_
  refine g_aload hX dX10_sung_1 rfl rfl ?_
  refine g_iload hX dX10_sung_2 rfl ?_
  refine g_cV1 (c2 := 0) (s2 := 0) hX (s_X10_isText hst) dX10_sung_3 (by first | assumption | exact hM.2.1) (by first | exact Nat.le_of_ble_eq_true rfl | simp [cat_rf, Value.category]) ⟨rfl, rfl, by decide, by decide⟩ ?_
  refine ⟨_, _, _, _, _, _, _, rfl, hM, hV, (by first | assumption | (constructor <;> omega)), Kc_i ?_⟩
  refine z_ifb_eq hX dX10_sung_6 (fun c6 => ?_) (fun c6 => ?_)
  · refine g_const hX dX10_sung_13 ?_
    refine o_put hX dX10_sung_14 hM.2.1 (by simp [MFL]) rfl rfl (fun M1 hs1 hn1 => ?_)
    have hM := hM.th hs1 hn1
    
    refine g_aload hX dX10_sung_17 rfl rfl ?_
    refine g_get hX dX10_sung_18 (by first | assumption | exact hM.2.1) rfl ?_
    refine z_if_le hX dX10_sung_21 (by constructor <;> omega) (fun c21 => absurd c21 (by omega)) (fun c21 => ?_)
    
    refine g_const hX dX10_sung_24 ?_
    refine g_goto hX dX10_sung_25 ?_
    refine g_iret hX hR dX10_sung_33 rfl rfl (by decide) (by decide) ?_
    exact MV hK (c := 1) (if_pos c6) hM hV
  · refine g_const hX dX10_sung_9 ?_
    refine g_goto hX dX10_sung_10 ?_
    refine o_put hX dX10_sung_14 hM.2.1 (by simp [MFL]) rfl rfl (fun M1 hs1 hn1 => ?_)
    have hM := hM.th hs1 hn1
    
    refine g_aload hX dX10_sung_17 rfl rfl ?_
    refine g_get hX dX10_sung_18 (by first | assumption | exact hM.2.1) rfl ?_
    refine z_if_le hX dX10_sung_21 (by constructor <;> omega) (fun c21 => ?_) (fun c21 => absurd c21 (by omega))
    
    refine g_aload hX dX10_sung_28 rfl rfl ?_
    refine g_iload hX dX10_sung_29 rfl ?_
    refine g_cV1 (c2 := 0) (s2 := 0) hX (s_X10_times hst) dX10_sung_30 (by first | assumption | exact hM.2.1) (by first | exact Nat.le_of_ble_eq_true rfl | simp [cat_rf, Value.category]) ⟨rfl, rfl, by decide, by decide⟩ ?_
    obtain ⟨t, rfl⟩ : ∃ t : Nat, x = (t : Int) := ⟨x.toNat, by omega⟩
    refine ⟨_, _, _, _, _, _, t, rfl, hM, hV, by omega, Kc_i ?_⟩
    refine g_iret hX hR dX10_sung_33 rfl rfl (by decide) (by decide) ?_
    exact MV hK (c := 0) ((if_neg (fun q => q c6)).trans (by rw [Int.toNat_natCast])) hM hV
