/-! the reference: reasons, the hymn, services -/
abbrev latK (σ : SG) (t : Nat) (d : Int) (k : Nat) : Prop := ¬ ∀ i : Nat, i < k → ¬ latP σ t d i
theorem latK_s {σ : SG} {t k : Nat} {d : Int} : latK σ t d (k + 1) ↔ (latK σ t d k ∨ latP σ t d k) := by
  by_cases q : latP σ t d k
  · exact ⟨fun _ => Or.inr q, fun _ h => h k (by omega) q⟩
  · constructor
    · intro h
      refine Or.inl (fun h2 => h (fun i hi => ?_))
      by_cases e : i = k
      · rw [e]; exact q
      · exact h2 i (by omega)
    · rintro (h | h)
      · exact fun h2 => h (fun i hi => h2 i (by omega))
      · exact absurd h q
theorem dn_s (y : Int) : dnumZ (y + 1) 0 = dnumZ y 0 + ylenZ y := by
  unfold dnumZ ylenZ
  split <;> omega
theorem dn_m (y : Int) : ∀ n : Nat, dnumZ y 0 + ylenZ y ≤ dnumZ (y + 1 + (n : Int)) 0
  | 0 => by rw [show y + 1 + ((0 : Nat) : Int) = y + 1 from Int.add_zero _, dn_s]; omega
  | n + 1 => by
    have h1 := dn_m y n
    have h2 := dn_s (y + 1 + (n : Int))
    have h3 := ylen_r (y + 1 + (n : Int))
    rw [show y + 1 + ((n + 1 : Nat) : Int) = y + 1 + (n : Int) + 1 by omega]
    omega
theorem dn_lt {y p y' p' : Int} (hp : 0 ≤ p ∧ p < ylenZ y) (hp' : 0 ≤ p' ∧ p' < ylenZ y') : dnumZ y' p' < dnumZ y p ↔ (y' < y ∨ (y = y' ∧ p' < p)) := by
  have e1 : dnumZ y p = dnumZ y 0 + p := by unfold dnumZ; omega
  have e2 : dnumZ y' p' = dnumZ y' 0 + p' := by unfold dnumZ; omega
  rcases (show y' < y ∨ y = y' ∨ y < y' by omega) with h | h | h
  · have h1 := dn_m y' (y - y' - 1).toNat
    rw [show y' + 1 + (((y - y' - 1).toNat : Nat) : Int) = y by omega] at h1
    omega
  · subst h
    omega
  · have h1 := dn_m y (y' - y - 1).toNat
    rw [show y + 1 + (((y' - y - 1).toNat : Nat) : Int) = y' by omega] at h1
    omega

def sp_X10_wasLately : hS := fun as M sz K => ∃ (b r : Nat) (σ : SG) (th : Int) (P Q : Nat → Int) (t : Nat) (y p : Int), as = [.ref r, .int (iZ (t : Int)), .int (iZ y), .int (iZ p)] ∧ MX b r σ th P Q M ∧ SV σ ∧ (t : Int) < σ 0 0 0 ∧ (1600 ≤ y ∧ y ≤ 2399) ∧ (0 ≤ p ∧ p ≤ 366) ∧ K (.inl (some (.int (iZ (bZ (latZ σ t (dnumZ y p))))))) M sz
theorem s_X10_wasLately {l : Launch} {g : hG} (hst : l.stackTraces = false) : Ctr l g mX10_wasLately sp_X10_wasLately := by
  refine Ctr.mk9 hst (by decide) ?_ ?_
  · rintro as M sz K ⟨b, r, σ, th, P, Q, t, y, p, rfl, hM, hV, ht, hy, hp, hK⟩
    exact ⟨by simp [mX10_wasLately], cat_ok rfl⟩
  rintro X as M sz K hX rfl rfl hR ⟨b, r, σ, th, P, Q, t, y, p, rfl, hM, hV, ht, hy, hp, hK⟩
  show G X 0 [.ref r, .int (iZ (t : Int)), .int (iZ y), .int (iZ p), U9, U9, U9] [] M sz 0 0
  obtain ⟨n0, n1, n2, n3, ⟨e0, hn0⟩, ⟨e1, hn1⟩, ⟨e2, hn2⟩, ⟨e3, hn3⟩⟩ := hV.nat
  have ha23 : M (b + 23) = some (.inr (0, 60, .inl (fun i => iZ (σ 42 i 0)))) := hM.2.2 23 (by decide)
  have ha24 : M (b + 24) = some (.inr (0, 60, .inl (fun i => iZ (σ 43 i 0)))) := hM.2.2 24 (by decide)
  have ha21 : M (b + 21) = some (.inr (0, 60, .inl (fun i => iZ (σ 40 i 0)))) := hM.2.2 21 (by decide)
  have hdr0 := dnum_r (y := y) (p := p) (by omega) (by omega)
  have loop : ∀ (k9 k : Nat) (v6 : Value), (k : Int) + k9 = σ 3 0 0 → G X 6 [.ref r, .int (iZ (t : Int)), .int (iZ y), .int (iZ p), .int (iZ (bZ (latK σ t (dnumZ y p) k))), .int (iZ (k : Int)), v6] [] M sz 0 0 := by
    intro k9
    induction k9 with
    | zero =>
      intro k v6 hk
      refine g_iload hX dX10_wasLately_6 rfl ?_
      refine g_aload hX dX10_wasLately_8 rfl rfl ?_
      refine g_get hX dX10_wasLately_9 (by first | assumption | exact hM.2.1) rfl ?_
      refine z_icmp_ge hX dX10_wasLately_12 (by first | assumption | (constructor <;> omega)) (by first | assumption | (constructor <;> omega)) (fun c12 => ?_) (fun c12 => ?_)
      · refine g_iload hX dX10_wasLately_80 rfl ?_
        refine g_iret hX hR dX10_wasLately_82 rfl (by first | rfl | exact nar_b _ | exact nar_01 (by omega)) (by decide) (by decide) ?_
        obtain rfl : k = (σ 3 0 0).toNat := by omega
        exact hK
      · exfalso; omega
    | succ k9 ih =>
      intro k v6 hk
      have hsi := hV.s k (by omega)
      have hyl9 := ylen_r (σ 42 k 0)
      have hdr := dnum_r (y := σ 42 k 0) (p := σ 43 k 0) (by omega) (by omega)
      refine g_iload hX dX10_wasLately_6 rfl ?_
      refine g_aload hX dX10_wasLately_8 rfl rfl ?_
      refine g_get hX dX10_wasLately_9 (by first | assumption | exact hM.2.1) rfl ?_
      refine z_icmp_ge hX dX10_wasLately_12 (by first | assumption | (constructor <;> omega)) (by first | assumption | (constructor <;> omega)) (fun c12 => ?_) (fun c12 => ?_)
      · exfalso; omega
      · refine g_iload hX dX10_wasLately_15 rfl ?_
        refine g_cS1 (c2 := 0) (s2 := 0) hX (s_X10_before hst) dX10_wasLately_16 (by first | exact Nat.le_of_ble_eq_true rfl | simp [cat_rf, Value.category]) ⟨rfl, rfl, by decide, by decide⟩ ?_
        refine ⟨_, rfl, by omega, Kc_i ?_⟩
        have hb1 := bef_d (y := y) p
        refine g_iload hX dX10_wasLately_19 rfl ?_
        refine z_iadd hX dX10_wasLately_20 ?_
        refine g_aload hX dX10_wasLately_21 rfl rfl ?_
        refine g_get hX dX10_wasLately_22 (by first | assumption | exact hM.2.1) rfl ?_
        refine g_iload hX dX10_wasLately_25 rfl ?_
        refine z_iald hX dX10_wasLately_27 (by first | assumption | exact hM.2.1) (by omega) (by omega) (by decide) rfl ?_
        try simp only [Int.toNat_natCast]
        refine g_cS1 (c2 := 0) (s2 := 0) hX (s_X10_before hst) dX10_wasLately_28 (by first | exact Nat.le_of_ble_eq_true rfl | simp [cat_rf, Value.category]) ⟨rfl, rfl, by decide, by decide⟩ ?_
        refine ⟨_, rfl, by omega, Kc_i ?_⟩
        have hb2 := bef_d (y := σ 42 k 0) (σ 43 k 0)
        refine z_isub hX dX10_wasLately_31 ?_
        refine g_aload hX dX10_wasLately_32 rfl rfl ?_
        refine g_get hX dX10_wasLately_33 (by first | assumption | exact hM.2.1) rfl ?_
        refine g_iload hX dX10_wasLately_36 rfl ?_
        refine z_iald hX dX10_wasLately_38 (by first | assumption | exact hM.2.1) (by omega) (by omega) (by decide) rfl ?_
        try simp only [Int.toNat_natCast]
        refine z_isub hX dX10_wasLately_39 ?_
        refine g_istore hX dX10_wasLately_40 ?_
        dsimp only [List.set]
        refine g_iload hX dX10_wasLately_42 rfl ?_
        refine g_aload hX dX10_wasLately_44 rfl rfl ?_
        refine g_get hX dX10_wasLately_45 (by first | assumption | exact hM.2.1) rfl ?_
        refine g_iload hX dX10_wasLately_48 rfl ?_
        refine z_iald hX dX10_wasLately_50 (by first | assumption | exact hM.2.1) (by omega) (by omega) (by decide) rfl ?_
        try simp only [Int.toNat_natCast]
        refine g_iload hX dX10_wasLately_51 rfl ?_
        refine z_icmp_ne hX dX10_wasLately_52 (by first | assumption | (constructor <;> omega)) (by first | assumption | (constructor <;> omega)) (fun c52 => ?_) (fun c52 => ?_)
        · refine g_const hX dX10_wasLately_70 ?_
          refine g_eqL (lv' := _) (st' := [.int (iZ (bZ (latP σ t (dnumZ y p) k))), .int (iZ (bZ (latK σ t (dnumZ y p) k)))]) rfl (by rw [bZ_f (c := latP σ t (dnumZ y p) k) (fun h9 => c52 h9.1)]) ?_
          refine z_ibor hX dX10_wasLately_71 ?_
          refine g_istore hX dX10_wasLately_72 ?_
          dsimp only [List.set]
          refine z_iinc hX dX10_wasLately_74 rfl ?_
          dsimp only [List.set]
          refine g_goto hX dX10_wasLately_77 ?_
          have h9 := ih (k + 1) (.int (iZ (befZ y + p - befZ (σ 42 k 0) - σ 43 k 0))) (by omega)
          rw [bZ_iff latK_s] at h9
          exact h9
        · refine g_iload hX dX10_wasLately_55 rfl ?_
          refine g_const hX dX10_wasLately_57 ?_
          refine g_const hX dX10_wasLately_58 ?_
          refine g_cS3 (c2 := 0) (s2 := 0) hX (s_X10_isIn hst) dX10_wasLately_60 (by first | exact Nat.le_of_ble_eq_true rfl | simp [cat_rf, Value.category]) ⟨rfl, rfl, by decide, by decide⟩ ?_
          refine ⟨_, _, _, rfl, (by first | assumption | (constructor <;> omega)), (by first | assumption | (constructor <;> omega)), (by first | assumption | (constructor <;> omega)), Kc_i ?_⟩
          refine z_ifb_eq hX dX10_wasLately_63 (fun c63 => ?_) (fun c63 => ?_)
          · refine g_const hX dX10_wasLately_70 ?_
            refine g_eqL (lv' := _) (st' := [.int (iZ (bZ (latP σ t (dnumZ y p) k))), .int (iZ (bZ (latK σ t (dnumZ y p) k)))]) rfl (by rw [bZ_f (c := latP σ t (dnumZ y p) k) (fun h9 => c63 (by have h8 := h9.2; omega))]) ?_
            refine z_ibor hX dX10_wasLately_71 ?_
            refine g_istore hX dX10_wasLately_72 ?_
            dsimp only [List.set]
            refine z_iinc hX dX10_wasLately_74 rfl ?_
            dsimp only [List.set]
            refine g_goto hX dX10_wasLately_77 ?_
            have h9 := ih (k + 1) (.int (iZ (befZ y + p - befZ (σ 42 k 0) - σ 43 k 0))) (by omega)
            rw [bZ_iff latK_s] at h9
            exact h9
          · refine g_const hX dX10_wasLately_66 ?_
            refine g_goto hX dX10_wasLately_67 ?_
            refine g_eqL (lv' := _) (st' := [.int (iZ (bZ (latP σ t (dnumZ y p) k))), .int (iZ (bZ (latK σ t (dnumZ y p) k)))]) rfl (by rw [bZ_t (c := latP σ t (dnumZ y p) k) ⟨c52, by omega, by omega⟩]) ?_
            refine z_ibor hX dX10_wasLately_71 ?_
            refine g_istore hX dX10_wasLately_72 ?_
            dsimp only [List.set]
            refine z_iinc hX dX10_wasLately_74 rfl ?_
            dsimp only [List.set]
            refine g_goto hX dX10_wasLately_77 ?_
            have h9 := ih (k + 1) (.int (iZ (befZ y + p - befZ (σ 42 k 0) - σ 43 k 0))) (by omega)
            rw [bZ_iff latK_s] at h9
            exact h9
  refine g_const hX dX10_wasLately_0 ?_
  refine g_istore hX dX10_wasLately_1 ?_
  dsimp only [List.set]
  refine g_const hX dX10_wasLately_3 ?_
  refine g_istore hX dX10_wasLately_4 ?_
  dsimp only [List.set]
  have h9 := loop (σ 3 0 0).toNat 0 U9 (by omega)
  rw [show bZ (latK σ t (dnumZ y p) 0) = 0 from bZ_f (fun h8 => h8 (fun j hj => absurd hj (Nat.not_lt_zero j)))] at h9
  exact h9

def sp_X10_reason : hS := fun as M sz K => ∃ (b r : Nat) (σ : SG) (th0 : Int) (P Q : Nat → Int) (t th : Nat) (y p : Int), as = [.ref r, .int (iZ (t : Int)), .int (iZ y), .int (iZ p), .int (iZ (th : Int))] ∧ MX b r σ th0 P Q M ∧ SV σ ∧ (t : Int) < σ 0 0 0 ∧ th < 16 ∧ (1600 ≤ y ∧ y ≤ 2399) ∧ (0 ≤ p ∧ p ≤ 366) ∧ K (.inl (some (.int (iZ (reaZ σ t (th : Int) y (dnumZ y p)))))) M sz
theorem s_X10_reason {l : Launch} {g : hG} (hst : l.stackTraces = false) : Ctr l g mX10_reason sp_X10_reason := by
  refine Ctr.mk9 hst (by decide) ?_ ?_
  · rintro as M sz K ⟨b, r, σ, th0, P, Q, t, th, y, p, rfl, hM, hV, ht, hth, hy, hp, hK⟩
    exact ⟨by simp [mX10_reason], cat_ok rfl⟩
  rintro X as M sz K hX rfl rfl hR ⟨b, r, σ, th0, P, Q, t, th, y, p, rfl, hM, hV, ht, hth, hy, hp, hK⟩
  show G X 0 [.ref r, .int (iZ (t : Int)), .int (iZ y), .int (iZ p), .int (iZ (th : Int))] [] M sz 0 0
  obtain ⟨n0, n1, n2, n3, ⟨e0, hn0⟩, ⟨e1, hn1⟩, ⟨e2, hn2⟩, ⟨e3, hn3⟩⟩ := hV.nat
  have ha1 : M (b + 1) = some (.inr (0, 12, .inl (fun i => iZ (σ 11 i 0)))) := hM.2.2 1 (by decide)
  have ha2 : M (b + 2) = some (.inr (1, 12, .inl (fun i => iZ (σ 12 i 0)))) := hM.2.2 2 (by decide)
  have ha0 : M (b) = some (.inr (0, 12, .inl (fun i => iZ (σ 10 i 0)))) := hM.2.2 0 (by decide)
  have hT9 := hV.t t
  have hq1 : 0 ≤ σ 11 t 0 / 2 ^ th := Int.ediv_nonneg hT9.2.1.1 (Int.le_of_lt (Int.pow_pos (by decide)))
  have hq2 : σ 11 t 0 / 2 ^ th ≤ σ 11 t 0 := Int.ediv_le_self _ hT9.2.1.1
  refine g_aload hX dX10_reason_0 rfl rfl ?_
  refine g_get hX dX10_reason_1 (by first | assumption | exact hM.2.1) rfl ?_
  refine g_iload hX dX10_reason_4 rfl ?_
  refine z_iald hX dX10_reason_5 (by first | assumption | exact hM.2.1) (by omega) (by omega) (by decide) rfl ?_
  try simp only [Int.toNat_natCast]
  refine g_iload hX dX10_reason_6 rfl ?_
  refine g_ishr hX dX10_reason_8 ?_
  rw [z_shrk (by constructor <;> omega) (by omega) th (by omega)]
  refine g_const hX dX10_reason_9 ?_
  refine g_iand hX dX10_reason_10 ?_
  rw [z_and1 (by constructor <;> omega) (by omega)]
  refine z_if_ne hX dX10_reason_11 (by first | assumption | (constructor <;> omega)) (fun c11 => ?_) (fun c11 => ?_)
  · refine g_aload hX dX10_reason_16 rfl rfl ?_
    refine g_get hX dX10_reason_17 (by first | assumption | exact hM.2.1) rfl ?_
    refine g_iload hX dX10_reason_20 rfl ?_
    refine z_zald hX dX10_reason_21 (by first | assumption | exact hM.2.1) (by omega) (by omega) (by decide) rfl ?_
    try simp only [Int.toNat_natCast]
    refine z_if_ne hX dX10_reason_22 (by first | assumption | (constructor <;> omega)) (fun c22 => ?_) (fun c22 => ?_)
    · refine g_aload hX dX10_reason_40 rfl rfl ?_
      refine g_iload hX dX10_reason_41 rfl ?_
      refine g_const hX dX10_reason_42 ?_
      refine g_iload hX dX10_reason_43 rfl ?_
      refine g_cV3 (c2 := 0) (s2 := 0) hX (s_X10_bestOf hst) dX10_reason_44 (by first | assumption | exact hM.2.1) (by first | exact Nat.le_of_ble_eq_true rfl | simp [cat_rf, Value.category]) ⟨rfl, rfl, by decide, by decide⟩ ?_
      refine ⟨_, _, _, _, _, _, t, _, _, rfl, hM, hV, by omega, Or.inl rfl, by omega, Kc_i ?_⟩
      rw [show (1 : Int) - 0 = 1 from rfl]
      have hbs := bstZ_r hV t 1 y
      have hn1b := hV.n.2.1
      refine g_const hX dX10_reason_47 ?_
      refine z_icmp_ne hX dX10_reason_49 (by first | assumption | (constructor <;> omega)) (by first | assumption | (constructor <;> omega)) (fun c49 => ?_) (fun c49 => ?_)
      · refine g_aload hX dX10_reason_56 rfl rfl ?_
        refine g_iload hX dX10_reason_57 rfl ?_
        refine g_iload hX dX10_reason_58 rfl ?_
        refine g_iload hX dX10_reason_59 rfl ?_
        refine g_cV3 (c2 := 0) (s2 := 0) hX (s_X10_wasLately hst) dX10_reason_60 (by first | assumption | exact hM.2.1) (by first | exact Nat.le_of_ble_eq_true rfl | simp [cat_rf, Value.category]) ⟨rfl, rfl, by decide, by decide⟩ ?_
        refine ⟨_, _, _, _, _, _, t, _, _, rfl, hM, hV, by omega, hy, hp, Kc_i ?_⟩
        refine z_ifb_eq hX dX10_reason_63 (fun c63 => ?_) (fun c63 => ?_)
        · refine g_const hX dX10_reason_70 ?_
          refine g_iret hX hR dX10_reason_71 rfl rfl (by decide) (by decide) ?_
          exact kint hK (by unfold reaZ; rw [if_neg (fun h9 => h9 (show thmP (σ 11 t 0) (th : Int) by show σ 11 t 0 / 2 ^ ((th : Int)).toNat % 2 = 1; rw [Int.toNat_natCast]; omega)), if_neg (fun h9 => h9 (show freeT σ t y from Or.inl (by omega))), if_neg c49, if_neg c63])
        · refine g_const hX dX10_reason_66 ?_
          refine g_goto hX dX10_reason_67 ?_
          refine g_iret hX hR dX10_reason_71 rfl rfl (by decide) (by decide) ?_
          exact kint hK (by unfold reaZ; rw [if_neg (fun h9 => h9 (show thmP (σ 11 t 0) (th : Int) by show σ 11 t 0 / 2 ^ ((th : Int)).toNat % 2 = 1; rw [Int.toNat_natCast]; omega)), if_neg (fun h9 => h9 (show freeT σ t y from Or.inl (by omega))), if_neg c49, if_pos c63])
      · refine g_const hX dX10_reason_52 ?_
        refine g_goto hX dX10_reason_53 ?_
        refine g_iret hX hR dX10_reason_71 rfl rfl (by decide) (by decide) ?_
        exact kint hK (by unfold reaZ; rw [if_neg (fun h9 => h9 (show thmP (σ 11 t 0) (th : Int) by show σ 11 t 0 / 2 ^ ((th : Int)).toNat % 2 = 1; rw [Int.toNat_natCast]; omega)), if_neg (fun h9 => h9 (show freeT σ t y from Or.inl (by omega))), if_pos c49])
    · refine g_iload hX dX10_reason_25 rfl ?_
      refine g_aload hX dX10_reason_26 rfl rfl ?_
      refine g_get hX dX10_reason_27 (by first | assumption | exact hM.2.1) rfl ?_
      refine g_iload hX dX10_reason_30 rfl ?_
      refine z_iald hX dX10_reason_31 (by first | assumption | exact hM.2.1) (by omega) (by omega) (by decide) rfl ?_
      try simp only [Int.toNat_natCast]
      refine g_const hX dX10_reason_32 ?_
      refine z_iadd hX dX10_reason_34 ?_
      refine z_icmp_gt hX dX10_reason_35 (by first | assumption | (constructor <;> omega)) (by first | assumption | (constructor <;> omega)) (fun c35 => ?_) (fun c35 => ?_)
      · refine g_aload hX dX10_reason_40 rfl rfl ?_
        refine g_iload hX dX10_reason_41 rfl ?_
        refine g_const hX dX10_reason_42 ?_
        refine g_iload hX dX10_reason_43 rfl ?_
        refine g_cV3 (c2 := 0) (s2 := 0) hX (s_X10_bestOf hst) dX10_reason_44 (by first | assumption | exact hM.2.1) (by first | exact Nat.le_of_ble_eq_true rfl | simp [cat_rf, Value.category]) ⟨rfl, rfl, by decide, by decide⟩ ?_
        refine ⟨_, _, _, _, _, _, t, _, _, rfl, hM, hV, by omega, Or.inl rfl, by omega, Kc_i ?_⟩
        rw [show (1 : Int) - 0 = 1 from rfl]
        have hbs := bstZ_r hV t 1 y
        have hn1b := hV.n.2.1
        refine g_const hX dX10_reason_47 ?_
        refine z_icmp_ne hX dX10_reason_49 (by first | assumption | (constructor <;> omega)) (by first | assumption | (constructor <;> omega)) (fun c49 => ?_) (fun c49 => ?_)
        · refine g_aload hX dX10_reason_56 rfl rfl ?_
          refine g_iload hX dX10_reason_57 rfl ?_
          refine g_iload hX dX10_reason_58 rfl ?_
          refine g_iload hX dX10_reason_59 rfl ?_
          refine g_cV3 (c2 := 0) (s2 := 0) hX (s_X10_wasLately hst) dX10_reason_60 (by first | assumption | exact hM.2.1) (by first | exact Nat.le_of_ble_eq_true rfl | simp [cat_rf, Value.category]) ⟨rfl, rfl, by decide, by decide⟩ ?_
          refine ⟨_, _, _, _, _, _, t, _, _, rfl, hM, hV, by omega, hy, hp, Kc_i ?_⟩
          refine z_ifb_eq hX dX10_reason_63 (fun c63 => ?_) (fun c63 => ?_)
          · refine g_const hX dX10_reason_70 ?_
            refine g_iret hX hR dX10_reason_71 rfl rfl (by decide) (by decide) ?_
            exact kint hK (by unfold reaZ; rw [if_neg (fun h9 => h9 (show thmP (σ 11 t 0) (th : Int) by show σ 11 t 0 / 2 ^ ((th : Int)).toNat % 2 = 1; rw [Int.toNat_natCast]; omega)), if_neg (fun h9 => h9 (show freeT σ t y from Or.inr (by omega))), if_neg c49, if_neg c63])
          · refine g_const hX dX10_reason_66 ?_
            refine g_goto hX dX10_reason_67 ?_
            refine g_iret hX hR dX10_reason_71 rfl rfl (by decide) (by decide) ?_
            exact kint hK (by unfold reaZ; rw [if_neg (fun h9 => h9 (show thmP (σ 11 t 0) (th : Int) by show σ 11 t 0 / 2 ^ ((th : Int)).toNat % 2 = 1; rw [Int.toNat_natCast]; omega)), if_neg (fun h9 => h9 (show freeT σ t y from Or.inr (by omega))), if_neg c49, if_pos c63])
        · refine g_const hX dX10_reason_52 ?_
          refine g_goto hX dX10_reason_53 ?_
          refine g_iret hX hR dX10_reason_71 rfl rfl (by decide) (by decide) ?_
          exact kint hK (by unfold reaZ; rw [if_neg (fun h9 => h9 (show thmP (σ 11 t 0) (th : Int) by show σ 11 t 0 / 2 ^ ((th : Int)).toNat % 2 = 1; rw [Int.toNat_natCast]; omega)), if_neg (fun h9 => h9 (show freeT σ t y from Or.inr (by omega))), if_pos c49])
      · refine g_const hX dX10_reason_38 ?_
        refine g_iret hX hR dX10_reason_39 rfl rfl (by decide) (by decide) ?_
        exact kint hK (by unfold reaZ; rw [if_neg (fun h9 => h9 (show thmP (σ 11 t 0) (th : Int) by show σ 11 t 0 / 2 ^ ((th : Int)).toNat % 2 = 1; rw [Int.toNat_natCast]; omega)), if_pos (fun h9 => h9.elim (fun q => by omega) (fun q => by omega))])
  · refine g_const hX dX10_reason_14 ?_
    refine g_iret hX hR dX10_reason_15 rfl rfl (by decide) (by decide) ?_
    exact kint hK (by unfold reaZ; rw [if_pos (fun h9 => by have h8 : σ 11 t 0 / 2 ^ ((th : Int)).toNat % 2 = 1 := h9; rw [Int.toNat_natCast] at h8; omega)])

def sp_X10_why : hS := fun as M sz K => ∃ (b r : Nat) (σ : SG) (th : Int) (P Q : Nat → Int) (x y m d : Int), as = [.ref r, .int (iZ x), .int (iZ y), .int (iZ m), .int (iZ d)] ∧ MX b r σ th P Q M ∧ SV σ ∧ inR x ∧ inR y ∧ inR m ∧ inR d ∧ MO b r (oc_why σ x y m d) K
theorem s_X10_why {l : Launch} {g : hG} (hst : l.stackTraces = false) : Ctr l g mX10_why sp_X10_why := by
  refine Ctr.mk9 hst (by decide) ?_ ?_
  · rintro as M sz K ⟨b, r, σ, th, P, Q, x, y, m, d, rfl, hM, hV, rx, ry, rm, rd, hK⟩
    exact ⟨by simp [mX10_why], cat_ok rfl⟩
  rintro X as M sz K hX rfl rfl hR ⟨b, r, σ, th, P, Q, x, y, m, d, rfl, hM, hV, rx, ry, rm, rd, hK⟩
  show G X 0 [.ref r, .int (iZ x), .int (iZ y), .int (iZ m), .int (iZ d), U9, U9] [] M sz 0 0
  obtain ⟨n0, n1, n2, n3, ⟨e0, hn0⟩, ⟨e1, hn1⟩, ⟨e2, hn2⟩, ⟨e3, hn3⟩⟩ := hV.nat
  refine g_aload hX dX10_why_0 rfl rfl ?_
  refine g_aload hX dX10_why_1 rfl rfl ?_
  refine g_iload hX dX10_why_2 rfl ?_
  refine g_cV1 (c2 := 0) (s2 := 0) hX (s_X10_isText hst) dX10_why_3 (by first | assumption | exact hM.2.1) (by first | exact Nat.le_of_ble_eq_true rfl | simp [cat_rf, Value.category]) ⟨rfl, rfl, by decide, by decide⟩ ?_
  refine ⟨_, _, _, _, _, _, _, rfl, hM, hV, (by first | assumption | (constructor <;> omega)), Kc_i ?_⟩
  refine z_ifb_ne hX dX10_why_6 (fun c6 => ?_) (fun c6 => ?_)
  · refine g_iload hX dX10_why_13 rfl ?_
    refine g_iload hX dX10_why_14 rfl ?_
    refine g_iload hX dX10_why_15 rfl ?_
    refine g_cS3 (c2 := 0) (s2 := 0) hX (s_X10_isDay hst) dX10_why_17 (by first | exact Nat.le_of_ble_eq_true rfl | simp [cat_rf, Value.category]) ⟨rfl, rfl, by decide, by decide⟩ ?_
    refine ⟨_, _, _, rfl, (by first | assumption | (constructor <;> omega)), (by first | assumption | (constructor <;> omega)), (by first | assumption | (constructor <;> omega)), Kc_i ?_⟩
    refine z_ifb_ne hX dX10_why_20 (fun c20 => ?_) (fun c20 => ?_)
    · refine g_const hX dX10_why_27 ?_
      refine o_put hX dX10_why_28 hM.2.1 (by simp [MFL]) rfl rfl (fun M1 hs1 hn1 => ?_)
      have hM := hM.th hs1 hn1
      
      refine g_aload hX dX10_why_31 rfl rfl ?_
      refine g_get hX dX10_why_32 (by first | assumption | exact hM.2.1) rfl ?_
      refine z_if_le hX dX10_why_35 (by constructor <;> omega) (fun c35 => ?_) (fun c35 => absurd c35 (by omega))
      
      refine g_iload hX dX10_why_40 rfl ?_
      refine g_iload hX dX10_why_41 rfl ?_
      refine g_iload hX dX10_why_42 rfl ?_
      refine g_cS3 (c2 := 0) (s2 := 0) hX (s_X10_placeOf hst) dX10_why_44 (by first | exact Nat.le_of_ble_eq_true rfl | simp [cat_rf, Value.category]) ⟨rfl, rfl, by decide, by decide⟩ ?_
      obtain ⟨qy, qm, qd1, qd2⟩ := id c20
      have hml := mlen_r y m
      have hcd := cal_d (y := y) qm ⟨qd1, qd2⟩
      have hyl := ylen_r y
      refine ⟨_, _, _, rfl, by omega, by omega, by omega, Kc_i ?_⟩
      obtain ⟨p, hp9⟩ : ∃ p : Nat, placeZ y m d = (p : Int) := ⟨(placeZ y m d).toNat, by omega⟩
      rw [hp9]
      refine g_istore hX dX10_why_47 ?_
      dsimp only [List.set]
      refine g_aload hX dX10_why_49 rfl rfl ?_
      refine g_iload hX dX10_why_50 rfl ?_
      refine g_iload hX dX10_why_51 rfl ?_
      refine g_cV2 (c2 := 0) (s2 := 0) hX (s_X10_themeOn hst) dX10_why_53 (by first | assumption | exact hM.2.1) (by first | exact Nat.le_of_ble_eq_true rfl | simp [cat_rf, Value.category]) ⟨rfl, rfl, by decide, by decide⟩ ?_
      refine ⟨_, _, _, _, _, _, y, p, rfl, hM, hV, qy, by omega, fun P1 Q1 M9 hM => Kc_i ?_⟩
      have hthr := th_r hV y p
      refine g_istore hX dX10_why_56 ?_
      dsimp only [List.set]
      refine g_aload hX dX10_why_58 rfl rfl ?_
      refine g_iload hX dX10_why_59 rfl ?_
      refine g_const hX dX10_why_61 ?_
      refine z_icmp_ne hX dX10_why_63 (by first | assumption | (constructor <;> omega)) (by first | assumption | (constructor <;> omega)) (fun c63 => ?_) (fun c63 => ?_)
      · refine g_const hX dX10_why_70 ?_
        refine o_put hX dX10_why_71 hM.2.1 (by simp [MFL]) rfl rfl (fun M2 hs2 hn2 => ?_)
        have hM := hM.th hs2 hn2
        
        refine g_aload hX dX10_why_74 rfl rfl ?_
        refine g_get hX dX10_why_75 (by first | assumption | exact hM.2.1) rfl ?_
        refine z_if_le hX dX10_why_78 (by constructor <;> omega) (fun c78 => ?_) (fun c78 => absurd c78 (by omega))
        
        refine g_aload hX dX10_why_85 rfl rfl ?_
        refine g_iload hX dX10_why_86 rfl ?_
        refine g_iload hX dX10_why_87 rfl ?_
        refine g_iload hX dX10_why_88 rfl ?_
        refine g_iload hX dX10_why_90 rfl ?_
        refine g_cV4 (c2 := 0) (s2 := 0) hX (s_X10_reason hst) dX10_why_92 (by first | assumption | exact hM.2.1) (by first | exact Nat.le_of_ble_eq_true rfl | simp [cat_rf, Value.category]) ⟨rfl, rfl, by decide, by decide⟩ ?_
        obtain ⟨w9, hw9⟩ : ∃ w9 : Nat, thZ σ y p = (w9 : Int) := ⟨(thZ σ y p).toNat, by omega⟩
        rw [hw9]
        obtain ⟨t, rfl⟩ : ∃ t : Nat, x = (t : Int) := ⟨x.toNat, by omega⟩
        refine ⟨_, _, _, _, _, _, t, w9, y, _, rfl, hM, hV, by omega, by omega, qy, by omega, Kc_i ?_⟩
        refine g_iret hX hR dX10_why_95 rfl rfl (by decide) (by decide) ?_
        exact MV hK (c := 0) ((if_neg (fun q => q c6)).trans ((if_neg (fun q => q c20)).trans ((if_neg (by rw [hp9, Int.toNat_natCast]; exact c63)).trans (by rw [hp9, Int.toNat_natCast, Int.toNat_natCast, hw9])))) hM hV
      · refine g_const hX dX10_why_66 ?_
        refine g_goto hX dX10_why_67 ?_
        refine o_put hX dX10_why_71 hM.2.1 (by simp [MFL]) rfl rfl (fun M2 hs2 hn2 => ?_)
        have hM := hM.th hs2 hn2
        
        refine g_aload hX dX10_why_74 rfl rfl ?_
        refine g_get hX dX10_why_75 (by first | assumption | exact hM.2.1) rfl ?_
        refine z_if_le hX dX10_why_78 (by constructor <;> omega) (fun c78 => absurd c78 (by omega)) (fun c78 => ?_)
        
        refine g_const hX dX10_why_81 ?_
        refine g_goto hX dX10_why_82 ?_
        refine g_iret hX hR dX10_why_95 rfl rfl (by decide) (by decide) ?_
        exact MV hK (c := 3) ((if_neg (fun q => q c6)).trans ((if_neg (fun q => q c20)).trans (if_pos (by rw [hp9, Int.toNat_natCast]; exact c63)))) hM hV
    · refine g_const hX dX10_why_23 ?_
      refine g_goto hX dX10_why_24 ?_
      refine o_put hX dX10_why_28 hM.2.1 (by simp [MFL]) rfl rfl (fun M1 hs1 hn1 => ?_)
      have hM := hM.th hs1 hn1
      
      refine g_aload hX dX10_why_31 rfl rfl ?_
      refine g_get hX dX10_why_32 (by first | assumption | exact hM.2.1) rfl ?_
      refine z_if_le hX dX10_why_35 (by constructor <;> omega) (fun c35 => absurd c35 (by omega)) (fun c35 => ?_)
      
      refine g_const hX dX10_why_38 ?_
      refine g_iret hX hR dX10_why_39 rfl rfl (by decide) (by decide) ?_
      exact MV hK (c := 2) ((if_neg (fun q => q c6)).trans (if_pos c20)) hM hV
  · refine g_const hX dX10_why_9 ?_
    refine g_goto hX dX10_why_10 ?_
    refine o_put hX dX10_why_28 hM.2.1 (by simp [MFL]) rfl rfl (fun M1 hs1 hn1 => ?_)
    have hM := hM.th hs1 hn1
    
    refine g_aload hX dX10_why_31 rfl rfl ?_
    refine g_get hX dX10_why_32 (by first | assumption | exact hM.2.1) rfl ?_
    refine z_if_le hX dX10_why_35 (by constructor <;> omega) (fun c35 => absurd c35 (by omega)) (fun c35 => ?_)
    
    refine g_const hX dX10_why_38 ?_
    refine g_iret hX hR dX10_why_39 rfl rfl (by decide) (by decide) ?_
    exact MV hK (c := 1) (if_pos c6) hM hV

def sp_X10_hymn : hS := fun as M sz K => ∃ (b r : Nat) (σ : SG) (th0 : Int) (P Q : Nat → Int) (th : Nat) (y p : Int), as = [.ref r, .int (iZ y), .int (iZ p), .int (iZ (th : Int))] ∧ MX b r σ th0 P Q M ∧ SV σ ∧ th < 16 ∧ (1600 ≤ y ∧ y ≤ 2399) ∧ (0 ≤ p ∧ p ≤ 366) ∧ K (.inl (some (.int (iZ (hymZ σ (th : Int) y (dnumZ y p)))))) M sz
theorem s_X10_hymn {l : Launch} {g : hG} (hst : l.stackTraces = false) : Ctr l g mX10_hymn sp_X10_hymn := by
  refine Ctr.mk9 hst (by decide) ?_ ?_
  · rintro as M sz K ⟨b, r, σ, th0, P, Q, th, y, p, rfl, hM, hV, hth, hy, hp, hK⟩
    exact ⟨by simp [mX10_hymn], cat_ok rfl⟩
  rintro X as M sz K hX rfl rfl hR ⟨b, r, σ, th0, P, Q, th, y, p, rfl, hM, hV, hth, hy, hp, hK⟩
  show G X 0 [.ref r, .int (iZ y), .int (iZ p), .int (iZ (th : Int)), U9, U9, U9, U9, U9, U9] [] M sz 0 0
  obtain ⟨n0, n1, n2, n3, ⟨e0, hn0⟩, ⟨e1, hn1⟩, ⟨e2, hn2⟩, ⟨e3, hn3⟩⟩ := hV.nat
  have loop : ∀ (k9 k : Nat) (v8 v9 : Value), (k : Int) + k9 = σ 0 0 0 → G X 13 [.ref r, .int (iZ y), .int (iZ p), .int (iZ (th : Int)), .int (iZ (hymK σ th y (dnumZ y p) k)), .int (iZ (hmZ σ (hymK σ th y (dnumZ y p) k))), .int (iZ (hcZ σ y (hymK σ th y (dnumZ y p) k))), .int (iZ (k : Int)), v8, v9] [] M sz 0 0 := by
    intro k9
    induction k9 with
    | zero =>
      intro k v8 v9 hk
      rcases hym_r σ th y (dnumZ y p) k with hb | ⟨hb0, hb1, hb2⟩
      · rw [hb, show hmZ σ (-100) = 0 from if_pos rfl, show hcZ σ y (-100) = 0 from if_pos rfl]
        refine g_iload hX dX10_hymn_13 rfl ?_
        refine g_aload hX dX10_hymn_15 rfl rfl ?_
        refine g_get hX dX10_hymn_16 (by first | assumption | exact hM.2.1) rfl ?_
        refine z_icmp_ge hX dX10_hymn_19 (by first | assumption | (constructor <;> omega)) (by first | assumption | (constructor <;> omega)) (fun c19 => ?_) (fun c19 => ?_)
        · refine g_iload hX dX10_hymn_145 rfl ?_
          refine g_iret hX hR dX10_hymn_147 rfl rfl (by decide) (by decide) ?_
          exact kint hK (by unfold hymZ; rw [show (σ 0 0 0).toNat = k by omega]; exact hb)
        · exfalso; omega
      · obtain ⟨b9, hb⟩ : ∃ b9 : Nat, hymK σ th y (dnumZ y p) k = (b9 : Int) := ⟨(hymK σ th y (dnumZ y p) k).toNat, by omega⟩
        rw [hmZ_s hb, hcZ_s hb, hb]
        have hcl9 := cl_r hV b9 (bstZ σ b9 1 y).toNat
        have htm9 := tim_r hV b9
        refine g_iload hX dX10_hymn_13 rfl ?_
        refine g_aload hX dX10_hymn_15 rfl rfl ?_
        refine g_get hX dX10_hymn_16 (by first | assumption | exact hM.2.1) rfl ?_
        refine z_icmp_ge hX dX10_hymn_19 (by first | assumption | (constructor <;> omega)) (by first | assumption | (constructor <;> omega)) (fun c19 => ?_) (fun c19 => ?_)
        · refine g_iload hX dX10_hymn_145 rfl ?_
          refine g_iret hX hR dX10_hymn_147 rfl rfl (by decide) (by decide) ?_
          exact kint hK (by unfold hymZ; rw [show (σ 0 0 0).toNat = k by omega]; exact hb)
        · exfalso; omega
    | succ k9 ih =>
      intro k v8 v9 hk
      rcases hym_r σ th y (dnumZ y p) k with hb | ⟨hb0, hb1, hb2⟩
      · rw [hb, show hmZ σ (-100) = 0 from if_pos rfl, show hcZ σ y (-100) = 0 from if_pos rfl]
        refine g_iload hX dX10_hymn_13 rfl ?_
        refine g_aload hX dX10_hymn_15 rfl rfl ?_
        refine g_get hX dX10_hymn_16 (by first | assumption | exact hM.2.1) rfl ?_
        refine z_icmp_ge hX dX10_hymn_19 (by first | assumption | (constructor <;> omega)) (by first | assumption | (constructor <;> omega)) (fun c19 => ?_) (fun c19 => ?_)
        · exfalso; omega
        · refine g_aload hX dX10_hymn_22 rfl rfl ?_
          refine g_iload hX dX10_hymn_23 rfl ?_
          refine g_iload hX dX10_hymn_25 rfl ?_
          refine g_iload hX dX10_hymn_26 rfl ?_
          refine g_iload hX dX10_hymn_27 rfl ?_
          refine g_cV4 (c2 := 0) (s2 := 0) hX (s_X10_reason hst) dX10_hymn_28 (by first | assumption | exact hM.2.1) (by first | exact Nat.le_of_ble_eq_true rfl | simp [cat_rf, Value.category]) ⟨rfl, rfl, by decide, by decide⟩ ?_
          refine ⟨_, _, _, _, _, _, k, th, y, p, rfl, hM, hV, by omega, hth, hy, hp, Kc_i ?_⟩
          have hre := rea_r σ k (th : Int) y (dnumZ y p)
          refine z_if_ne hX dX10_hymn_31 (by first | assumption | (constructor <;> omega)) (fun c31 => ?_) (fun c31 => ?_)
          · refine z_iinc hX dX10_hymn_139 rfl ?_
            dsimp only [List.set]
            refine g_goto hX dX10_hymn_142 ?_
            have hb1 : hymK σ th y (dnumZ y p) (k + 1) = -100 := (hym_n (fun h9 => c31 h9.1)).trans hb
            have e2 : hmZ σ (hymK σ th y (dnumZ y p) (k + 1)) = 0 := if_pos hb1
            have e3 : hcZ σ y (hymK σ th y (dnumZ y p) (k + 1)) = 0 := if_pos hb1
            have h9 := fun v8 v9 => ih (k + 1) v8 v9 (by omega)
            rw [e2, e3, hb1] at h9
            exact h9 _ _
          · refine g_aload hX dX10_hymn_34 rfl rfl ?_
            refine g_iload hX dX10_hymn_35 rfl ?_
            refine g_aload hX dX10_hymn_37 rfl rfl ?_
            refine g_iload hX dX10_hymn_38 rfl ?_
            refine g_const hX dX10_hymn_40 ?_
            refine g_iload hX dX10_hymn_41 rfl ?_
            refine g_cV3 (c2 := 0) (s2 := 0) hX (s_X10_bestOf hst) dX10_hymn_42 (by first | assumption | exact hM.2.1) (by first | exact Nat.le_of_ble_eq_true rfl | simp [cat_rf, Value.category]) ⟨rfl, rfl, by decide, by decide⟩ ?_
            refine ⟨_, _, _, _, _, _, k, _, _, rfl, hM, hV, by omega, Or.inl rfl, by omega, Kc_i ?_⟩
            rw [show (1 : Int) - 0 = 1 from rfl]
            obtain ⟨hu0, hu1, hu2⟩ := (bstZ_r hV k 1 y).resolve_left (rea_b c31)
            obtain ⟨u9, hbu⟩ : ∃ u9 : Nat, bstZ σ k 1 y = (u9 : Int) := ⟨(bstZ σ k 1 y).toNat, by omega⟩
            rw [hbu, Int.toNat_natCast] at hu2
            rw [hbu]
            refine g_cV2 (c2 := 0) (s2 := 0) hX (s_X10_clash hst) dX10_hymn_45 (by first | assumption | exact hM.2.1) (by first | exact Nat.le_of_ble_eq_true rfl | simp [cat_rf, Value.category]) ⟨rfl, rfl, by decide, by decide⟩ ?_
            refine ⟨_, _, _, _, _, _, k, u9, rfl, hM, hV, by omega, by omega, hu2, Kc_i ?_⟩
            have hclu := cl_r hV k u9
            have htmt := tim_r hV k
            refine g_istore hX dX10_hymn_48 ?_
            dsimp only [List.set]
            refine g_iload hX dX10_hymn_50 rfl ?_
            refine g_const hX dX10_hymn_52 ?_
            refine z_icmp_eq hX dX10_hymn_54 (by first | assumption | (constructor <;> omega)) (by first | assumption | (constructor <;> omega)) (fun c54 => ?_) (fun c54 => ?_)
            · refine g_const hX dX10_hymn_86 ?_
              refine g_goto hX dX10_hymn_87 ?_
              refine g_istore hX dX10_hymn_91 ?_
              dsimp only [List.set]
              
              refine g_iload hX dX10_hymn_93 rfl ?_
              refine z_if_eq hX dX10_hymn_95 (by constructor <;> omega) (fun c95 => absurd c95 (by omega)) (fun c95 => ?_)
              
              refine g_iload hX dX10_hymn_98 rfl ?_
              refine g_goto hX dX10_hymn_100 ?_
              refine g_istore hX dX10_hymn_105 ?_
              dsimp only [List.set]
              refine g_iload hX dX10_hymn_107 rfl ?_
              refine z_if_eq hX dX10_hymn_109 (by constructor <;> omega) (fun c109 => absurd c109 (by omega)) (fun c109 => ?_)
              
              refine g_aload hX dX10_hymn_112 rfl rfl ?_
              refine g_iload hX dX10_hymn_113 rfl ?_
              refine g_cV1 (c2 := 0) (s2 := 0) hX (s_X10_times hst) dX10_hymn_115 (by first | assumption | exact hM.2.1) (by first | exact Nat.le_of_ble_eq_true rfl | simp [cat_rf, Value.category]) ⟨rfl, rfl, by decide, by decide⟩ ?_
              refine ⟨_, _, _, _, _, _, k, rfl, hM, hV, by omega, Kc_i ?_⟩
              refine g_goto hX dX10_hymn_118 ?_
              refine g_istore hX dX10_hymn_123 ?_
              dsimp only [List.set]
              refine g_iload hX dX10_hymn_125 rfl ?_
              refine z_if_eq hX dX10_hymn_127 (by constructor <;> omega) (fun c127 => absurd c127 (by omega)) (fun c127 => ?_)
              
              refine g_iload hX dX10_hymn_130 rfl ?_
              refine g_goto hX dX10_hymn_132 ?_
              refine g_istore hX dX10_hymn_137 ?_
              dsimp only [List.set]
              refine z_iinc hX dX10_hymn_139 rfl ?_
              dsimp only [List.set]
              refine g_goto hX dX10_hymn_142 ?_
              have hb1 : hymK σ th y (dnumZ y p) (k + 1) = (k : Int) := hym_y (⟨c31, Or.inl hb⟩)
              have e2 := hmZ_s (σ := σ) hb1
              have e3 := hcZ_s (σ := σ) (y := y) hb1
              rw [hbu, Int.toNat_natCast] at e3
              have h9 := fun v8 v9 => ih (k + 1) v8 v9 (by omega)
              rw [e2, e3, hb1] at h9
              exact h9 _ _
            · exfalso; omega
      · obtain ⟨b9, hb⟩ : ∃ b9 : Nat, hymK σ th y (dnumZ y p) k = (b9 : Int) := ⟨(hymK σ th y (dnumZ y p) k).toNat, by omega⟩
        rw [hmZ_s hb, hcZ_s hb, hb]
        have hcl9 := cl_r hV b9 (bstZ σ b9 1 y).toNat
        have htm9 := tim_r hV b9
        refine g_iload hX dX10_hymn_13 rfl ?_
        refine g_aload hX dX10_hymn_15 rfl rfl ?_
        refine g_get hX dX10_hymn_16 (by first | assumption | exact hM.2.1) rfl ?_
        refine z_icmp_ge hX dX10_hymn_19 (by first | assumption | (constructor <;> omega)) (by first | assumption | (constructor <;> omega)) (fun c19 => ?_) (fun c19 => ?_)
        · exfalso; omega
        · refine g_aload hX dX10_hymn_22 rfl rfl ?_
          refine g_iload hX dX10_hymn_23 rfl ?_
          refine g_iload hX dX10_hymn_25 rfl ?_
          refine g_iload hX dX10_hymn_26 rfl ?_
          refine g_iload hX dX10_hymn_27 rfl ?_
          refine g_cV4 (c2 := 0) (s2 := 0) hX (s_X10_reason hst) dX10_hymn_28 (by first | assumption | exact hM.2.1) (by first | exact Nat.le_of_ble_eq_true rfl | simp [cat_rf, Value.category]) ⟨rfl, rfl, by decide, by decide⟩ ?_
          refine ⟨_, _, _, _, _, _, k, th, y, p, rfl, hM, hV, by omega, hth, hy, hp, Kc_i ?_⟩
          have hre := rea_r σ k (th : Int) y (dnumZ y p)
          refine z_if_ne hX dX10_hymn_31 (by first | assumption | (constructor <;> omega)) (fun c31 => ?_) (fun c31 => ?_)
          · refine z_iinc hX dX10_hymn_139 rfl ?_
            dsimp only [List.set]
            refine g_goto hX dX10_hymn_142 ?_
            have hb1 : hymK σ th y (dnumZ y p) (k + 1) = (b9 : Int) := (hym_n (fun h9 => c31 h9.1)).trans hb
            have e2 := hmZ_s (σ := σ) hb1
            have e3 := hcZ_s (σ := σ) (y := y) hb1
            have h9 := fun v8 v9 => ih (k + 1) v8 v9 (by omega)
            rw [e2, e3, hb1] at h9
            exact h9 _ _
          · refine g_aload hX dX10_hymn_34 rfl rfl ?_
            refine g_iload hX dX10_hymn_35 rfl ?_
            refine g_aload hX dX10_hymn_37 rfl rfl ?_
            refine g_iload hX dX10_hymn_38 rfl ?_
            refine g_const hX dX10_hymn_40 ?_
            refine g_iload hX dX10_hymn_41 rfl ?_
            refine g_cV3 (c2 := 0) (s2 := 0) hX (s_X10_bestOf hst) dX10_hymn_42 (by first | assumption | exact hM.2.1) (by first | exact Nat.le_of_ble_eq_true rfl | simp [cat_rf, Value.category]) ⟨rfl, rfl, by decide, by decide⟩ ?_
            refine ⟨_, _, _, _, _, _, k, _, _, rfl, hM, hV, by omega, Or.inl rfl, by omega, Kc_i ?_⟩
            rw [show (1 : Int) - 0 = 1 from rfl]
            obtain ⟨hu0, hu1, hu2⟩ := (bstZ_r hV k 1 y).resolve_left (rea_b c31)
            obtain ⟨u9, hbu⟩ : ∃ u9 : Nat, bstZ σ k 1 y = (u9 : Int) := ⟨(bstZ σ k 1 y).toNat, by omega⟩
            rw [hbu, Int.toNat_natCast] at hu2
            rw [hbu]
            refine g_cV2 (c2 := 0) (s2 := 0) hX (s_X10_clash hst) dX10_hymn_45 (by first | assumption | exact hM.2.1) (by first | exact Nat.le_of_ble_eq_true rfl | simp [cat_rf, Value.category]) ⟨rfl, rfl, by decide, by decide⟩ ?_
            refine ⟨_, _, _, _, _, _, k, u9, rfl, hM, hV, by omega, by omega, hu2, Kc_i ?_⟩
            have hclu := cl_r hV k u9
            have htmt := tim_r hV k
            refine g_istore hX dX10_hymn_48 ?_
            dsimp only [List.set]
            refine g_iload hX dX10_hymn_50 rfl ?_
            refine g_const hX dX10_hymn_52 ?_
            refine z_icmp_eq hX dX10_hymn_54 (by first | assumption | (constructor <;> omega)) (by first | assumption | (constructor <;> omega)) (fun c54 => ?_) (fun c54 => ?_)
            · exfalso; omega
            · refine g_aload hX dX10_hymn_57 rfl rfl ?_
              refine g_iload hX dX10_hymn_58 rfl ?_
              refine g_cV1 (c2 := 0) (s2 := 0) hX (s_X10_times hst) dX10_hymn_60 (by first | assumption | exact hM.2.1) (by first | exact Nat.le_of_ble_eq_true rfl | simp [cat_rf, Value.category]) ⟨rfl, rfl, by decide, by decide⟩ ?_
              refine ⟨_, _, _, _, _, _, k, rfl, hM, hV, by omega, Kc_i ?_⟩
              refine g_iload hX dX10_hymn_63 rfl ?_
              refine z_icmp_gt hX dX10_hymn_65 (by first | assumption | (constructor <;> omega)) (by first | assumption | (constructor <;> omega)) (fun c65 => ?_) (fun c65 => ?_)
              · refine g_const hX dX10_hymn_86 ?_
                refine g_goto hX dX10_hymn_87 ?_
                refine g_istore hX dX10_hymn_91 ?_
                dsimp only [List.set]
                
                refine g_iload hX dX10_hymn_93 rfl ?_
                refine z_if_eq hX dX10_hymn_95 (by constructor <;> omega) (fun c95 => absurd c95 (by omega)) (fun c95 => ?_)
                
                refine g_iload hX dX10_hymn_98 rfl ?_
                refine g_goto hX dX10_hymn_100 ?_
                refine g_istore hX dX10_hymn_105 ?_
                dsimp only [List.set]
                refine g_iload hX dX10_hymn_107 rfl ?_
                refine z_if_eq hX dX10_hymn_109 (by constructor <;> omega) (fun c109 => absurd c109 (by omega)) (fun c109 => ?_)
                
                refine g_aload hX dX10_hymn_112 rfl rfl ?_
                refine g_iload hX dX10_hymn_113 rfl ?_
                refine g_cV1 (c2 := 0) (s2 := 0) hX (s_X10_times hst) dX10_hymn_115 (by first | assumption | exact hM.2.1) (by first | exact Nat.le_of_ble_eq_true rfl | simp [cat_rf, Value.category]) ⟨rfl, rfl, by decide, by decide⟩ ?_
                refine ⟨_, _, _, _, _, _, k, rfl, hM, hV, by omega, Kc_i ?_⟩
                refine g_goto hX dX10_hymn_118 ?_
                refine g_istore hX dX10_hymn_123 ?_
                dsimp only [List.set]
                refine g_iload hX dX10_hymn_125 rfl ?_
                refine z_if_eq hX dX10_hymn_127 (by constructor <;> omega) (fun c127 => absurd c127 (by omega)) (fun c127 => ?_)
                
                refine g_iload hX dX10_hymn_130 rfl ?_
                refine g_goto hX dX10_hymn_132 ?_
                refine g_istore hX dX10_hymn_137 ?_
                dsimp only [List.set]
                refine z_iinc hX dX10_hymn_139 rfl ?_
                dsimp only [List.set]
                refine g_goto hX dX10_hymn_142 ?_
                have hb1 : hymK σ th y (dnumZ y p) (k + 1) = (k : Int) := hym_y (⟨c31, Or.inr (Or.inl (by rw [hb, Int.toNat_natCast]; omega))⟩)
                have e2 := hmZ_s (σ := σ) hb1
                have e3 := hcZ_s (σ := σ) (y := y) hb1
                rw [hbu, Int.toNat_natCast] at e3
                have h9 := fun v8 v9 => ih (k + 1) v8 v9 (by omega)
                rw [e2, e3, hb1] at h9
                exact h9 _ _
              · refine g_aload hX dX10_hymn_68 rfl rfl ?_
                refine g_iload hX dX10_hymn_69 rfl ?_
                refine g_cV1 (c2 := 0) (s2 := 0) hX (s_X10_times hst) dX10_hymn_71 (by first | assumption | exact hM.2.1) (by first | exact Nat.le_of_ble_eq_true rfl | simp [cat_rf, Value.category]) ⟨rfl, rfl, by decide, by decide⟩ ?_
                refine ⟨_, _, _, _, _, _, k, rfl, hM, hV, by omega, Kc_i ?_⟩
                refine g_iload hX dX10_hymn_74 rfl ?_
                refine z_icmp_ne hX dX10_hymn_76 (by first | assumption | (constructor <;> omega)) (by first | assumption | (constructor <;> omega)) (fun c76 => ?_) (fun c76 => ?_)
                · refine g_const hX dX10_hymn_90 ?_
                  refine g_istore hX dX10_hymn_91 ?_
                  dsimp only [List.set]
                  
                  refine g_iload hX dX10_hymn_93 rfl ?_
                  refine z_if_eq hX dX10_hymn_95 (by constructor <;> omega) (fun c95 => ?_) (fun c95 => absurd c95 (by omega))
                  
                  refine g_iload hX dX10_hymn_103 rfl ?_
                  refine g_istore hX dX10_hymn_105 ?_
                  dsimp only [List.set]
                  refine g_iload hX dX10_hymn_107 rfl ?_
                  refine z_if_eq hX dX10_hymn_109 (by constructor <;> omega) (fun c109 => ?_) (fun c109 => absurd c109 (by omega))
                  
                  refine g_iload hX dX10_hymn_121 rfl ?_
                  refine g_istore hX dX10_hymn_123 ?_
                  dsimp only [List.set]
                  refine g_iload hX dX10_hymn_125 rfl ?_
                  refine z_if_eq hX dX10_hymn_127 (by constructor <;> omega) (fun c127 => ?_) (fun c127 => absurd c127 (by omega))
                  
                  refine g_iload hX dX10_hymn_135 rfl ?_
                  refine g_istore hX dX10_hymn_137 ?_
                  dsimp only [List.set]
                  refine z_iinc hX dX10_hymn_139 rfl ?_
                  dsimp only [List.set]
                  refine g_goto hX dX10_hymn_142 ?_
                  have hb1 : hymK σ th y (dnumZ y p) (k + 1) = (b9 : Int) := (hym_n (fun h9 => h9.2.elim (fun q => by omega) (fun q => q.elim (fun q => by rw [hb, Int.toNat_natCast] at q; omega) (fun q => by rw [hb, Int.toNat_natCast] at q; omega)))).trans hb
                  have e2 := hmZ_s (σ := σ) hb1
                  have e3 := hcZ_s (σ := σ) (y := y) hb1
                  have h9 := fun v8 v9 => ih (k + 1) v8 v9 (by omega)
                  rw [e2, e3, hb1] at h9
                  exact h9 _ _
                · refine g_iload hX dX10_hymn_79 rfl ?_
                  refine g_iload hX dX10_hymn_81 rfl ?_
                  refine z_icmp_ge hX dX10_hymn_83 (by first | assumption | (constructor <;> omega)) (by first | assumption | (constructor <;> omega)) (fun c83 => ?_) (fun c83 => ?_)
                  · refine g_const hX dX10_hymn_90 ?_
                    refine g_istore hX dX10_hymn_91 ?_
                    dsimp only [List.set]
                    
                    refine g_iload hX dX10_hymn_93 rfl ?_
                    refine z_if_eq hX dX10_hymn_95 (by constructor <;> omega) (fun c95 => ?_) (fun c95 => absurd c95 (by omega))
                    
                    refine g_iload hX dX10_hymn_103 rfl ?_
                    refine g_istore hX dX10_hymn_105 ?_
                    dsimp only [List.set]
                    refine g_iload hX dX10_hymn_107 rfl ?_
                    refine z_if_eq hX dX10_hymn_109 (by constructor <;> omega) (fun c109 => ?_) (fun c109 => absurd c109 (by omega))
                    
                    refine g_iload hX dX10_hymn_121 rfl ?_
                    refine g_istore hX dX10_hymn_123 ?_
                    dsimp only [List.set]
                    refine g_iload hX dX10_hymn_125 rfl ?_
                    refine z_if_eq hX dX10_hymn_127 (by constructor <;> omega) (fun c127 => ?_) (fun c127 => absurd c127 (by omega))
                    
                    refine g_iload hX dX10_hymn_135 rfl ?_
                    refine g_istore hX dX10_hymn_137 ?_
                    dsimp only [List.set]
                    refine z_iinc hX dX10_hymn_139 rfl ?_
                    dsimp only [List.set]
                    refine g_goto hX dX10_hymn_142 ?_
                    have hb1 : hymK σ th y (dnumZ y p) (k + 1) = (b9 : Int) := (hym_n (fun h9 => h9.2.elim (fun q => by omega) (fun q => q.elim (fun q => by rw [hb, Int.toNat_natCast] at q; omega) (fun q => by rw [hb, hbu, Int.toNat_natCast, Int.toNat_natCast] at q; omega)))).trans hb
                    have e2 := hmZ_s (σ := σ) hb1
                    have e3 := hcZ_s (σ := σ) (y := y) hb1
                    have h9 := fun v8 v9 => ih (k + 1) v8 v9 (by omega)
                    rw [e2, e3, hb1] at h9
                    exact h9 _ _
                  · refine g_const hX dX10_hymn_86 ?_
                    refine g_goto hX dX10_hymn_87 ?_
                    refine g_istore hX dX10_hymn_91 ?_
                    dsimp only [List.set]
                    
                    refine g_iload hX dX10_hymn_93 rfl ?_
                    refine z_if_eq hX dX10_hymn_95 (by constructor <;> omega) (fun c95 => absurd c95 (by omega)) (fun c95 => ?_)
                    
                    refine g_iload hX dX10_hymn_98 rfl ?_
                    refine g_goto hX dX10_hymn_100 ?_
                    refine g_istore hX dX10_hymn_105 ?_
                    dsimp only [List.set]
                    refine g_iload hX dX10_hymn_107 rfl ?_
                    refine z_if_eq hX dX10_hymn_109 (by constructor <;> omega) (fun c109 => absurd c109 (by omega)) (fun c109 => ?_)
                    
                    refine g_aload hX dX10_hymn_112 rfl rfl ?_
                    refine g_iload hX dX10_hymn_113 rfl ?_
                    refine g_cV1 (c2 := 0) (s2 := 0) hX (s_X10_times hst) dX10_hymn_115 (by first | assumption | exact hM.2.1) (by first | exact Nat.le_of_ble_eq_true rfl | simp [cat_rf, Value.category]) ⟨rfl, rfl, by decide, by decide⟩ ?_
                    refine ⟨_, _, _, _, _, _, k, rfl, hM, hV, by omega, Kc_i ?_⟩
                    refine g_goto hX dX10_hymn_118 ?_
                    refine g_istore hX dX10_hymn_123 ?_
                    dsimp only [List.set]
                    refine g_iload hX dX10_hymn_125 rfl ?_
                    refine z_if_eq hX dX10_hymn_127 (by constructor <;> omega) (fun c127 => absurd c127 (by omega)) (fun c127 => ?_)
                    
                    refine g_iload hX dX10_hymn_130 rfl ?_
                    refine g_goto hX dX10_hymn_132 ?_
                    refine g_istore hX dX10_hymn_137 ?_
                    dsimp only [List.set]
                    refine z_iinc hX dX10_hymn_139 rfl ?_
                    dsimp only [List.set]
                    refine g_goto hX dX10_hymn_142 ?_
                    have hb1 : hymK σ th y (dnumZ y p) (k + 1) = (k : Int) := hym_y (⟨c31, Or.inr (Or.inr (by rw [hb, hbu, Int.toNat_natCast, Int.toNat_natCast]; exact ⟨by omega, by omega⟩))⟩)
                    have e2 := hmZ_s (σ := σ) hb1
                    have e3 := hcZ_s (σ := σ) (y := y) hb1
                    rw [hbu, Int.toNat_natCast] at e3
                    have h9 := fun v8 v9 => ih (k + 1) v8 v9 (by omega)
                    rw [e2, e3, hb1] at h9
                    exact h9 _ _
  refine g_const hX dX10_hymn_0 ?_
  refine g_istore hX dX10_hymn_2 ?_
  dsimp only [List.set]
  refine g_const hX dX10_hymn_4 ?_
  refine g_istore hX dX10_hymn_5 ?_
  dsimp only [List.set]
  refine g_const hX dX10_hymn_7 ?_
  refine g_istore hX dX10_hymn_8 ?_
  dsimp only [List.set]
  refine g_const hX dX10_hymn_10 ?_
  refine g_istore hX dX10_hymn_11 ?_
  dsimp only [List.set]
  have h9 := loop (σ 0 0 0).toNat 0 U9 U9 (by omega)
  simp only [show hymK σ th y (dnumZ y p) 0 = -100 from rfl, show hmZ σ (-100) = 0 from if_pos rfl, show hcZ σ y (-100) = 0 from if_pos rfl] at h9
  exact h9

def sp_X10_isLater : hS := fun as M sz K => ∃ (b r : Nat) (σ : SG) (th : Int) (P Q : Nat → Int) (y p : Int), as = [.ref r, .int (iZ y), .int (iZ p)] ∧ MX b r σ th P Q M ∧ SV σ ∧ (1600 ≤ y ∧ y ≤ 2399) ∧ (0 ≤ p ∧ p < ylenZ y) ∧ K (.inl (some (.int (iZ (bZ (latrZ σ (dnumZ y p))))))) M sz
theorem s_X10_isLater {l : Launch} {g : hG} (hst : l.stackTraces = false) : Ctr l g mX10_isLater sp_X10_isLater := by
  refine Ctr.mk9 hst (by decide) ?_ ?_
  · rintro as M sz K ⟨b, r, σ, th, P, Q, y, p, rfl, hM, hV, hy, hp, hK⟩
    exact ⟨by simp [mX10_isLater], cat_ok rfl⟩
  rintro X as M sz K hX rfl rfl hR ⟨b, r, σ, th, P, Q, y, p, rfl, hM, hV, hy, hp, hK⟩
  show G X 0 [.ref r, .int (iZ y), .int (iZ p)] [] M sz 0 0
  obtain ⟨n0, n1, n2, n3, ⟨e0, hn0⟩, ⟨e1, hn1⟩, ⟨e2, hn2⟩, ⟨e3, hn3⟩⟩ := hV.nat
  have ha23 : M (b + 23) = some (.inr (0, 60, .inl (fun i => iZ (σ 42 i 0)))) := hM.2.2 23 (by decide)
  have ha24 : M (b + 24) = some (.inr (0, 60, .inl (fun i => iZ (σ 43 i 0)))) := hM.2.2 24 (by decide)
  have hyl := ylen_r y
  refine g_aload hX dX10_isLater_0 rfl rfl ?_
  refine g_get hX dX10_isLater_1 (by first | assumption | exact hM.2.1) rfl ?_
  refine z_if_eq hX dX10_isLater_4 (by first | assumption | (constructor <;> omega)) (fun c4 => ?_) (fun c4 => ?_)
  · refine g_const hX dX10_isLater_52 ?_
    refine g_goto hX dX10_isLater_53 ?_
    refine g_iret hX hR dX10_isLater_57 rfl (by first | rfl | exact nar_b _ | exact nar_01 (by omega)) (by decide) (by decide) ?_
    exact kint hK (bZ_t (Or.inl c4))
  · have hsi := hV.s ((σ 3 0 0).toNat - 1) (by omega)
    have hyl9 := ylen_r (σ 42 ((σ 3 0 0).toNat - 1) 0)
    have hdl := dn_lt (y := y) (p := p) hp hsi.2.2.2
    refine g_iload hX dX10_isLater_7 rfl ?_
    refine g_aload hX dX10_isLater_8 rfl rfl ?_
    refine g_get hX dX10_isLater_9 (by first | assumption | exact hM.2.1) rfl ?_
    refine g_aload hX dX10_isLater_12 rfl rfl ?_
    refine g_get hX dX10_isLater_13 (by first | assumption | exact hM.2.1) rfl ?_
    refine g_const hX dX10_isLater_16 ?_
    refine z_isub hX dX10_isLater_17 ?_
    refine z_iald (b := σ 42 ((σ 3 0 0).toNat - 1) 0) hX dX10_isLater_18 ha23 (by omega) (by omega) (by decide) (by show iZ (σ 42 (σ 3 0 0 - 1).toNat 0) = _; rw [show (σ 3 0 0 - 1).toNat = (σ 3 0 0).toNat - 1 by omega]) ?_
    try simp only [Int.toNat_natCast]
    refine z_icmp_gt hX dX10_isLater_19 (by first | assumption | (constructor <;> omega)) (by first | assumption | (constructor <;> omega)) (fun c19 => ?_) (fun c19 => ?_)
    · refine g_const hX dX10_isLater_52 ?_
      refine g_goto hX dX10_isLater_53 ?_
      refine g_iret hX hR dX10_isLater_57 rfl (by first | rfl | exact nar_b _ | exact nar_01 (by omega)) (by decide) (by decide) ?_
      exact kint hK (bZ_t (Or.inr (hdl.mpr (Or.inl c19))))
    · refine g_iload hX dX10_isLater_22 rfl ?_
      refine g_aload hX dX10_isLater_23 rfl rfl ?_
      refine g_get hX dX10_isLater_24 (by first | assumption | exact hM.2.1) rfl ?_
      refine g_aload hX dX10_isLater_27 rfl rfl ?_
      refine g_get hX dX10_isLater_28 (by first | assumption | exact hM.2.1) rfl ?_
      refine g_const hX dX10_isLater_31 ?_
      refine z_isub hX dX10_isLater_32 ?_
      refine z_iald (b := σ 42 ((σ 3 0 0).toNat - 1) 0) hX dX10_isLater_33 ha23 (by omega) (by omega) (by decide) (by show iZ (σ 42 (σ 3 0 0 - 1).toNat 0) = _; rw [show (σ 3 0 0 - 1).toNat = (σ 3 0 0).toNat - 1 by omega]) ?_
      try simp only [Int.toNat_natCast]
      refine z_icmp_ne hX dX10_isLater_34 (by first | assumption | (constructor <;> omega)) (by first | assumption | (constructor <;> omega)) (fun c34 => ?_) (fun c34 => ?_)
      · refine g_const hX dX10_isLater_56 ?_
        refine g_iret hX hR dX10_isLater_57 rfl (by first | rfl | exact nar_b _ | exact nar_01 (by omega)) (by decide) (by decide) ?_
        exact kint hK (bZ_f (fun h9 => h9.elim (fun q => c4 q) (fun q => (hdl.mp q).elim (fun q => by omega) (fun q => c34 q.1))))
      · refine g_iload hX dX10_isLater_37 rfl ?_
        refine g_aload hX dX10_isLater_38 rfl rfl ?_
        refine g_get hX dX10_isLater_39 (by first | assumption | exact hM.2.1) rfl ?_
        refine g_aload hX dX10_isLater_42 rfl rfl ?_
        refine g_get hX dX10_isLater_43 (by first | assumption | exact hM.2.1) rfl ?_
        refine g_const hX dX10_isLater_46 ?_
        refine z_isub hX dX10_isLater_47 ?_
        refine z_iald (b := σ 43 ((σ 3 0 0).toNat - 1) 0) hX dX10_isLater_48 ha24 (by omega) (by omega) (by decide) (by show iZ (σ 43 (σ 3 0 0 - 1).toNat 0) = _; rw [show (σ 3 0 0 - 1).toNat = (σ 3 0 0).toNat - 1 by omega]) ?_
        try simp only [Int.toNat_natCast]
        refine z_icmp_le hX dX10_isLater_49 (by first | assumption | (constructor <;> omega)) (by first | assumption | (constructor <;> omega)) (fun c49 => ?_) (fun c49 => ?_)
        · refine g_const hX dX10_isLater_56 ?_
          refine g_iret hX hR dX10_isLater_57 rfl (by first | rfl | exact nar_b _ | exact nar_01 (by omega)) (by decide) (by decide) ?_
          exact kint hK (bZ_f (fun h9 => h9.elim (fun q => c4 q) (fun q => (hdl.mp q).elim (fun q => by omega) (fun q => by omega))))
        · refine g_const hX dX10_isLater_52 ?_
          refine g_goto hX dX10_isLater_53 ?_
          refine g_iret hX hR dX10_isLater_57 rfl (by first | rfl | exact nar_b _ | exact nar_01 (by omega)) (by decide) (by decide) ?_
          exact kint hK (bZ_t (Or.inr (hdl.mpr (Or.inr ⟨c34, c49⟩))))

theorem dtX10_service_61 : decode mX10_service.2.1 61 = .ok (.tableswitch (59) 0 3 #[31, 33, 36, 43], 31) := by decide +kernel

def sp_X10_service : hS := fun as M sz K => ∃ (b r : Nat) (σ : SG) (th : Int) (P Q : Nat → Int) (x z : Int), as = [.ref r, .int (iZ x), .int (iZ z)] ∧ MX b r σ th P Q M ∧ SV σ ∧ inR x ∧ inR z ∧ MO b r (oc_service σ x z) K
theorem s_X10_service {l : Launch} {g : hG} (hst : l.stackTraces = false) : Ctr l g mX10_service sp_X10_service := by
  refine Ctr.mk9 hst (by decide) ?_ ?_
  · rintro as M sz K ⟨b, r, σ, th, P, Q, x, z, rfl, hM, hV, rx, rz, hK⟩
    exact ⟨by simp [mX10_service], cat_ok rfl⟩
  rintro X as M sz K hX rfl rfl hR ⟨b, r, σ, th, P, Q, x, z, rfl, hM, hV, rx, rz, hK⟩
  show G X 0 [.ref r, .int (iZ x), .int (iZ z), U9, U9] [] M sz 0 0
  obtain ⟨n0, n1, n2, n3, ⟨e0, hn0⟩, ⟨e1, hn1⟩, ⟨e2, hn2⟩, ⟨e3, hn3⟩⟩ := hV.nat
  have ha21 : M (b + 21) = some (.inr (0, 60, .inl (fun i => iZ (σ 40 i 0)))) := hM.2.2 21 (by decide)
  have ha22 : M (b + 22) = some (.inr (0, 60, .inl (fun i => iZ (σ 41 i 0)))) := hM.2.2 22 (by decide)
  have ha23 : M (b + 23) = some (.inr (0, 60, .inl (fun i => iZ (σ 42 i 0)))) := hM.2.2 23 (by decide)
  have ha24 : M (b + 24) = some (.inr (0, 60, .inl (fun i => iZ (σ 43 i 0)))) := hM.2.2 24 (by decide)
  refine g_aload hX dX10_service_0 rfl rfl ?_
  refine g_iload hX dX10_service_1 rfl ?_
  refine g_const hX dX10_service_2 ?_
  refine g_aload hX dX10_service_3 rfl rfl ?_
  refine g_get hX dX10_service_4 (by first | assumption | exact hM.2.1) rfl ?_
  refine g_const hX dX10_service_7 ?_
  refine z_isub hX dX10_service_8 ?_
  refine g_cS3 (c2 := 0) (s2 := 0) hX (s_X10_isIn hst) dX10_service_9 (by first | exact Nat.le_of_ble_eq_true rfl | simp [cat_rf, Value.category]) ⟨rfl, rfl, by decide, by decide⟩ ?_
  refine ⟨_, _, _, rfl, (by first | assumption | (constructor <;> omega)), (by first | assumption | (constructor <;> omega)), (by first | assumption | (constructor <;> omega)), Kc_i ?_⟩
  refine z_ifb_ne hX dX10_service_12 (fun c12 => ?_) (fun c12 => ?_)
  · refine g_iload hX dX10_service_19 rfl ?_
    refine g_const hX dX10_service_20 ?_
    refine g_const hX dX10_service_21 ?_
    refine g_cS3 (c2 := 0) (s2 := 0) hX (s_X10_isIn hst) dX10_service_22 (by first | exact Nat.le_of_ble_eq_true rfl | simp [cat_rf, Value.category]) ⟨rfl, rfl, by decide, by decide⟩ ?_
    refine ⟨_, _, _, rfl, (by first | assumption | (constructor <;> omega)), (by first | assumption | (constructor <;> omega)), (by first | assumption | (constructor <;> omega)), Kc_i ?_⟩
    refine z_ifb_ne hX dX10_service_25 (fun c25 => ?_) (fun c25 => ?_)
    · refine g_const hX dX10_service_32 ?_
      refine o_put hX dX10_service_33 hM.2.1 (by simp [MFL]) rfl rfl (fun M1 hs1 hn1 => ?_)
      have hM := hM.th hs1 hn1
      have ha21 : M1 (b + 21) = some (.inr (0, 60, .inl (fun i => iZ (σ 40 i 0)))) := hM.2.2 21 (by decide)
      have ha22 : M1 (b + 22) = some (.inr (0, 60, .inl (fun i => iZ (σ 41 i 0)))) := hM.2.2 22 (by decide)
      have ha23 : M1 (b + 23) = some (.inr (0, 60, .inl (fun i => iZ (σ 42 i 0)))) := hM.2.2 23 (by decide)
      have ha24 : M1 (b + 24) = some (.inr (0, 60, .inl (fun i => iZ (σ 43 i 0)))) := hM.2.2 24 (by decide)
      
      refine g_aload hX dX10_service_36 rfl rfl ?_
      refine g_get hX dX10_service_37 (by first | assumption | exact hM.2.1) rfl ?_
      refine z_if_le hX dX10_service_40 (by constructor <;> omega) (fun c40 => ?_) (fun c40 => absurd c40 (by omega))
      
      obtain ⟨s9, rfl⟩ : ∃ s9 : Nat, x = (s9 : Int) := ⟨x.toNat, by omega⟩
      have hsi := hV.s s9 (by omega)
      have hyl9 := ylen_r (σ 42 s9 0)
      obtain ⟨t, ht9⟩ : ∃ t : Nat, σ 40 s9 0 = (t : Int) := ⟨(σ 40 s9 0).toNat, by omega⟩
      obtain ⟨u, hu9⟩ : ∃ u : Nat, σ 41 s9 0 = (u : Int) := ⟨(σ 41 s9 0).toNat, by omega⟩
      refine g_aload hX dX10_service_45 rfl rfl ?_
      refine g_get hX dX10_service_46 (by first | assumption | exact hM.2.1) rfl ?_
      refine g_iload hX dX10_service_49 rfl ?_
      refine z_iald hX dX10_service_50 (by first | assumption | exact hM.2.1) (by omega) (by omega) (by decide) rfl ?_
      try simp only [Int.toNat_natCast]
      refine g_istore hX dX10_service_51 ?_
      dsimp only [List.set]
      refine g_aload hX dX10_service_52 rfl rfl ?_
      refine g_get hX dX10_service_53 (by first | assumption | exact hM.2.1) rfl ?_
      refine g_iload hX dX10_service_56 rfl ?_
      refine z_iald hX dX10_service_57 (by first | assumption | exact hM.2.1) (by omega) (by omega) (by decide) rfl ?_
      try simp only [Int.toNat_natCast]
      refine g_istore hX dX10_service_58 ?_
      dsimp only [List.set]
      refine g_iload hX dX10_service_60 rfl ?_
      rcases (show z = 0 ∨ z = 1 ∨ z = 2 ∨ z = 3 ∨ ¬ (0 ≤ z ∧ z ≤ 3) by omega) with rfl | rfl | rfl | rfl | qw
      · refine g_tabIn (off := 31) (t := 92) hX dtX10_service_61 (by decide) (by decide) (by decide) (by decide) ?_
        refine g_iload hX dX10_service_92 rfl ?_
        refine g_iret hX hR dX10_service_93 rfl rfl (by decide) (by decide) ?_
        exact kint (MV hK (c := 0) ((if_neg (fun q => q ⟨by omega, by omega⟩)).trans (if_neg (fun q => q ⟨by omega, by omega⟩))) hM hV) (by rw [Int.toNat_natCast]; unfold svcZ; rfl)
      · refine g_tabIn (off := 33) (t := 94) hX dtX10_service_61 (by decide) (by decide) (by decide) (by decide) ?_
        refine g_iload hX dX10_service_94 rfl ?_
        refine g_iret hX hR dX10_service_96 rfl rfl (by decide) (by decide) ?_
        exact kint (MV hK (c := 0) ((if_neg (fun q => q ⟨by omega, by omega⟩)).trans (if_neg (fun q => q ⟨by omega, by omega⟩))) hM hV) (by rw [Int.toNat_natCast]; unfold svcZ; rfl)
      · refine g_tabIn (off := 36) (t := 97) hX dtX10_service_61 (by decide) (by decide) (by decide) (by decide) ?_
        refine g_aload hX dX10_service_97 rfl rfl ?_
        refine g_get hX dX10_service_98 (by first | assumption | exact hM.2.1) rfl ?_
        refine g_iload hX dX10_service_101 rfl ?_
        refine z_iald hX dX10_service_102 (by first | assumption | exact hM.2.1) (by omega) (by omega) (by decide) rfl ?_
        try simp only [Int.toNat_natCast]
        refine g_iret hX hR dX10_service_103 rfl rfl (by decide) (by decide) ?_
        exact kint (MV hK (c := 0) ((if_neg (fun q => q ⟨by omega, by omega⟩)).trans (if_neg (fun q => q ⟨by omega, by omega⟩))) hM hV) (by rw [Int.toNat_natCast]; unfold svcZ; rfl)
      · refine g_tabIn (off := 43) (t := 104) hX dtX10_service_61 (by decide) (by decide) (by decide) (by decide) ?_
        refine g_aload hX dX10_service_104 rfl rfl ?_
        refine g_get hX dX10_service_105 (by first | assumption | exact hM.2.1) rfl ?_
        refine g_iload hX dX10_service_108 rfl ?_
        refine z_iald hX dX10_service_109 (by first | assumption | exact hM.2.1) (by omega) (by omega) (by decide) rfl ?_
        try simp only [Int.toNat_natCast]
        refine g_aload hX dX10_service_110 rfl rfl ?_
        refine g_get hX dX10_service_111 (by first | assumption | exact hM.2.1) rfl ?_
        refine g_iload hX dX10_service_114 rfl ?_
        refine z_iald hX dX10_service_115 (by first | assumption | exact hM.2.1) (by omega) (by omega) (by decide) rfl ?_
        try simp only [Int.toNat_natCast]
        refine g_cS2 (c2 := 0) (s2 := 0) hX (s_X10_dateOf hst) dX10_service_116 (by first | exact Nat.le_of_ble_eq_true rfl | simp [cat_rf, Value.category]) ⟨rfl, rfl, by decide, by decide⟩ ?_
        refine ⟨_, _, rfl, by omega, by omega, Kc_i ?_⟩
        refine g_iret hX hR dX10_service_119 rfl rfl (by decide) (by decide) ?_
        exact kint (MV hK (c := 0) ((if_neg (fun q => q ⟨by omega, by omega⟩)).trans (if_neg (fun q => q ⟨by omega, by omega⟩))) hM hV) (by rw [Int.toNat_natCast]; unfold svcZ; rfl)
      · refine g_tabOut (t := 120) hX dtX10_service_61 (by rw [zt (by assumption)]; omega) (by decide) ?_
        refine g_aload hX dX10_service_120 rfl rfl ?_
        refine g_iload hX dX10_service_121 rfl ?_
        refine g_iload hX dX10_service_122 rfl ?_
        refine g_cV2 (c2 := 0) (s2 := 0) hX (s_X10_fit hst) dX10_service_124 (by first | assumption | exact hM.2.1) (by first | exact Nat.le_of_ble_eq_true rfl | simp [cat_rf, Value.category]) ⟨rfl, rfl, by decide, by decide⟩ ?_
        rw [ht9, hu9]
        refine ⟨_, _, _, _, _, _, t, u, rfl, hM, hV, by omega, by omega, Kc_i ?_⟩
        have hft := fit_r σ t u
        refine z_if_ne hX dX10_service_127 (by first | assumption | (constructor <;> omega)) (fun c127 => ?_) (fun c127 => ?_)
        · refine g_aload hX dX10_service_135 rfl rfl ?_
          refine g_iload hX dX10_service_136 rfl ?_
          refine g_iload hX dX10_service_137 rfl ?_
          refine g_cV2 (c2 := 0) (s2 := 0) hX (s_X10_clash hst) dX10_service_139 (by first | assumption | exact hM.2.1) (by first | exact Nat.le_of_ble_eq_true rfl | simp [cat_rf, Value.category]) ⟨rfl, rfl, by decide, by decide⟩ ?_
          refine ⟨_, _, _, _, _, _, t, u, rfl, hM, hV, by omega, by omega, (by omega), Kc_i ?_⟩
          refine g_iret hX hR dX10_service_142 rfl rfl (by decide) (by decide) ?_
          exact kint (MV hK (c := 0) ((if_neg (fun q => q ⟨by omega, by omega⟩)).trans (if_neg (fun q => q ⟨by omega, by omega⟩))) hM hV) (by rw [Int.toNat_natCast]; unfold svcZ; rw [if_neg (by omega), if_neg (by omega), if_neg (by omega), if_neg (by omega), ht9, hu9, Int.toNat_natCast, Int.toNat_natCast, if_neg c127])
        · refine g_const hX dX10_service_130 ?_
          refine g_goto hX dX10_service_132 ?_
          refine g_iret hX hR dX10_service_142 rfl rfl (by decide) (by decide) ?_
          exact kint (MV hK (c := 0) ((if_neg (fun q => q ⟨by omega, by omega⟩)).trans (if_neg (fun q => q ⟨by omega, by omega⟩))) hM hV) (by rw [Int.toNat_natCast]; unfold svcZ; rw [if_neg (by omega), if_neg (by omega), if_neg (by omega), if_neg (by omega), ht9, hu9, Int.toNat_natCast, Int.toNat_natCast, if_pos c127])
    · refine g_const hX dX10_service_28 ?_
      refine g_goto hX dX10_service_29 ?_
      refine o_put hX dX10_service_33 hM.2.1 (by simp [MFL]) rfl rfl (fun M1 hs1 hn1 => ?_)
      have hM := hM.th hs1 hn1
      have ha21 : M1 (b + 21) = some (.inr (0, 60, .inl (fun i => iZ (σ 40 i 0)))) := hM.2.2 21 (by decide)
      have ha22 : M1 (b + 22) = some (.inr (0, 60, .inl (fun i => iZ (σ 41 i 0)))) := hM.2.2 22 (by decide)
      have ha23 : M1 (b + 23) = some (.inr (0, 60, .inl (fun i => iZ (σ 42 i 0)))) := hM.2.2 23 (by decide)
      have ha24 : M1 (b + 24) = some (.inr (0, 60, .inl (fun i => iZ (σ 43 i 0)))) := hM.2.2 24 (by decide)
      
      refine g_aload hX dX10_service_36 rfl rfl ?_
      refine g_get hX dX10_service_37 (by first | assumption | exact hM.2.1) rfl ?_
      refine z_if_le hX dX10_service_40 (by constructor <;> omega) (fun c40 => absurd c40 (by omega)) (fun c40 => ?_)
      
      refine g_const hX dX10_service_43 ?_
      refine g_iret hX hR dX10_service_44 rfl rfl (by decide) (by decide) ?_
      exact MV hK (c := 2) ((if_neg (fun q => q ⟨by omega, by omega⟩)).trans (if_pos (fun q => c25 (by have := q.1; have := q.2; omega)))) hM hV
  · refine g_const hX dX10_service_15 ?_
    refine g_goto hX dX10_service_16 ?_
    refine o_put hX dX10_service_33 hM.2.1 (by simp [MFL]) rfl rfl (fun M1 hs1 hn1 => ?_)
    have hM := hM.th hs1 hn1
    have ha21 : M1 (b + 21) = some (.inr (0, 60, .inl (fun i => iZ (σ 40 i 0)))) := hM.2.2 21 (by decide)
    have ha22 : M1 (b + 22) = some (.inr (0, 60, .inl (fun i => iZ (σ 41 i 0)))) := hM.2.2 22 (by decide)
    have ha23 : M1 (b + 23) = some (.inr (0, 60, .inl (fun i => iZ (σ 42 i 0)))) := hM.2.2 23 (by decide)
    have ha24 : M1 (b + 24) = some (.inr (0, 60, .inl (fun i => iZ (σ 43 i 0)))) := hM.2.2 24 (by decide)
    
    refine g_aload hX dX10_service_36 rfl rfl ?_
    refine g_get hX dX10_service_37 (by first | assumption | exact hM.2.1) rfl ?_
    refine z_if_le hX dX10_service_40 (by constructor <;> omega) (fun c40 => absurd c40 (by omega)) (fun c40 => ?_)
    
    refine g_const hX dX10_service_43 ?_
    refine g_iret hX hR dX10_service_44 rfl rfl (by decide) (by decide) ?_
    exact MV hK (c := 1) (if_pos (fun q => c12 (by have := q.1; have := q.2; omega))) hM hV
