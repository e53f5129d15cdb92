/-! the reference's calendar -/
def mdK (y : Int) : Nat → Int
  | 0 => 0
  | k + 1 => mdK y k + mlenZ y ((k : Int) + 1)
theorem md_lp {y z : Int} (h : leapZ y ↔ leapZ z) : ∀ k, mdK y k = mdK z k
  | 0 => rfl
  | k + 1 => by
    unfold mdK
    rw [md_lp h k, mlen_lp h]
theorem md_l : ∀ k : Nat, k < 12 → mdK 2000 k = placeZ 2000 ((k : Int) + 1) 1 := by decide +kernel
theorem md_c : ∀ k : Nat, k < 12 → mdK 2001 k = placeZ 2001 ((k : Int) + 1) 1 := by decide +kernel
theorem leap_c {y : Int} : (leapZ y ↔ leapZ 2000) ∨ (leapZ y ↔ leapZ 2001) := by
  by_cases q : leapZ y
  · exact Or.inl ⟨fun _ => by decide, fun _ => q⟩
  · exact Or.inr ⟨fun g => absurd g q, fun g => absurd g (by decide)⟩
theorem md_p {y : Int} {k : Nat} (hk : k < 12) : mdK y k = placeZ y ((k : Int) + 1) 1 := by
  rcases leap_c (y := y) with e | e
  · rw [md_lp e, place_lp e]; exact md_l k hk
  · rw [md_lp e, place_lp e]; exact md_c k hk
theorem md_12 (y : Int) : mdK y 12 = ylenZ y := by
  rcases leap_c (y := y) with e | e
  · rw [md_lp e, ylen_lp e]; decide
  · rw [md_lp e, ylen_lp e]; decide
theorem place_d (y m d : Int) : placeZ y m d = placeZ y m 1 + d - 1 := by
  unfold placeZ
  omega
theorem md_r (y : Int) : ∀ k : Nat, 28 * (k : Int) ≤ mdK y k ∧ mdK y k ≤ 31 * (k : Int)
  | 0 => by unfold mdK; omega
  | k + 1 => by
    have h1 := md_r y k
    have h2 := mlen_r y ((k : Int) + 1)
    unfold mdK
    omega
def befZ (y : Int) : Int := 365 * y + (y - 1) / 4 - (y - 1) / 100 + (y - 1) / 400
theorem bef_d {y : Int} (p : Int) : befZ y + p = dnumZ y p + 584387 := by
  unfold befZ dnumZ
  omega

def sp_X10_isIn : hS := fun as M sz K => ∃ (v lo hi : Int), as = [.int (iZ v), .int (iZ lo), .int (iZ hi)] ∧ inR v ∧ inR lo ∧ inR hi ∧ K (.inl (some (.int (iZ (bZ (lo ≤ v ∧ v ≤ hi)))))) M sz
theorem s_X10_isIn {l : Launch} {g : hG} (hst : l.stackTraces = false) : Ctr l g mX10_isIn sp_X10_isIn := by
  refine Ctr.mk9 hst (by decide) ?_ ?_
  · rintro as M sz K ⟨v, lo, hi, rfl, h1, h2, h3, hK⟩
    exact ⟨by simp [mX10_isIn], cat_ok rfl⟩
  rintro X as M sz K hX rfl rfl hR ⟨v, lo, hi, rfl, h1, h2, h3, hK⟩
  show G X 0 [.int (iZ v), .int (iZ lo), .int (iZ hi)] [] M sz 0 0
  refine g_iload hX dX10_isIn_0 rfl ?_
  refine g_iload hX dX10_isIn_1 rfl ?_
  refine z_icmp_lt hX dX10_isIn_2 (by assumption) (by assumption) (fun c2 => ?_) (fun c2 => ?_)
  · refine g_const hX dX10_isIn_14 ?_
    refine g_iret hX hR dX10_isIn_15 rfl (by first | rfl | exact nar_b _ | exact nar_01 (by omega)) (by decide) (by decide) ?_
    first | exact kint hK (bZ_t (by omega)) | exact kint hK (bZ_f (by omega))
  · refine g_iload hX dX10_isIn_5 rfl ?_
    refine g_iload hX dX10_isIn_6 rfl ?_
    refine z_icmp_gt hX dX10_isIn_7 (by assumption) (by assumption) (fun c7 => ?_) (fun c7 => ?_)
    · refine g_const hX dX10_isIn_14 ?_
      refine g_iret hX hR dX10_isIn_15 rfl (by first | rfl | exact nar_b _ | exact nar_01 (by omega)) (by decide) (by decide) ?_
      first | exact kint hK (bZ_t (by omega)) | exact kint hK (bZ_f (by omega))
    · refine g_const hX dX10_isIn_10 ?_
      refine g_goto hX dX10_isIn_11 ?_
      refine g_iret hX hR dX10_isIn_15 rfl (by first | rfl | exact nar_b _ | exact nar_01 (by omega)) (by decide) (by decide) ?_
      first | exact kint hK (bZ_t (by omega)) | exact kint hK (bZ_f (by omega))

def sp_X10_isDeath : hS := fun as M sz K => ∃ (v : Int), as = [.int (iZ v)] ∧ inR v ∧ K (.inl (some (.int (iZ (bZ (1500 ≤ v ∧ v ≤ 2399)))))) M sz
theorem s_X10_isDeath {l : Launch} {g : hG} (hst : l.stackTraces = false) : Ctr l g mX10_isDeath sp_X10_isDeath := by
  refine Ctr.mk9 hst (by decide) ?_ ?_
  · rintro as M sz K ⟨v, rfl, hv, hK⟩
    exact ⟨by simp [mX10_isDeath], cat_ok rfl⟩
  rintro X as M sz K hX rfl rfl hR ⟨v, rfl, hv, hK⟩
  show G X 0 [.int (iZ v)] [] M sz 0 0
  refine g_iload hX dX10_isDeath_0 rfl ?_
  refine g_const hX dX10_isDeath_1 ?_
  refine g_const hX dX10_isDeath_4 ?_
  refine g_cS3 (c2 := 0) (s2 := 0) hX (s_X10_isIn hst) dX10_isDeath_7 (by first | exact Nat.le_of_ble_eq_true rfl | simp [cat_rf, Value.category]) ⟨rfl, rfl, by decide, by decide⟩ ?_
  refine ⟨_, _, _, rfl, (by first | assumption | (constructor <;> omega)), (by first | assumption | (constructor <;> omega)), (by first | assumption | (constructor <;> omega)), Kc_i ?_⟩
  refine g_iret hX hR dX10_isDeath_10 rfl (by first | rfl | exact nar_b _ | exact nar_01 (by omega)) (by decide) (by decide) ?_
  exact hK

def sp_X10_isYear : hS := fun as M sz K => ∃ (v : Int), as = [.int (iZ v)] ∧ inR v ∧ K (.inl (some (.int (iZ (bZ (1600 ≤ v ∧ v ≤ 2399)))))) M sz
theorem s_X10_isYear {l : Launch} {g : hG} (hst : l.stackTraces = false) : Ctr l g mX10_isYear sp_X10_isYear := by
  refine Ctr.mk9 hst (by decide) ?_ ?_
  · rintro as M sz K ⟨v, rfl, hv, hK⟩
    exact ⟨by simp [mX10_isYear], cat_ok rfl⟩
  rintro X as M sz K hX rfl rfl hR ⟨v, rfl, hv, hK⟩
  show G X 0 [.int (iZ v)] [] M sz 0 0
  refine g_iload hX dX10_isYear_0 rfl ?_
  refine g_const hX dX10_isYear_1 ?_
  refine g_const hX dX10_isYear_4 ?_
  refine g_cS3 (c2 := 0) (s2 := 0) hX (s_X10_isIn hst) dX10_isYear_7 (by first | exact Nat.le_of_ble_eq_true rfl | simp [cat_rf, Value.category]) ⟨rfl, rfl, by decide, by decide⟩ ?_
  refine ⟨_, _, _, rfl, (by first | assumption | (constructor <;> omega)), (by first | assumption | (constructor <;> omega)), (by first | assumption | (constructor <;> omega)), Kc_i ?_⟩
  refine g_iret hX hR dX10_isYear_10 rfl (by first | rfl | exact nar_b _ | exact nar_01 (by omega)) (by decide) (by decide) ?_
  exact hK

def sp_X10_isRank : hS := fun as M sz K => ∃ (v : Int), as = [.int (iZ v)] ∧ inR v ∧ K (.inl (some (.int (iZ (bZ (1 ≤ v ∧ v ≤ 9)))))) M sz
theorem s_X10_isRank {l : Launch} {g : hG} (hst : l.stackTraces = false) : Ctr l g mX10_isRank sp_X10_isRank := by
  refine Ctr.mk9 hst (by decide) ?_ ?_
  · rintro as M sz K ⟨v, rfl, hv, hK⟩
    exact ⟨by simp [mX10_isRank], cat_ok rfl⟩
  rintro X as M sz K hX rfl rfl hR ⟨v, rfl, hv, hK⟩
  show G X 0 [.int (iZ v)] [] M sz 0 0
  refine g_iload hX dX10_isRank_0 rfl ?_
  refine g_const hX dX10_isRank_1 ?_
  refine g_const hX dX10_isRank_2 ?_
  refine g_cS3 (c2 := 0) (s2 := 0) hX (s_X10_isIn hst) dX10_isRank_4 (by first | exact Nat.le_of_ble_eq_true rfl | simp [cat_rf, Value.category]) ⟨rfl, rfl, by decide, by decide⟩ ?_
  refine ⟨_, _, _, rfl, (by first | assumption | (constructor <;> omega)), (by first | assumption | (constructor <;> omega)), (by first | assumption | (constructor <;> omega)), Kc_i ?_⟩
  refine g_iret hX hR dX10_isRank_7 rfl (by first | rfl | exact nar_b _ | exact nar_01 (by omega)) (by decide) (by decide) ?_
  exact hK

def sp_X10_isLine : hS := fun as M sz K => ∃ (m s : Int), as = [.int (iZ m), .int (iZ s)] ∧ inR m ∧ inR s ∧ K (.inl (some (.int (iZ (bZ ((1 ≤ m ∧ m ≤ 12) ∧ 0 ≤ s ∧ s ≤ 2 ^ m.toNat - 1)))))) M sz
theorem s_X10_isLine {l : Launch} {g : hG} (hst : l.stackTraces = false) : Ctr l g mX10_isLine sp_X10_isLine := by
  refine Ctr.mk9 hst (by decide) ?_ ?_
  · rintro as M sz K ⟨m, s, rfl, hm, hs, hK⟩
    exact ⟨by simp [mX10_isLine], cat_ok rfl⟩
  rintro X as M sz K hX rfl rfl hR ⟨m, s, rfl, hm, hs, hK⟩
  show G X 0 [.int (iZ m), .int (iZ s)] [] M sz 0 0
  refine g_iload hX dX10_isLine_0 rfl ?_
  refine g_const hX dX10_isLine_1 ?_
  refine g_const hX dX10_isLine_2 ?_
  refine g_cS3 (c2 := 0) (s2 := 0) hX (s_X10_isIn hst) dX10_isLine_4 (by first | exact Nat.le_of_ble_eq_true rfl | simp [cat_rf, Value.category]) ⟨rfl, rfl, by decide, by decide⟩ ?_
  refine ⟨_, _, _, rfl, (by first | assumption | (constructor <;> omega)), (by first | assumption | (constructor <;> omega)), (by first | assumption | (constructor <;> omega)), Kc_i ?_⟩
  refine z_ifb_eq hX dX10_isLine_7 (fun c7 => ?_) (fun c7 => ?_)
  · refine g_const hX dX10_isLine_27 ?_
    refine g_iret hX hR dX10_isLine_28 rfl (by first | rfl | exact nar_b _ | exact nar_01 (by omega)) (by decide) (by decide) ?_
    exact kint hK (bZ_f (fun h9 => c7 h9.1))
  · refine g_iload hX dX10_isLine_10 rfl ?_
    refine g_const hX dX10_isLine_11 ?_
    refine g_const hX dX10_isLine_12 ?_
    refine g_iload hX dX10_isLine_13 rfl ?_
    have hmm : ((m.toNat : Nat) : Int) = m := by omega
    have hpw := pow_r m.toNat (by omega)
    refine g_ishl hX dX10_isLine_14 ?_
    rw [show iZ 1 <<< (iZ m &&& 31) = iZ (2 ^ m.toNat) by rw [← hmm]; exact z_shl1 m.toNat (by omega)]
    refine g_const hX dX10_isLine_15 ?_
    refine z_isub hX dX10_isLine_16 ?_
    refine g_cS3 (c2 := 0) (s2 := 0) hX (s_X10_isIn hst) dX10_isLine_17 (by first | exact Nat.le_of_ble_eq_true rfl | simp [cat_rf, Value.category]) ⟨rfl, rfl, by decide, by decide⟩ ?_
    refine ⟨_, _, _, rfl, (by assumption), (by constructor <;> omega), (by constructor <;> omega), Kc_i ?_⟩
    refine z_ifb_eq hX dX10_isLine_20 (fun c20 => ?_) (fun c20 => ?_)
    · refine g_const hX dX10_isLine_27 ?_
      refine g_iret hX hR dX10_isLine_28 rfl (by first | rfl | exact nar_b _ | exact nar_01 (by omega)) (by decide) (by decide) ?_
      exact kint hK (bZ_f (fun h9 => c20 h9.2))
    · refine g_const hX dX10_isLine_23 ?_
      refine g_goto hX dX10_isLine_24 ?_
      refine g_iret hX hR dX10_isLine_28 rfl (by first | rfl | exact nar_b _ | exact nar_01 (by omega)) (by decide) (by decide) ?_
      exact kint hK (bZ_t ⟨c7, c20⟩)

def sp_X10_isLong : hS := fun as M sz K => ∃ y : Int, as = [.int (iZ y)] ∧ (0 ≤ y ∧ y ≤ 5000) ∧ K (.inl (some (.int (iZ (bZ (leapZ y)))))) M sz
theorem s_X10_isLong {l : Launch} {g : hG} (hst : l.stackTraces = false) : Ctr l g mX10_isLong sp_X10_isLong := by
  refine Ctr.mk9 hst (by decide) ?_ ?_
  · rintro as M sz K ⟨y, rfl, hy, hK⟩
    exact ⟨by simp [mX10_isLong], cat_ok rfl⟩
  rintro X as M sz K hX rfl rfl hR ⟨y, rfl, hy, hK⟩
  show G X 0 [.int (iZ y)] [] M sz 0 0
  refine g_iload hX dX10_isLong_0 rfl ?_
  refine g_const hX dX10_isLong_1 ?_
  refine z_irem hX dX10_isLong_2 (by constructor <;> omega) (by constructor <;> omega) (by omega) (by omega) ?_
  refine z_if_ne hX dX10_isLong_3 (by constructor <;> omega) (fun c3 => ?_) (fun c3 => ?_)
  · refine g_iload hX dX10_isLong_13 rfl ?_
    refine g_const hX dX10_isLong_14 ?_
    refine z_irem hX dX10_isLong_17 (by constructor <;> omega) (by constructor <;> omega) (by omega) (by omega) ?_
    refine z_if_ne hX dX10_isLong_18 (by constructor <;> omega) (fun c18 => ?_) (fun c18 => ?_)
    · refine g_const hX dX10_isLong_25 ?_
      refine g_iret hX hR dX10_isLong_26 rfl (by first | rfl | exact nar_b _ | exact nar_01 (by omega)) (by decide) (by decide) ?_
      exact kint hK (by unfold bZ; split <;> omega)
    · refine g_const hX dX10_isLong_21 ?_
      refine g_goto hX dX10_isLong_22 ?_
      refine g_iret hX hR dX10_isLong_26 rfl (by first | rfl | exact nar_b _ | exact nar_01 (by omega)) (by decide) (by decide) ?_
      exact kint hK (by unfold bZ; split <;> omega)
  · refine g_iload hX dX10_isLong_6 rfl ?_
    refine g_const hX dX10_isLong_7 ?_
    refine z_irem hX dX10_isLong_9 (by constructor <;> omega) (by constructor <;> omega) (by omega) (by omega) ?_
    refine z_if_ne hX dX10_isLong_10 (by constructor <;> omega) (fun c10 => ?_) (fun c10 => ?_)
    · refine g_const hX dX10_isLong_21 ?_
      refine g_goto hX dX10_isLong_22 ?_
      refine g_iret hX hR dX10_isLong_26 rfl (by first | rfl | exact nar_b _ | exact nar_01 (by omega)) (by decide) (by decide) ?_
      exact kint hK (by unfold bZ; split <;> omega)
    · refine g_iload hX dX10_isLong_13 rfl ?_
      refine g_const hX dX10_isLong_14 ?_
      refine z_irem hX dX10_isLong_17 (by constructor <;> omega) (by constructor <;> omega) (by omega) (by omega) ?_
      refine z_if_ne hX dX10_isLong_18 (by constructor <;> omega) (fun c18 => ?_) (fun c18 => ?_)
      · refine g_const hX dX10_isLong_25 ?_
        refine g_iret hX hR dX10_isLong_26 rfl (by first | rfl | exact nar_b _ | exact nar_01 (by omega)) (by decide) (by decide) ?_
        exact kint hK (by unfold bZ; split <;> omega)
      · refine g_const hX dX10_isLong_21 ?_
        refine g_goto hX dX10_isLong_22 ?_
        refine g_iret hX hR dX10_isLong_26 rfl (by first | rfl | exact nar_b _ | exact nar_01 (by omega)) (by decide) (by decide) ?_
        exact kint hK (by unfold bZ; split <;> omega)

def sp_X10_daysOf : hS := fun as M sz K => ∃ y m : Int, as = [.int (iZ y), .int (iZ m)] ∧ (0 ≤ y ∧ y ≤ 5000) ∧ inR m ∧ K (.inl (some (.int (iZ (mlenZ y m))))) M sz
theorem s_X10_daysOf {l : Launch} {g : hG} (hst : l.stackTraces = false) : Ctr l g mX10_daysOf sp_X10_daysOf := by
  refine Ctr.mk9 hst (by decide) ?_ ?_
  · rintro as M sz K ⟨y, m, rfl, hy, hm, hK⟩
    exact ⟨by simp [mX10_daysOf], cat_ok rfl⟩
  rintro X as M sz K hX rfl rfl hR ⟨y, m, rfl, hy, hm, hK⟩
  show G X 0 [.int (iZ y), .int (iZ m)] [] M sz 0 0
  refine g_iload hX dX10_daysOf_0 rfl ?_
  refine g_const hX dX10_daysOf_1 ?_
  refine z_icmp_ne hX dX10_daysOf_2 (by first | assumption | (constructor <;> omega)) (by first | assumption | (constructor <;> omega)) (fun c2 => ?_) (fun c2 => ?_)
  · refine g_iload hX dX10_daysOf_22 rfl ?_
    refine g_const hX dX10_daysOf_23 ?_
    refine z_icmp_eq hX dX10_daysOf_24 (by first | assumption | (constructor <;> omega)) (by first | assumption | (constructor <;> omega)) (fun c24 => ?_) (fun c24 => ?_)
    · refine g_const hX dX10_daysOf_45 ?_
      refine g_goto hX dX10_daysOf_47 ?_
      refine g_iret hX hR dX10_daysOf_52 rfl rfl (by decide) (by decide) ?_
      exact kint hK (by unfold mlenZ; simp_all <;> omega)
    · refine g_iload hX dX10_daysOf_27 rfl ?_
      refine g_const hX dX10_daysOf_28 ?_
      refine z_icmp_eq hX dX10_daysOf_30 (by first | assumption | (constructor <;> omega)) (by first | assumption | (constructor <;> omega)) (fun c30 => ?_) (fun c30 => ?_)
      · refine g_const hX dX10_daysOf_45 ?_
        refine g_goto hX dX10_daysOf_47 ?_
        refine g_iret hX hR dX10_daysOf_52 rfl rfl (by decide) (by decide) ?_
        exact kint hK (by unfold mlenZ; simp_all <;> omega)
      · refine g_iload hX dX10_daysOf_33 rfl ?_
        refine g_const hX dX10_daysOf_34 ?_
        refine z_icmp_eq hX dX10_daysOf_36 (by first | assumption | (constructor <;> omega)) (by first | assumption | (constructor <;> omega)) (fun c36 => ?_) (fun c36 => ?_)
        · refine g_const hX dX10_daysOf_45 ?_
          refine g_goto hX dX10_daysOf_47 ?_
          refine g_iret hX hR dX10_daysOf_52 rfl rfl (by decide) (by decide) ?_
          exact kint hK (by unfold mlenZ; simp_all <;> omega)
        · refine g_iload hX dX10_daysOf_39 rfl ?_
          refine g_const hX dX10_daysOf_40 ?_
          refine z_icmp_ne hX dX10_daysOf_42 (by first | assumption | (constructor <;> omega)) (by first | assumption | (constructor <;> omega)) (fun c42 => ?_) (fun c42 => ?_)
          · refine g_const hX dX10_daysOf_50 ?_
            refine g_iret hX hR dX10_daysOf_52 rfl rfl (by decide) (by decide) ?_
            exact kint hK (by unfold mlenZ; simp_all <;> omega)
          · refine g_const hX dX10_daysOf_45 ?_
            refine g_goto hX dX10_daysOf_47 ?_
            refine g_iret hX hR dX10_daysOf_52 rfl rfl (by decide) (by decide) ?_
            exact kint hK (by unfold mlenZ; simp_all <;> omega)
  · refine g_iload hX dX10_daysOf_5 rfl ?_
    refine g_cS1 (c2 := 0) (s2 := 0) hX (s_X10_isLong hst) dX10_daysOf_6 (by first | exact Nat.le_of_ble_eq_true rfl | simp [cat_rf, Value.category]) ⟨rfl, rfl, by decide, by decide⟩ ?_
    refine ⟨_, rfl, by omega, Kc_i ?_⟩
    refine z_ifb_eq hX dX10_daysOf_9 (fun c9 => ?_) (fun c9 => ?_)
    · refine g_const hX dX10_daysOf_17 ?_
      refine g_goto hX dX10_daysOf_19 ?_
      refine g_iret hX hR dX10_daysOf_52 rfl rfl (by decide) (by decide) ?_
      exact kint hK (by unfold mlenZ; simp_all <;> omega)
    · refine g_const hX dX10_daysOf_12 ?_
      refine g_goto hX dX10_daysOf_14 ?_
      refine g_iret hX hR dX10_daysOf_52 rfl rfl (by decide) (by decide) ?_
      exact kint hK (by unfold mlenZ; simp_all <;> omega)

def sp_X10_lengthOf : hS := fun as M sz K => ∃ y : Int, as = [.int (iZ y)] ∧ (0 ≤ y ∧ y ≤ 5000) ∧ K (.inl (some (.int (iZ (ylenZ y))))) M sz
theorem s_X10_lengthOf {l : Launch} {g : hG} (hst : l.stackTraces = false) : Ctr l g mX10_lengthOf sp_X10_lengthOf := by
  refine Ctr.mk9 hst (by decide) ?_ ?_
  · rintro as M sz K ⟨y, rfl, hy, hK⟩
    exact ⟨by simp [mX10_lengthOf], cat_ok rfl⟩
  rintro X as M sz K hX rfl rfl hR ⟨y, rfl, hy, hK⟩
  show G X 0 [.int (iZ y)] [] M sz 0 0
  refine g_iload hX dX10_lengthOf_0 rfl ?_
  refine g_cS1 (c2 := 0) (s2 := 0) hX (s_X10_isLong hst) dX10_lengthOf_1 (by first | exact Nat.le_of_ble_eq_true rfl | simp [cat_rf, Value.category]) ⟨rfl, rfl, by decide, by decide⟩ ?_
  refine ⟨_, rfl, by omega, Kc_i ?_⟩
  refine z_ifb_eq hX dX10_lengthOf_4 (fun c4 => ?_) (fun c4 => ?_)
  · refine g_const hX dX10_lengthOf_13 ?_
    refine g_iret hX hR dX10_lengthOf_16 rfl rfl (by decide) (by decide) ?_
    exact kint hK (by unfold ylenZ; split <;> omega)
  · refine g_const hX dX10_lengthOf_7 ?_
    refine g_goto hX dX10_lengthOf_10 ?_
    refine g_iret hX hR dX10_lengthOf_16 rfl rfl (by decide) (by decide) ?_
    exact kint hK (by unfold ylenZ; split <;> omega)

def sp_X10_isDay : hS := fun as M sz K => ∃ (y m d : Int), as = [.int (iZ y), .int (iZ m), .int (iZ d)] ∧ inR y ∧ inR m ∧ inR d ∧ K (.inl (some (.int (iZ (bZ (dayOK y m d)))))) M sz
theorem s_X10_isDay {l : Launch} {g : hG} (hst : l.stackTraces = false) : Ctr l g mX10_isDay sp_X10_isDay := by
  refine Ctr.mk9 hst (by decide) ?_ ?_
  · rintro as M sz K ⟨y, m, d, rfl, hy, hm, hd, hK⟩
    exact ⟨by simp [mX10_isDay], cat_ok rfl⟩
  rintro X as M sz K hX rfl rfl hR ⟨y, m, d, rfl, hy, hm, hd, hK⟩
  show G X 0 [.int (iZ y), .int (iZ m), .int (iZ d)] [] M sz 0 0
  refine g_iload hX dX10_isDay_0 rfl ?_
  refine g_cS1 (c2 := 0) (s2 := 0) hX (s_X10_isYear hst) dX10_isDay_1 (by first | exact Nat.le_of_ble_eq_true rfl | simp [cat_rf, Value.category]) ⟨rfl, rfl, by decide, by decide⟩ ?_
  refine ⟨_, rfl, hy, Kc_i ?_⟩
  refine z_ifb_eq hX dX10_isDay_4 (fun c4 => ?_) (fun c4 => ?_)
  · refine g_const hX dX10_isDay_34 ?_
    refine g_iret hX hR dX10_isDay_35 rfl (by first | rfl | exact nar_b _ | exact nar_01 (by omega)) (by decide) (by decide) ?_
    exact kint hK (bZ_f (fun h9 => c4 h9.1))
  · refine g_iload hX dX10_isDay_7 rfl ?_
    refine g_const hX dX10_isDay_8 ?_
    refine g_const hX dX10_isDay_9 ?_
    refine g_cS3 (c2 := 0) (s2 := 0) hX (s_X10_isIn hst) dX10_isDay_11 (by first | exact Nat.le_of_ble_eq_true rfl | simp [cat_rf, Value.category]) ⟨rfl, rfl, by decide, by decide⟩ ?_
    refine ⟨_, _, _, rfl, (by first | assumption | (constructor <;> omega)), (by first | assumption | (constructor <;> omega)), (by first | assumption | (constructor <;> omega)), Kc_i ?_⟩
    refine z_ifb_eq hX dX10_isDay_14 (fun c14 => ?_) (fun c14 => ?_)
    · refine g_const hX dX10_isDay_34 ?_
      refine g_iret hX hR dX10_isDay_35 rfl (by first | rfl | exact nar_b _ | exact nar_01 (by omega)) (by decide) (by decide) ?_
      exact kint hK (bZ_f (fun h9 => c14 h9.2.1))
    · refine g_iload hX dX10_isDay_17 rfl ?_
      refine g_const hX dX10_isDay_18 ?_
      refine g_iload hX dX10_isDay_19 rfl ?_
      refine g_iload hX dX10_isDay_20 rfl ?_
      refine g_cS2 (c2 := 0) (s2 := 0) hX (s_X10_daysOf hst) dX10_isDay_21 (by first | exact Nat.le_of_ble_eq_true rfl | simp [cat_rf, Value.category]) ⟨rfl, rfl, by decide, by decide⟩ ?_
      refine ⟨_, _, rfl, by omega, hm, Kc_i ?_⟩
      have hml := mlen_r y m
      refine g_cS3 (c2 := 0) (s2 := 0) hX (s_X10_isIn hst) dX10_isDay_24 (by first | exact Nat.le_of_ble_eq_true rfl | simp [cat_rf, Value.category]) ⟨rfl, rfl, by decide, by decide⟩ ?_
      refine ⟨_, _, _, rfl, (by first | assumption | (constructor <;> omega)), (by first | assumption | (constructor <;> omega)), (by first | assumption | (constructor <;> omega)), Kc_i ?_⟩
      refine z_ifb_eq hX dX10_isDay_27 (fun c27 => ?_) (fun c27 => ?_)
      · refine g_const hX dX10_isDay_34 ?_
        refine g_iret hX hR dX10_isDay_35 rfl (by first | rfl | exact nar_b _ | exact nar_01 (by omega)) (by decide) (by decide) ?_
        exact kint hK (bZ_f (fun h9 => c27 h9.2.2))
      · refine g_const hX dX10_isDay_30 ?_
        refine g_goto hX dX10_isDay_31 ?_
        refine g_iret hX hR dX10_isDay_35 rfl (by first | rfl | exact nar_b _ | exact nar_01 (by omega)) (by decide) (by decide) ?_
        exact kint hK (bZ_t ⟨c4, c14, c27⟩)

def sp_X10_placeOf : hS := fun as M sz K => ∃ y m d : Int, as = [.int (iZ y), .int (iZ m), .int (iZ d)] ∧ (0 ≤ y ∧ y ≤ 5000) ∧ (1 ≤ m ∧ m ≤ 12) ∧ (-1000 ≤ d ∧ d ≤ 1000) ∧ K (.inl (some (.int (iZ (placeZ y m d))))) M sz
theorem s_X10_placeOf {l : Launch} {g : hG} (hst : l.stackTraces = false) : Ctr l g mX10_placeOf sp_X10_placeOf := by
  refine Ctr.mk9 hst (by decide) ?_ ?_
  · rintro as M sz K ⟨y, m, d, rfl, hy, hm, hd, hK⟩
    exact ⟨by simp [mX10_placeOf], cat_ok rfl⟩
  rintro X as M sz K hX rfl rfl hR ⟨y, m, d, rfl, hy, hm, hd, hK⟩
  show G X 0 [.int (iZ y), .int (iZ m), .int (iZ d), U9, U9] [] M sz 0 0
  have loop : ∀ (k9 k : Nat), (k : Int) + 1 + k9 = m → G X 7 [.int (iZ y), .int (iZ m), .int (iZ d), .int (iZ (d - 1 + mdK y k)), .int (iZ ((k : Int) + 1))] [] M sz 0 0 := by
    intro k9
    induction k9 with
    | zero =>
      intro k hk
      have hmd := md_r y k
      refine g_iload hX dX10_placeOf_7 rfl ?_
      refine g_iload hX dX10_placeOf_9 rfl ?_
      refine z_icmp_ge hX dX10_placeOf_10 (by constructor <;> omega) (by constructor <;> omega) (fun c10 => ?_) (fun c10 => ?_)
      · refine g_iload hX dX10_placeOf_28 rfl ?_
        refine g_iret hX hR dX10_placeOf_29 rfl rfl (by decide) (by decide) ?_
        exact kint hK (by rw [place_d, md_p (by omega), show (k : Int) + 1 = m by omega]; omega)
      · exfalso; omega
    | succ k9 ih =>
      intro k hk
      have hmd := md_r y k
      refine g_iload hX dX10_placeOf_7 rfl ?_
      refine g_iload hX dX10_placeOf_9 rfl ?_
      refine z_icmp_ge hX dX10_placeOf_10 (by constructor <;> omega) (by constructor <;> omega) (fun c10 => ?_) (fun c10 => ?_)
      · exfalso; omega
      · refine g_iload hX dX10_placeOf_13 rfl ?_
        refine g_iload hX dX10_placeOf_14 rfl ?_
        refine g_iload hX dX10_placeOf_15 rfl ?_
        refine g_cS2 (c2 := 0) (s2 := 0) hX (s_X10_daysOf hst) dX10_placeOf_17 (by first | exact Nat.le_of_ble_eq_true rfl | simp [cat_rf, Value.category]) ⟨rfl, rfl, by decide, by decide⟩ ?_
        refine ⟨_, _, rfl, by omega, (by constructor <;> omega), Kc_i ?_⟩
        have hml := mlen_r y ((k : Int) + 1)
        refine z_iadd hX dX10_placeOf_20 ?_
        refine g_istore hX dX10_placeOf_21 ?_
        dsimp only [List.set]
        refine z_iinc hX dX10_placeOf_22 rfl ?_
        dsimp only [List.set]
        refine g_goto hX dX10_placeOf_25 ?_
        refine g_eqL (lv' := [.int (iZ y), .int (iZ m), .int (iZ d), .int (iZ (d - 1 + mdK y (k + 1))), .int (iZ (((k + 1 : Nat) : Int) + 1))]) (by rw [show mdK y (k + 1) = mdK y k + mlenZ y ((k : Int) + 1) from rfl, Int.add_assoc]; rfl) rfl ?_
        exact ih (k + 1) (by omega)
  refine g_iload hX dX10_placeOf_0 rfl ?_
  refine g_const hX dX10_placeOf_1 ?_
  refine z_isub hX dX10_placeOf_2 ?_
  refine g_istore hX dX10_placeOf_3 ?_
  dsimp only [List.set]
  refine g_const hX dX10_placeOf_4 ?_
  refine g_istore hX dX10_placeOf_5 ?_
  dsimp only [List.set]
  have h9 := loop (m - 1).toNat 0 (by omega)
  rw [show d - 1 + mdK y 0 = d - 1 from Int.add_zero _] at h9
  exact h9

def sp_X10_dateOf : hS := fun as M sz K => ∃ y p : Int, as = [.int (iZ y), .int (iZ p)] ∧ (1600 ≤ y ∧ y ≤ 2399) ∧ (0 ≤ p ∧ p < ylenZ y) ∧ K (.inl (some (.int (iZ (dateZ y p))))) M sz
theorem s_X10_dateOf {l : Launch} {g : hG} (hst : l.stackTraces = false) : Ctr l g mX10_dateOf sp_X10_dateOf := by
  refine Ctr.mk9 hst (by decide) ?_ ?_
  · rintro as M sz K ⟨y, p, rfl, hy, hp, hK⟩
    exact ⟨by simp [mX10_dateOf], cat_ok rfl⟩
  rintro X as M sz K hX rfl rfl hR ⟨y, p, rfl, hy, hp, hK⟩
  show G X 0 [.int (iZ y), .int (iZ p), U9, U9] [] M sz 0 0
  have hyl := ylen_r y
  have loop : ∀ (k9 k : Nat), k + k9 = 11 → 0 ≤ p - mdK y k → G X 4 [.int (iZ y), .int (iZ p), .int (iZ (p - mdK y k)), .int (iZ ((k : Int) + 1))] [] M sz 0 0 := by
    intro k9
    induction k9 with
    | zero =>
      intro k hk hpk
      have hmd := md_r y k
      refine g_iload hX dX10_dateOf_4 rfl ?_
      refine g_iload hX dX10_dateOf_5 rfl ?_
      refine g_iload hX dX10_dateOf_6 rfl ?_
      refine g_cS2 (c2 := 0) (s2 := 0) hX (s_X10_daysOf hst) dX10_dateOf_7 (by first | exact Nat.le_of_ble_eq_true rfl | simp [cat_rf, Value.category]) ⟨rfl, rfl, by decide, by decide⟩ ?_
      refine ⟨_, _, rfl, by omega, (by constructor <;> omega), Kc_i ?_⟩
      have hml := mlen_r y ((k : Int) + 1)
      refine z_icmp_lt hX dX10_dateOf_10 (by constructor <;> omega) (by constructor <;> omega) (fun c10 => ?_) (fun c10 => ?_)
      · refine g_const hX dX10_dateOf_27 ?_
        refine g_iload hX dX10_dateOf_29 rfl ?_
        refine z_imul hX dX10_dateOf_30 ?_
        refine g_iload hX dX10_dateOf_31 rfl ?_
        refine z_iadd hX dX10_dateOf_32 ?_
        refine g_const hX dX10_dateOf_33 ?_
        refine z_iadd hX dX10_dateOf_34 ?_
        refine g_iret hX hR dX10_dateOf_35 rfl rfl (by decide) (by decide) ?_
        have hlt : p - mdK y k < mlenZ y ((k : Int) + 1) := by omega
        have hpl : placeZ y ((k : Int) + 1) (p - mdK y k + 1) = p := by rw [place_d, ← md_p (show k < 12 by omega)]; omega
        have hcd := (cal_d (y := y) (m := (k : Int) + 1) (d := p - mdK y k + 1) (by omega) (by omega)).1
        rw [hpl] at hcd
        exact kint hK (by omega)
      · exfalso
        obtain rfl : k = 11 := by omega
        have e12 : mdK y 12 = mdK y 11 + mlenZ y (((11 : Nat) : Int) + 1) := rfl
        have := md_12 y
        omega
    | succ k9 ih =>
      intro k hk hpk
      have hmd := md_r y k
      refine g_iload hX dX10_dateOf_4 rfl ?_
      refine g_iload hX dX10_dateOf_5 rfl ?_
      refine g_iload hX dX10_dateOf_6 rfl ?_
      refine g_cS2 (c2 := 0) (s2 := 0) hX (s_X10_daysOf hst) dX10_dateOf_7 (by first | exact Nat.le_of_ble_eq_true rfl | simp [cat_rf, Value.category]) ⟨rfl, rfl, by decide, by decide⟩ ?_
      refine ⟨_, _, rfl, by omega, (by constructor <;> omega), Kc_i ?_⟩
      have hml := mlen_r y ((k : Int) + 1)
      refine z_icmp_lt hX dX10_dateOf_10 (by constructor <;> omega) (by constructor <;> omega) (fun c10 => ?_) (fun c10 => ?_)
      · refine g_const hX dX10_dateOf_27 ?_
        refine g_iload hX dX10_dateOf_29 rfl ?_
        refine z_imul hX dX10_dateOf_30 ?_
        refine g_iload hX dX10_dateOf_31 rfl ?_
        refine z_iadd hX dX10_dateOf_32 ?_
        refine g_const hX dX10_dateOf_33 ?_
        refine z_iadd hX dX10_dateOf_34 ?_
        refine g_iret hX hR dX10_dateOf_35 rfl rfl (by decide) (by decide) ?_
        have hlt : p - mdK y k < mlenZ y ((k : Int) + 1) := by omega
        have hpl : placeZ y ((k : Int) + 1) (p - mdK y k + 1) = p := by rw [place_d, ← md_p (show k < 12 by omega)]; omega
        have hcd := (cal_d (y := y) (m := (k : Int) + 1) (d := p - mdK y k + 1) (by omega) (by omega)).1
        rw [hpl] at hcd
        exact kint hK (by omega)
      · refine g_iload hX dX10_dateOf_13 rfl ?_
        refine g_iload hX dX10_dateOf_14 rfl ?_
        refine g_iload hX dX10_dateOf_15 rfl ?_
        refine g_cS2 (c2 := 0) (s2 := 0) hX (s_X10_daysOf hst) dX10_dateOf_16 (by first | exact Nat.le_of_ble_eq_true rfl | simp [cat_rf, Value.category]) ⟨rfl, rfl, by decide, by decide⟩ ?_
        refine ⟨_, _, rfl, by omega, (by constructor <;> omega), Kc_i ?_⟩
        have hml := mlen_r y ((k : Int) + 1)
        refine z_isub hX dX10_dateOf_19 ?_
        refine g_istore hX dX10_dateOf_20 ?_
        dsimp only [List.set]
        refine z_iinc hX dX10_dateOf_21 rfl ?_
        dsimp only [List.set]
        refine g_goto hX dX10_dateOf_24 ?_
        have hm1 : mdK y (k + 1) = mdK y k + mlenZ y ((k : Int) + 1) := rfl
        have hk11 : k < 11 := by
          by_cases e : k = 11
          · exfalso
            have := md_12 y
            rw [e] at hm1
            have e12 : mdK y 12 = mdK y 11 + mlenZ y (((11 : Nat) : Int) + 1) := rfl
            rw [e] at c10
            omega
          · omega
        refine g_eqL (lv' := [.int (iZ y), .int (iZ p), .int (iZ (p - mdK y (k + 1))), .int (iZ (((k + 1 : Nat) : Int) + 1))]) (by rw [hm1, show p - (mdK y k + mlenZ y ((k : Int) + 1)) = p - mdK y k - mlenZ y ((k : Int) + 1) by omega]; rfl) rfl ?_
        exact ih (k + 1) (by omega) (by omega)
  refine g_iload hX dX10_dateOf_0 rfl ?_
  refine g_istore hX dX10_dateOf_1 ?_
  dsimp only [List.set]
  refine g_const hX dX10_dateOf_2 ?_
  refine g_istore hX dX10_dateOf_3 ?_
  dsimp only [List.set]
  have h9 := loop 11 0 (by omega) (by have e0 : mdK y 0 = 0 := rfl; omega)
  rw [show p - mdK y 0 = p from Int.sub_zero _] at h9
  exact h9

def sp_X10_before : hS := fun as M sz K => ∃ y : Int, as = [.int (iZ y)] ∧ (1 ≤ y ∧ y ≤ 5000) ∧ K (.inl (some (.int (iZ (befZ y))))) M sz
theorem s_X10_before {l : Launch} {g : hG} (hst : l.stackTraces = false) : Ctr l g mX10_before sp_X10_before := by
  refine Ctr.mk9 hst (by decide) ?_ ?_
  · rintro as M sz K ⟨y, rfl, hy, hK⟩
    exact ⟨by simp [mX10_before], cat_ok rfl⟩
  rintro X as M sz K hX rfl rfl hR ⟨y, rfl, hy, hK⟩
  show G X 0 [.int (iZ y), U9] [] M sz 0 0
  refine g_iload hX dX10_before_0 rfl ?_
  refine g_const hX dX10_before_1 ?_
  refine z_isub hX dX10_before_2 ?_
  refine g_istore hX dX10_before_3 ?_
  dsimp only [List.set]
  refine g_const hX dX10_before_4 ?_
  refine g_iload hX dX10_before_7 rfl ?_
  refine z_imul hX dX10_before_8 ?_
  refine g_iload hX dX10_before_9 rfl ?_
  refine g_const hX dX10_before_10 ?_
  refine z_idiv hX dX10_before_11 (by constructor <;> omega) (by constructor <;> omega) (by omega) (by omega) ?_
  refine z_iadd hX dX10_before_12 ?_
  refine g_iload hX dX10_before_13 rfl ?_
  refine g_const hX dX10_before_14 ?_
  refine z_idiv hX dX10_before_16 (by constructor <;> omega) (by constructor <;> omega) (by omega) (by omega) ?_
  refine z_isub hX dX10_before_17 ?_
  refine g_iload hX dX10_before_18 rfl ?_
  refine g_const hX dX10_before_19 ?_
  refine z_idiv hX dX10_before_22 (by constructor <;> omega) (by constructor <;> omega) (by omega) (by omega) ?_
  refine z_iadd hX dX10_before_23 ?_
  refine g_iret hX hR dX10_before_24 rfl rfl (by decide) (by decide) ?_
  exact hK

def sp_X10_weekdayOf : hS := fun as M sz K => ∃ y p : Int, as = [.int (iZ y), .int (iZ p)] ∧ (1600 ≤ y ∧ y ≤ 2399) ∧ (0 ≤ p ∧ p ≤ 1000) ∧ K (.inl (some (.int (iZ (wdayZ y p))))) M sz
theorem s_X10_weekdayOf {l : Launch} {g : hG} (hst : l.stackTraces = false) : Ctr l g mX10_weekdayOf sp_X10_weekdayOf := by
  refine Ctr.mk9 hst (by decide) ?_ ?_
  · rintro as M sz K ⟨y, p, rfl, hy, hp, hK⟩
    exact ⟨by simp [mX10_weekdayOf], cat_ok rfl⟩
  rintro X as M sz K hX rfl rfl hR ⟨y, p, rfl, hy, hp, hK⟩
  show G X 0 [.int (iZ y), .int (iZ p)] [] M sz 0 0
  have hdn := dnum_r (y := y) (p := p) (by omega) (by omega)
  have hb2 : befZ 2000 = 730484 := by decide
  refine g_iload hX dX10_weekdayOf_0 rfl ?_
  refine g_cS1 (c2 := 0) (s2 := 0) hX (s_X10_before hst) dX10_weekdayOf_1 (by first | exact Nat.le_of_ble_eq_true rfl | simp [cat_rf, Value.category]) ⟨rfl, rfl, by decide, by decide⟩ ?_
  refine ⟨_, rfl, by omega, Kc_i ?_⟩
  have hb1 := bef_d (y := y) p
  refine g_iload hX dX10_weekdayOf_4 rfl ?_
  refine z_iadd hX dX10_weekdayOf_5 ?_
  refine g_const hX dX10_weekdayOf_6 ?_
  refine z_iadd hX dX10_weekdayOf_8 ?_
  refine g_const hX dX10_weekdayOf_9 ?_
  refine z_iadd hX dX10_weekdayOf_11 ?_
  refine g_const hX dX10_weekdayOf_12 ?_
  refine g_cS1 (c2 := 0) (s2 := 0) hX (s_X10_before hst) dX10_weekdayOf_15 (by first | exact Nat.le_of_ble_eq_true rfl | simp [cat_rf, Value.category]) ⟨rfl, rfl, by decide, by decide⟩ ?_
  refine ⟨_, rfl, by omega, Kc_i ?_⟩
  refine z_isub hX dX10_weekdayOf_18 ?_
  refine g_const hX dX10_weekdayOf_19 ?_
  refine z_irem hX dX10_weekdayOf_21 (by constructor <;> omega) (by constructor <;> omega) (by omega) (by omega) ?_
  refine g_iret hX hR dX10_weekdayOf_22 rfl rfl (by decide) (by decide) ?_
  exact kint hK (by unfold wdayZ; omega)

def sp_X10_easterOf : hS := fun as M sz K => ∃ y : Int, as = [.int (iZ y)] ∧ (1600 ≤ y ∧ y ≤ 2399) ∧ K (.inl (some (.int (iZ (eastMDZ y))))) M sz
theorem s_X10_easterOf {l : Launch} {g : hG} (hst : l.stackTraces = false) : Ctr l g mX10_easterOf sp_X10_easterOf := by
  refine Ctr.mk9 hst (by decide) ?_ ?_
  · rintro as M sz K ⟨y, rfl, hy, hK⟩
    exact ⟨by simp [mX10_easterOf], cat_ok rfl⟩
  rintro X as M sz K hX rfl rfl hR ⟨y, rfl, hy, hK⟩
  show G X 0 [.int (iZ y), U9, U9, U9, U9, U9, U9, U9] [] M sz 0 0
  refine g_iload hX dX10_easterOf_0 rfl ?_
  refine g_const hX dX10_easterOf_1 ?_
  refine z_irem hX dX10_easterOf_3 (by constructor <;> omega) (by constructor <;> omega) (by omega) (by omega) ?_
  refine g_const hX dX10_easterOf_4 ?_
  refine z_iadd hX dX10_easterOf_5 ?_
  refine g_istore hX dX10_easterOf_6 ?_
  dsimp only [List.set]
  refine g_iload hX dX10_easterOf_7 rfl ?_
  refine g_const hX dX10_easterOf_8 ?_
  refine z_idiv hX dX10_easterOf_10 (by constructor <;> omega) (by constructor <;> omega) (by omega) (by omega) ?_
  refine g_const hX dX10_easterOf_11 ?_
  refine z_iadd hX dX10_easterOf_12 ?_
  refine g_istore hX dX10_easterOf_13 ?_
  dsimp only [List.set]
  refine g_const hX dX10_easterOf_14 ?_
  refine g_iload hX dX10_easterOf_15 rfl ?_
  refine z_imul hX dX10_easterOf_16 ?_
  refine g_const hX dX10_easterOf_17 ?_
  refine z_idiv hX dX10_easterOf_18 (by constructor <;> omega) (by constructor <;> omega) (by omega) (by omega) ?_
  refine g_const hX dX10_easterOf_19 ?_
  refine z_isub hX dX10_easterOf_21 ?_
  refine g_istore hX dX10_easterOf_22 ?_
  dsimp only [List.set]
  rw [show (3 * (y / 100 + 1) / 4 - 12 : Int) = eaX y from rfl]
  have heaX : 0 ≤ eaX y ∧ eaX y ≤ 8 := by unfold eaX; omega
  refine g_const hX dX10_easterOf_23 ?_
  refine g_iload hX dX10_easterOf_25 rfl ?_
  refine z_imul hX dX10_easterOf_26 ?_
  refine g_const hX dX10_easterOf_27 ?_
  refine z_iadd hX dX10_easterOf_28 ?_
  refine g_const hX dX10_easterOf_29 ?_
  refine z_idiv hX dX10_easterOf_31 (by constructor <;> omega) (by constructor <;> omega) (by omega) (by omega) ?_
  refine g_const hX dX10_easterOf_32 ?_
  refine z_isub hX dX10_easterOf_33 ?_
  refine g_istore hX dX10_easterOf_34 ?_
  dsimp only [List.set]
  rw [show ((8 * (y / 100 + 1) + 5) / 25 - 5 : Int) = eaZ y from rfl]
  have heaZ : 0 ≤ eaZ y ∧ eaZ y ≤ 8 := by unfold eaZ; omega
  refine g_const hX dX10_easterOf_36 ?_
  refine g_iload hX dX10_easterOf_37 rfl ?_
  refine z_imul hX dX10_easterOf_38 ?_
  refine g_const hX dX10_easterOf_39 ?_
  refine z_idiv hX dX10_easterOf_40 (by constructor <;> omega) (by constructor <;> omega) (by omega) (by omega) ?_
  refine g_iload hX dX10_easterOf_41 rfl ?_
  refine z_isub hX dX10_easterOf_42 ?_
  refine g_const hX dX10_easterOf_43 ?_
  refine z_isub hX dX10_easterOf_45 ?_
  refine g_istore hX dX10_easterOf_46 ?_
  dsimp only [List.set]
  rw [show (5 * y / 4 - eaX y - 10 : Int) = eaD y from rfl]
  have heaD : 1000 ≤ eaD y ∧ eaD y ≤ 4000 := by unfold eaD; omega
  refine g_const hX dX10_easterOf_48 ?_
  refine g_iload hX dX10_easterOf_50 rfl ?_
  refine z_imul hX dX10_easterOf_51 ?_
  refine g_const hX dX10_easterOf_52 ?_
  refine z_iadd hX dX10_easterOf_54 ?_
  refine g_iload hX dX10_easterOf_55 rfl ?_
  refine z_iadd hX dX10_easterOf_57 ?_
  refine g_iload hX dX10_easterOf_58 rfl ?_
  refine z_isub hX dX10_easterOf_59 ?_
  refine g_const hX dX10_easterOf_60 ?_
  refine z_irem hX dX10_easterOf_62 (by constructor <;> omega) (by constructor <;> omega) (by omega) (by omega) ?_
  refine g_istore hX dX10_easterOf_63 ?_
  dsimp only [List.set]
  rw [show ((11 * (y % 19 + 1) + 20 + eaZ y - eaX y) % 30 : Int) = eaE y from rfl]
  have heaE : 0 ≤ eaE y ∧ eaE y < 30 := by unfold eaE; omega
  refine g_iload hX dX10_easterOf_65 rfl ?_
  refine g_iload hX dX10_easterOf_67 rfl ?_
  refine g_const hX dX10_easterOf_69 ?_
  refine z_icmp_eq hX dX10_easterOf_71 (by constructor <;> omega) (by constructor <;> omega) (fun c71 => ?_) (fun c71 => ?_)
  · refine g_const hX dX10_easterOf_87 ?_
    refine g_goto hX dX10_easterOf_88 ?_
    refine z_iadd hX dX10_easterOf_92 ?_
    refine g_istore hX dX10_easterOf_93 ?_
    dsimp only [List.set]
    refine g_const hX dX10_easterOf_95 ?_
    refine g_iload hX dX10_easterOf_97 rfl ?_
    refine z_isub hX dX10_easterOf_99 ?_
    refine g_istore hX dX10_easterOf_100 ?_
    dsimp only [List.set]
    refine g_iload hX dX10_easterOf_102 rfl ?_
    refine g_iload hX dX10_easterOf_104 rfl ?_
    refine g_const hX dX10_easterOf_106 ?_
    refine z_icmp_ge hX dX10_easterOf_108 (by constructor <;> omega) (by constructor <;> omega) (fun c108 => ?_) (fun c108 => ?_)
    · refine g_const hX dX10_easterOf_116 ?_
      refine z_iadd hX dX10_easterOf_117 ?_
      refine g_istore hX dX10_easterOf_118 ?_
      dsimp only [List.set]
      refine g_iload hX dX10_easterOf_120 rfl ?_
      refine g_const hX dX10_easterOf_122 ?_
      refine g_iload hX dX10_easterOf_124 rfl ?_
      refine g_iload hX dX10_easterOf_126 rfl ?_
      refine z_iadd hX dX10_easterOf_128 ?_
      refine g_const hX dX10_easterOf_129 ?_
      refine z_irem hX dX10_easterOf_131 (by constructor <;> omega) (by constructor <;> omega) (by omega) (by omega) ?_
      refine z_isub hX dX10_easterOf_132 ?_
      refine z_iadd hX dX10_easterOf_133 ?_
      refine g_istore hX dX10_easterOf_134 ?_
      dsimp only [List.set]
      refine g_iload hX dX10_easterOf_136 rfl ?_
      refine g_const hX dX10_easterOf_138 ?_
      refine z_icmp_le hX dX10_easterOf_140 (by constructor <;> omega) (by constructor <;> omega) (fun c140 => ?_) (fun c140 => ?_)
      · refine g_const hX dX10_easterOf_155 ?_
        refine g_iload hX dX10_easterOf_158 rfl ?_
        refine z_iadd hX dX10_easterOf_160 ?_
        refine g_iret hX hR dX10_easterOf_161 rfl rfl (by decide) (by decide) ?_
        exact kint hK (by unfold eastMDZ eastZ eaN eaE2; (repeat' split) <;> omega)
      · refine g_const hX dX10_easterOf_143 ?_
        refine g_iload hX dX10_easterOf_146 rfl ?_
        refine z_iadd hX dX10_easterOf_148 ?_
        refine g_const hX dX10_easterOf_149 ?_
        refine z_isub hX dX10_easterOf_151 ?_
        refine g_goto hX dX10_easterOf_152 ?_
        refine g_iret hX hR dX10_easterOf_161 rfl rfl (by decide) (by decide) ?_
        exact kint hK (by unfold eastMDZ eastZ eaN eaE2; (repeat' split) <;> omega)
    · refine g_const hX dX10_easterOf_111 ?_
      refine g_goto hX dX10_easterOf_113 ?_
      refine z_iadd hX dX10_easterOf_117 ?_
      refine g_istore hX dX10_easterOf_118 ?_
      dsimp only [List.set]
      refine g_iload hX dX10_easterOf_120 rfl ?_
      refine g_const hX dX10_easterOf_122 ?_
      refine g_iload hX dX10_easterOf_124 rfl ?_
      refine g_iload hX dX10_easterOf_126 rfl ?_
      refine z_iadd hX dX10_easterOf_128 ?_
      refine g_const hX dX10_easterOf_129 ?_
      refine z_irem hX dX10_easterOf_131 (by constructor <;> omega) (by constructor <;> omega) (by omega) (by omega) ?_
      refine z_isub hX dX10_easterOf_132 ?_
      refine z_iadd hX dX10_easterOf_133 ?_
      refine g_istore hX dX10_easterOf_134 ?_
      dsimp only [List.set]
      refine g_iload hX dX10_easterOf_136 rfl ?_
      refine g_const hX dX10_easterOf_138 ?_
      refine z_icmp_le hX dX10_easterOf_140 (by constructor <;> omega) (by constructor <;> omega) (fun c140 => ?_) (fun c140 => ?_)
      · refine g_const hX dX10_easterOf_155 ?_
        refine g_iload hX dX10_easterOf_158 rfl ?_
        refine z_iadd hX dX10_easterOf_160 ?_
        refine g_iret hX hR dX10_easterOf_161 rfl rfl (by decide) (by decide) ?_
        exact kint hK (by unfold eastMDZ eastZ eaN eaE2; (repeat' split) <;> omega)
      · refine g_const hX dX10_easterOf_143 ?_
        refine g_iload hX dX10_easterOf_146 rfl ?_
        refine z_iadd hX dX10_easterOf_148 ?_
        refine g_const hX dX10_easterOf_149 ?_
        refine z_isub hX dX10_easterOf_151 ?_
        refine g_goto hX dX10_easterOf_152 ?_
        refine g_iret hX hR dX10_easterOf_161 rfl rfl (by decide) (by decide) ?_
        exact kint hK (by unfold eastMDZ eastZ eaN eaE2; (repeat' split) <;> omega)
  · refine g_iload hX dX10_easterOf_74 rfl ?_
    refine g_const hX dX10_easterOf_76 ?_
    refine z_icmp_ne hX dX10_easterOf_78 (by constructor <;> omega) (by constructor <;> omega) (fun c78 => ?_) (fun c78 => ?_)
    · refine g_const hX dX10_easterOf_91 ?_
      refine z_iadd hX dX10_easterOf_92 ?_
      refine g_istore hX dX10_easterOf_93 ?_
      dsimp only [List.set]
      refine g_const hX dX10_easterOf_95 ?_
      refine g_iload hX dX10_easterOf_97 rfl ?_
      refine z_isub hX dX10_easterOf_99 ?_
      refine g_istore hX dX10_easterOf_100 ?_
      dsimp only [List.set]
      refine g_iload hX dX10_easterOf_102 rfl ?_
      refine g_iload hX dX10_easterOf_104 rfl ?_
      refine g_const hX dX10_easterOf_106 ?_
      refine z_icmp_ge hX dX10_easterOf_108 (by constructor <;> omega) (by constructor <;> omega) (fun c108 => ?_) (fun c108 => ?_)
      · refine g_const hX dX10_easterOf_116 ?_
        refine z_iadd hX dX10_easterOf_117 ?_
        refine g_istore hX dX10_easterOf_118 ?_
        dsimp only [List.set]
        refine g_iload hX dX10_easterOf_120 rfl ?_
        refine g_const hX dX10_easterOf_122 ?_
        refine g_iload hX dX10_easterOf_124 rfl ?_
        refine g_iload hX dX10_easterOf_126 rfl ?_
        refine z_iadd hX dX10_easterOf_128 ?_
        refine g_const hX dX10_easterOf_129 ?_
        refine z_irem hX dX10_easterOf_131 (by constructor <;> omega) (by constructor <;> omega) (by omega) (by omega) ?_
        refine z_isub hX dX10_easterOf_132 ?_
        refine z_iadd hX dX10_easterOf_133 ?_
        refine g_istore hX dX10_easterOf_134 ?_
        dsimp only [List.set]
        refine g_iload hX dX10_easterOf_136 rfl ?_
        refine g_const hX dX10_easterOf_138 ?_
        refine z_icmp_le hX dX10_easterOf_140 (by constructor <;> omega) (by constructor <;> omega) (fun c140 => ?_) (fun c140 => ?_)
        · refine g_const hX dX10_easterOf_155 ?_
          refine g_iload hX dX10_easterOf_158 rfl ?_
          refine z_iadd hX dX10_easterOf_160 ?_
          refine g_iret hX hR dX10_easterOf_161 rfl rfl (by decide) (by decide) ?_
          exact kint hK (by unfold eastMDZ eastZ eaN eaE2; (repeat' split) <;> omega)
        · refine g_const hX dX10_easterOf_143 ?_
          refine g_iload hX dX10_easterOf_146 rfl ?_
          refine z_iadd hX dX10_easterOf_148 ?_
          refine g_const hX dX10_easterOf_149 ?_
          refine z_isub hX dX10_easterOf_151 ?_
          refine g_goto hX dX10_easterOf_152 ?_
          refine g_iret hX hR dX10_easterOf_161 rfl rfl (by decide) (by decide) ?_
          exact kint hK (by unfold eastMDZ eastZ eaN eaE2; (repeat' split) <;> omega)
      · refine g_const hX dX10_easterOf_111 ?_
        refine g_goto hX dX10_easterOf_113 ?_
        refine z_iadd hX dX10_easterOf_117 ?_
        refine g_istore hX dX10_easterOf_118 ?_
        dsimp only [List.set]
        refine g_iload hX dX10_easterOf_120 rfl ?_
        refine g_const hX dX10_easterOf_122 ?_
        refine g_iload hX dX10_easterOf_124 rfl ?_
        refine g_iload hX dX10_easterOf_126 rfl ?_
        refine z_iadd hX dX10_easterOf_128 ?_
        refine g_const hX dX10_easterOf_129 ?_
        refine z_irem hX dX10_easterOf_131 (by constructor <;> omega) (by constructor <;> omega) (by omega) (by omega) ?_
        refine z_isub hX dX10_easterOf_132 ?_
        refine z_iadd hX dX10_easterOf_133 ?_
        refine g_istore hX dX10_easterOf_134 ?_
        dsimp only [List.set]
        refine g_iload hX dX10_easterOf_136 rfl ?_
        refine g_const hX dX10_easterOf_138 ?_
        refine z_icmp_le hX dX10_easterOf_140 (by constructor <;> omega) (by constructor <;> omega) (fun c140 => ?_) (fun c140 => ?_)
        · refine g_const hX dX10_easterOf_155 ?_
          refine g_iload hX dX10_easterOf_158 rfl ?_
          refine z_iadd hX dX10_easterOf_160 ?_
          refine g_iret hX hR dX10_easterOf_161 rfl rfl (by decide) (by decide) ?_
          exact kint hK (by unfold eastMDZ eastZ eaN eaE2; (repeat' split) <;> omega)
        · refine g_const hX dX10_easterOf_143 ?_
          refine g_iload hX dX10_easterOf_146 rfl ?_
          refine z_iadd hX dX10_easterOf_148 ?_
          refine g_const hX dX10_easterOf_149 ?_
          refine z_isub hX dX10_easterOf_151 ?_
          refine g_goto hX dX10_easterOf_152 ?_
          refine g_iret hX hR dX10_easterOf_161 rfl rfl (by decide) (by decide) ?_
          exact kint hK (by unfold eastMDZ eastZ eaN eaE2; (repeat' split) <;> omega)
    · refine g_iload hX dX10_easterOf_81 rfl ?_
      refine g_const hX dX10_easterOf_82 ?_
      refine z_icmp_le hX dX10_easterOf_84 (by constructor <;> omega) (by constructor <;> omega) (fun c84 => ?_) (fun c84 => ?_)
      · refine g_const hX dX10_easterOf_91 ?_
        refine z_iadd hX dX10_easterOf_92 ?_
        refine g_istore hX dX10_easterOf_93 ?_
        dsimp only [List.set]
        refine g_const hX dX10_easterOf_95 ?_
        refine g_iload hX dX10_easterOf_97 rfl ?_
        refine z_isub hX dX10_easterOf_99 ?_
        refine g_istore hX dX10_easterOf_100 ?_
        dsimp only [List.set]
        refine g_iload hX dX10_easterOf_102 rfl ?_
        refine g_iload hX dX10_easterOf_104 rfl ?_
        refine g_const hX dX10_easterOf_106 ?_
        refine z_icmp_ge hX dX10_easterOf_108 (by constructor <;> omega) (by constructor <;> omega) (fun c108 => ?_) (fun c108 => ?_)
        · refine g_const hX dX10_easterOf_116 ?_
          refine z_iadd hX dX10_easterOf_117 ?_
          refine g_istore hX dX10_easterOf_118 ?_
          dsimp only [List.set]
          refine g_iload hX dX10_easterOf_120 rfl ?_
          refine g_const hX dX10_easterOf_122 ?_
          refine g_iload hX dX10_easterOf_124 rfl ?_
          refine g_iload hX dX10_easterOf_126 rfl ?_
          refine z_iadd hX dX10_easterOf_128 ?_
          refine g_const hX dX10_easterOf_129 ?_
          refine z_irem hX dX10_easterOf_131 (by constructor <;> omega) (by constructor <;> omega) (by omega) (by omega) ?_
          refine z_isub hX dX10_easterOf_132 ?_
          refine z_iadd hX dX10_easterOf_133 ?_
          refine g_istore hX dX10_easterOf_134 ?_
          dsimp only [List.set]
          refine g_iload hX dX10_easterOf_136 rfl ?_
          refine g_const hX dX10_easterOf_138 ?_
          refine z_icmp_le hX dX10_easterOf_140 (by constructor <;> omega) (by constructor <;> omega) (fun c140 => ?_) (fun c140 => ?_)
          · refine g_const hX dX10_easterOf_155 ?_
            refine g_iload hX dX10_easterOf_158 rfl ?_
            refine z_iadd hX dX10_easterOf_160 ?_
            refine g_iret hX hR dX10_easterOf_161 rfl rfl (by decide) (by decide) ?_
            exact kint hK (by unfold eastMDZ eastZ eaN eaE2; (repeat' split) <;> omega)
          · refine g_const hX dX10_easterOf_143 ?_
            refine g_iload hX dX10_easterOf_146 rfl ?_
            refine z_iadd hX dX10_easterOf_148 ?_
            refine g_const hX dX10_easterOf_149 ?_
            refine z_isub hX dX10_easterOf_151 ?_
            refine g_goto hX dX10_easterOf_152 ?_
            refine g_iret hX hR dX10_easterOf_161 rfl rfl (by decide) (by decide) ?_
            exact kint hK (by unfold eastMDZ eastZ eaN eaE2; (repeat' split) <;> omega)
        · refine g_const hX dX10_easterOf_111 ?_
          refine g_goto hX dX10_easterOf_113 ?_
          refine z_iadd hX dX10_easterOf_117 ?_
          refine g_istore hX dX10_easterOf_118 ?_
          dsimp only [List.set]
          refine g_iload hX dX10_easterOf_120 rfl ?_
          refine g_const hX dX10_easterOf_122 ?_
          refine g_iload hX dX10_easterOf_124 rfl ?_
          refine g_iload hX dX10_easterOf_126 rfl ?_
          refine z_iadd hX dX10_easterOf_128 ?_
          refine g_const hX dX10_easterOf_129 ?_
          refine z_irem hX dX10_easterOf_131 (by constructor <;> omega) (by constructor <;> omega) (by omega) (by omega) ?_
          refine z_isub hX dX10_easterOf_132 ?_
          refine z_iadd hX dX10_easterOf_133 ?_
          refine g_istore hX dX10_easterOf_134 ?_
          dsimp only [List.set]
          refine g_iload hX dX10_easterOf_136 rfl ?_
          refine g_const hX dX10_easterOf_138 ?_
          refine z_icmp_le hX dX10_easterOf_140 (by constructor <;> omega) (by constructor <;> omega) (fun c140 => ?_) (fun c140 => ?_)
          · refine g_const hX dX10_easterOf_155 ?_
            refine g_iload hX dX10_easterOf_158 rfl ?_
            refine z_iadd hX dX10_easterOf_160 ?_
            refine g_iret hX hR dX10_easterOf_161 rfl rfl (by decide) (by decide) ?_
            exact kint hK (by unfold eastMDZ eastZ eaN eaE2; (repeat' split) <;> omega)
          · refine g_const hX dX10_easterOf_143 ?_
            refine g_iload hX dX10_easterOf_146 rfl ?_
            refine z_iadd hX dX10_easterOf_148 ?_
            refine g_const hX dX10_easterOf_149 ?_
            refine z_isub hX dX10_easterOf_151 ?_
            refine g_goto hX dX10_easterOf_152 ?_
            refine g_iret hX hR dX10_easterOf_161 rfl rfl (by decide) (by decide) ?_
            exact kint hK (by unfold eastMDZ eastZ eaN eaE2; (repeat' split) <;> omega)
      · refine g_const hX dX10_easterOf_87 ?_
        refine g_goto hX dX10_easterOf_88 ?_
        refine z_iadd hX dX10_easterOf_92 ?_
        refine g_istore hX dX10_easterOf_93 ?_
        dsimp only [List.set]
        refine g_const hX dX10_easterOf_95 ?_
        refine g_iload hX dX10_easterOf_97 rfl ?_
        refine z_isub hX dX10_easterOf_99 ?_
        refine g_istore hX dX10_easterOf_100 ?_
        dsimp only [List.set]
        refine g_iload hX dX10_easterOf_102 rfl ?_
        refine g_iload hX dX10_easterOf_104 rfl ?_
        refine g_const hX dX10_easterOf_106 ?_
        refine z_icmp_ge hX dX10_easterOf_108 (by constructor <;> omega) (by constructor <;> omega) (fun c108 => ?_) (fun c108 => ?_)
        · refine g_const hX dX10_easterOf_116 ?_
          refine z_iadd hX dX10_easterOf_117 ?_
          refine g_istore hX dX10_easterOf_118 ?_
          dsimp only [List.set]
          refine g_iload hX dX10_easterOf_120 rfl ?_
          refine g_const hX dX10_easterOf_122 ?_
          refine g_iload hX dX10_easterOf_124 rfl ?_
          refine g_iload hX dX10_easterOf_126 rfl ?_
          refine z_iadd hX dX10_easterOf_128 ?_
          refine g_const hX dX10_easterOf_129 ?_
          refine z_irem hX dX10_easterOf_131 (by constructor <;> omega) (by constructor <;> omega) (by omega) (by omega) ?_
          refine z_isub hX dX10_easterOf_132 ?_
          refine z_iadd hX dX10_easterOf_133 ?_
          refine g_istore hX dX10_easterOf_134 ?_
          dsimp only [List.set]
          refine g_iload hX dX10_easterOf_136 rfl ?_
          refine g_const hX dX10_easterOf_138 ?_
          refine z_icmp_le hX dX10_easterOf_140 (by constructor <;> omega) (by constructor <;> omega) (fun c140 => ?_) (fun c140 => ?_)
          · refine g_const hX dX10_easterOf_155 ?_
            refine g_iload hX dX10_easterOf_158 rfl ?_
            refine z_iadd hX dX10_easterOf_160 ?_
            refine g_iret hX hR dX10_easterOf_161 rfl rfl (by decide) (by decide) ?_
            exact kint hK (by unfold eastMDZ eastZ eaN eaE2; (repeat' split) <;> omega)
          · refine g_const hX dX10_easterOf_143 ?_
            refine g_iload hX dX10_easterOf_146 rfl ?_
            refine z_iadd hX dX10_easterOf_148 ?_
            refine g_const hX dX10_easterOf_149 ?_
            refine z_isub hX dX10_easterOf_151 ?_
            refine g_goto hX dX10_easterOf_152 ?_
            refine g_iret hX hR dX10_easterOf_161 rfl rfl (by decide) (by decide) ?_
            exact kint hK (by unfold eastMDZ eastZ eaN eaE2; (repeat' split) <;> omega)
        · refine g_const hX dX10_easterOf_111 ?_
          refine g_goto hX dX10_easterOf_113 ?_
          refine z_iadd hX dX10_easterOf_117 ?_
          refine g_istore hX dX10_easterOf_118 ?_
          dsimp only [List.set]
          refine g_iload hX dX10_easterOf_120 rfl ?_
          refine g_const hX dX10_easterOf_122 ?_
          refine g_iload hX dX10_easterOf_124 rfl ?_
          refine g_iload hX dX10_easterOf_126 rfl ?_
          refine z_iadd hX dX10_easterOf_128 ?_
          refine g_const hX dX10_easterOf_129 ?_
          refine z_irem hX dX10_easterOf_131 (by constructor <;> omega) (by constructor <;> omega) (by omega) (by omega) ?_
          refine z_isub hX dX10_easterOf_132 ?_
          refine z_iadd hX dX10_easterOf_133 ?_
          refine g_istore hX dX10_easterOf_134 ?_
          dsimp only [List.set]
          refine g_iload hX dX10_easterOf_136 rfl ?_
          refine g_const hX dX10_easterOf_138 ?_
          refine z_icmp_le hX dX10_easterOf_140 (by constructor <;> omega) (by constructor <;> omega) (fun c140 => ?_) (fun c140 => ?_)
          · refine g_const hX dX10_easterOf_155 ?_
            refine g_iload hX dX10_easterOf_158 rfl ?_
            refine z_iadd hX dX10_easterOf_160 ?_
            refine g_iret hX hR dX10_easterOf_161 rfl rfl (by decide) (by decide) ?_
            exact kint hK (by unfold eastMDZ eastZ eaN eaE2; (repeat' split) <;> omega)
          · refine g_const hX dX10_easterOf_143 ?_
            refine g_iload hX dX10_easterOf_146 rfl ?_
            refine z_iadd hX dX10_easterOf_148 ?_
            refine g_const hX dX10_easterOf_149 ?_
            refine z_isub hX dX10_easterOf_151 ?_
            refine g_goto hX dX10_easterOf_152 ?_
            refine g_iret hX hR dX10_easterOf_161 rfl rfl (by decide) (by decide) ?_
            exact kint hK (by unfold eastMDZ eastZ eaN eaE2; (repeat' split) <;> omega)
