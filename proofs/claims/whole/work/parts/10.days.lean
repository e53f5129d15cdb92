/-! days and years: what they are, and the class's methods for them -/
abbrev leapZ (y : Int) : Prop := (y % 4 = 0 ∧ y % 100 ≠ 0) ∨ y % 400 = 0
def ylenZ (y : Int) : Int := if leapZ y then 366 else 365
def mlenZ (y m : Int) : Int := if m = 2 then (if leapZ y then 29 else 28) else if m = 4 ∨ m = 6 ∨ m = 9 ∨ m = 11 then 30 else 31
def placeZ (y m d : Int) : Int := fMz (m - 1).toNat + bZ (2 < m ∧ leapZ y) + d - 1
def dnumZ (y p : Int) : Int := 365 * (y - 1600) + ((y - 1600 + 3) / 4 - (y - 1600 + 99) / 100 + (y - 1600 + 399) / 400) + p
def wdayZ (y p : Int) : Int := (dnumZ y p + 6) % 7
def monZ (y p : Int) : Nat → Int → Int
  | 0, m => m
  | n + 1, m => if m < 12 ∧ placeZ y (m + 1) 1 ≤ p then monZ y p n (m + 1) else m
def dateZ (y p : Int) : Int := 100 * monZ y p 12 1 + p - placeZ y (monZ y p 12 1) 1 + 1
/-- Easter as a day of March, step by step -/
def eaX (y : Int) : Int := 3 * (y / 100 + 1) / 4 - 12
def eaZ (y : Int) : Int := (8 * (y / 100 + 1) + 5) / 25 - 5
def eaD (y : Int) : Int := 5 * y / 4 - eaX y - 10
def eaE (y : Int) : Int := (11 * (y % 19 + 1) + 20 + eaZ y - eaX y) % 30
def eaE2 (y : Int) : Int := if eaE y = 24 ∨ (eaE y = 25 ∧ 11 < y % 19 + 1) then eaE y + 1 else eaE y
def eaN (y : Int) : Int := if 44 - eaE2 y < 21 then 44 - eaE2 y + 30 else 44 - eaE2 y
def eastZ (y : Int) : Int := eaN y + 7 - (eaD y + eaN y) % 7
theorem fMz_r (k : Nat) : 0 ≤ fMz k ∧ fMz k ≤ 334 := by
  rcases Nat.lt_or_ge k 12 with h | h
  · revert k
    decide
  · unfold fMz
    rw [List.getD_eq_getElem?_getD, List.getElem?_eq_none (by simpa using h)]
    decide
theorem bZ_le (c : Prop) [Decidable c] : 0 ≤ bZ c ∧ bZ c ≤ 1 := by unfold bZ; split <;> omega

def sp_X0_isLeap : hS := fun as M sz K => ∃ y : Int, as = [.int (iZ y)] ∧ (0 ≤ y ∧ y ≤ 5000) ∧ K (.inl (some (.int (iZ (bZ (leapZ y)))))) M sz
theorem s_X0_isLeap {l : Launch} {g : hG} (hst : l.stackTraces = false) : Ctr l g mX0_isLeap sp_X0_isLeap := by
  refine Ctr.mk9 hst (by decide) ?_ ?_
  · rintro as M sz K ⟨y, rfl, hy, hK⟩
    exact ⟨by simp [mX0_isLeap], cat_ok rfl⟩
  rintro X as M sz K hX rfl rfl hR ⟨y, rfl, hy, hK⟩
  show G X 0 [.int (iZ y)] [] M sz 0 0
  refine g_iload hX dX0_isLeap_0 rfl ?_
  refine g_const hX dX0_isLeap_1 ?_
  refine z_irem hX dX0_isLeap_2 (by constructor <;> omega) (by constructor <;> omega) (by omega) (by omega) ?_
  refine z_if_ne hX dX0_isLeap_3 (by constructor <;> omega) (fun c3 => ?_) (fun c3 => ?_)
  · refine g_iload hX dX0_isLeap_13 rfl ?_
    refine g_const hX dX0_isLeap_14 ?_
    refine z_irem hX dX0_isLeap_17 (by constructor <;> omega) (by constructor <;> omega) (by omega) (by omega) ?_
    refine z_if_ne hX dX0_isLeap_18 (by constructor <;> omega) (fun c18 => ?_) (fun c18 => ?_)
    · refine g_const hX dX0_isLeap_25 ?_
      refine g_iret hX hR dX0_isLeap_26 rfl (by first | rfl | exact nar_b _ | exact nar_01 (by omega)) (by decide) (by decide) ?_
      exact kint hK (by unfold bZ; split <;> omega)
    · refine g_const hX dX0_isLeap_21 ?_
      refine g_goto hX dX0_isLeap_22 ?_
      refine g_iret hX hR dX0_isLeap_26 rfl (by first | rfl | exact nar_b _ | exact nar_01 (by omega)) (by decide) (by decide) ?_
      exact kint hK (by unfold bZ; split <;> omega)
  · refine g_iload hX dX0_isLeap_6 rfl ?_
    refine g_const hX dX0_isLeap_7 ?_
    refine z_irem hX dX0_isLeap_9 (by constructor <;> omega) (by constructor <;> omega) (by omega) (by omega) ?_
    refine z_if_ne hX dX0_isLeap_10 (by constructor <;> omega) (fun c10 => ?_) (fun c10 => ?_)
    · refine g_const hX dX0_isLeap_21 ?_
      refine g_goto hX dX0_isLeap_22 ?_
      refine g_iret hX hR dX0_isLeap_26 rfl (by first | rfl | exact nar_b _ | exact nar_01 (by omega)) (by decide) (by decide) ?_
      exact kint hK (by unfold bZ; split <;> omega)
    · refine g_iload hX dX0_isLeap_13 rfl ?_
      refine g_const hX dX0_isLeap_14 ?_
      refine z_irem hX dX0_isLeap_17 (by constructor <;> omega) (by constructor <;> omega) (by omega) (by omega) ?_
      refine z_if_ne hX dX0_isLeap_18 (by constructor <;> omega) (fun c18 => ?_) (fun c18 => ?_)
      · refine g_const hX dX0_isLeap_25 ?_
        refine g_iret hX hR dX0_isLeap_26 rfl (by first | rfl | exact nar_b _ | exact nar_01 (by omega)) (by decide) (by decide) ?_
        exact kint hK (by unfold bZ; split <;> omega)
      · refine g_const hX dX0_isLeap_21 ?_
        refine g_goto hX dX0_isLeap_22 ?_
        refine g_iret hX hR dX0_isLeap_26 rfl (by first | rfl | exact nar_b _ | exact nar_01 (by omega)) (by decide) (by decide) ?_
        exact kint hK (by unfold bZ; split <;> omega)

def sp_X0_yearLength : hS := fun as M sz K => ∃ y : Int, as = [.int (iZ y)] ∧ (0 ≤ y ∧ y ≤ 5000) ∧ K (.inl (some (.int (iZ (ylenZ y))))) M sz
theorem s_X0_yearLength {l : Launch} {g : hG} (hst : l.stackTraces = false) : Ctr l g mX0_yearLength sp_X0_yearLength := by
  refine Ctr.mk9 hst (by decide) ?_ ?_
  · rintro as M sz K ⟨y, rfl, hy, hK⟩
    exact ⟨by simp [mX0_yearLength], cat_ok rfl⟩
  rintro X as M sz K hX rfl rfl hR ⟨y, rfl, hy, hK⟩
  show G X 0 [.int (iZ y)] [] M sz 0 0
  refine g_iload hX dX0_yearLength_0 rfl ?_
  refine g_cS1 (c2 := 0) (s2 := 0) hX (s_X0_isLeap hst) dX0_yearLength_1 (by first | exact Nat.le_of_ble_eq_true rfl | simp [cat_rf, Value.category]) ⟨rfl, rfl, by decide, by decide⟩ ?_
  refine ⟨_, rfl, by omega, Kc_i ?_⟩
  refine z_ifb_eq hX dX0_yearLength_4 (fun c4 => ?_) (fun c4 => ?_)
  · refine g_const hX dX0_yearLength_13 ?_
    refine g_iret hX hR dX0_yearLength_16 rfl rfl (by decide) (by decide) ?_
    exact kint hK (by unfold ylenZ; split <;> omega)
  · refine g_const hX dX0_yearLength_7 ?_
    refine g_goto hX dX0_yearLength_10 ?_
    refine g_iret hX hR dX0_yearLength_16 rfl rfl (by decide) (by decide) ?_
    exact kint hK (by unfold ylenZ; split <;> omega)

def sp_X0_monthLength : hS := fun as M sz K => ∃ y m : Int, as = [.int (iZ y), .int (iZ m)] ∧ (0 ≤ y ∧ y ≤ 5000) ∧ inR m ∧ K (.inl (some (.int (iZ (mlenZ y m))))) M sz
theorem s_X0_monthLength {l : Launch} {g : hG} (hst : l.stackTraces = false) : Ctr l g mX0_monthLength sp_X0_monthLength := by
  refine Ctr.mk9 hst (by decide) ?_ ?_
  · rintro as M sz K ⟨y, m, rfl, hy, hm, hK⟩
    exact ⟨by simp [mX0_monthLength], cat_ok rfl⟩
  rintro X as M sz K hX rfl rfl hR ⟨y, m, rfl, hy, hm, hK⟩
  show G X 0 [.int (iZ y), .int (iZ m)] [] M sz 0 0
  refine g_iload hX dX0_monthLength_0 rfl ?_
  refine g_const hX dX0_monthLength_1 ?_
  refine z_icmp_ne hX dX0_monthLength_2 (by first | assumption | (constructor <;> omega)) (by first | assumption | (constructor <;> omega)) (fun c2 => ?_) (fun c2 => ?_)
  · refine g_iload hX dX0_monthLength_20 rfl ?_
    refine g_const hX dX0_monthLength_21 ?_
    refine z_icmp_eq hX dX0_monthLength_22 (by first | assumption | (constructor <;> omega)) (by first | assumption | (constructor <;> omega)) (fun c22 => ?_) (fun c22 => ?_)
    · refine g_const hX dX0_monthLength_43 ?_
      refine g_goto hX dX0_monthLength_45 ?_
      refine g_iret hX hR dX0_monthLength_50 rfl rfl (by decide) (by decide) ?_
      exact kint hK (by unfold mlenZ; simp_all <;> omega)
    · refine g_iload hX dX0_monthLength_25 rfl ?_
      refine g_const hX dX0_monthLength_26 ?_
      refine z_icmp_eq hX dX0_monthLength_28 (by first | assumption | (constructor <;> omega)) (by first | assumption | (constructor <;> omega)) (fun c28 => ?_) (fun c28 => ?_)
      · refine g_const hX dX0_monthLength_43 ?_
        refine g_goto hX dX0_monthLength_45 ?_
        refine g_iret hX hR dX0_monthLength_50 rfl rfl (by decide) (by decide) ?_
        exact kint hK (by unfold mlenZ; simp_all <;> omega)
      · refine g_iload hX dX0_monthLength_31 rfl ?_
        refine g_const hX dX0_monthLength_32 ?_
        refine z_icmp_eq hX dX0_monthLength_34 (by first | assumption | (constructor <;> omega)) (by first | assumption | (constructor <;> omega)) (fun c34 => ?_) (fun c34 => ?_)
        · refine g_const hX dX0_monthLength_43 ?_
          refine g_goto hX dX0_monthLength_45 ?_
          refine g_iret hX hR dX0_monthLength_50 rfl rfl (by decide) (by decide) ?_
          exact kint hK (by unfold mlenZ; simp_all <;> omega)
        · refine g_iload hX dX0_monthLength_37 rfl ?_
          refine g_const hX dX0_monthLength_38 ?_
          refine z_icmp_ne hX dX0_monthLength_40 (by first | assumption | (constructor <;> omega)) (by first | assumption | (constructor <;> omega)) (fun c40 => ?_) (fun c40 => ?_)
          · refine g_const hX dX0_monthLength_48 ?_
            refine g_iret hX hR dX0_monthLength_50 rfl rfl (by decide) (by decide) ?_
            exact kint hK (by unfold mlenZ; simp_all <;> omega)
          · refine g_const hX dX0_monthLength_43 ?_
            refine g_goto hX dX0_monthLength_45 ?_
            refine g_iret hX hR dX0_monthLength_50 rfl rfl (by decide) (by decide) ?_
            exact kint hK (by unfold mlenZ; simp_all <;> omega)
  · refine g_iload hX dX0_monthLength_5 rfl ?_
    refine g_cS1 (c2 := 0) (s2 := 0) hX (s_X0_isLeap hst) dX0_monthLength_6 (by first | exact Nat.le_of_ble_eq_true rfl | simp [cat_rf, Value.category]) ⟨rfl, rfl, by decide, by decide⟩ ?_
    refine ⟨_, rfl, by omega, Kc_i ?_⟩
    refine z_ifb_eq hX dX0_monthLength_9 (fun c9 => ?_) (fun c9 => ?_)
    · refine g_const hX dX0_monthLength_17 ?_
      refine g_iret hX hR dX0_monthLength_19 rfl rfl (by decide) (by decide) ?_
      exact kint hK (by unfold mlenZ; simp_all <;> omega)
    · refine g_const hX dX0_monthLength_12 ?_
      refine g_goto hX dX0_monthLength_14 ?_
      refine g_iret hX hR dX0_monthLength_19 rfl rfl (by decide) (by decide) ?_
      exact kint hK (by unfold mlenZ; simp_all <;> omega)

def sp_X0_dayOfYear : hS := fun as M sz K => ∃ y m d : Int, as = [.int (iZ y), .int (iZ m), .int (iZ d)] ∧ (0 ≤ y ∧ y ≤ 5000) ∧ (1 ≤ m ∧ m ≤ 12) ∧ (-100000 ≤ d ∧ d ≤ 100000) ∧ K (.inl (some (.int (iZ (placeZ y m d))))) M sz
theorem s_X0_dayOfYear {l : Launch} {g : hG} (hst : l.stackTraces = false) : Ctr l g mX0_dayOfYear sp_X0_dayOfYear := by
  refine Ctr.mk9 hst (by decide) ?_ ?_
  · rintro as M sz K ⟨y, m, d, rfl, hy, hm, hd, hK⟩
    exact ⟨by simp [mX0_dayOfYear], cat_ok rfl⟩
  rintro X as M sz K hX rfl rfl hR ⟨y, m, d, rfl, hy, hm, hd, hK⟩
  show G X 0 [.int (iZ y), .int (iZ m), .int (iZ d), U9, U9] [] M sz 0 0
  refine g_iload hX dX0_dayOfYear_0 rfl ?_
  refine g_const hX dX0_dayOfYear_1 ?_
  refine z_icmp_lt hX dX0_dayOfYear_2 (by constructor <;> omega) (by constructor <;> omega) (fun c2 => ?_) (fun c2 => ?_)
  · refine g_const hX dX0_dayOfYear_23 ?_
    refine g_istore hX dX0_dayOfYear_24 ?_
    dsimp only [List.set]
    refine g_iload hX dX0_dayOfYear_25 rfl ?_
    refine g_const hX dX0_dayOfYear_26 ?_
    refine z_icmp_le hX dX0_dayOfYear_27 (by constructor <;> omega) (by constructor <;> omega) (fun c27 => ?_) (fun c27 => ?_)
    · refine g_const hX dX0_dayOfYear_41 ?_
      refine g_istore hX dX0_dayOfYear_42 ?_
      dsimp only [List.set]
      refine g_iload hX dX0_dayOfYear_44 rfl ?_
      refine g_iload hX dX0_dayOfYear_45 rfl ?_
      refine z_iadd hX dX0_dayOfYear_47 ?_
      refine g_iload hX dX0_dayOfYear_48 rfl ?_
      refine z_iadd hX dX0_dayOfYear_49 ?_
      refine g_const hX dX0_dayOfYear_50 ?_
      refine z_isub hX dX0_dayOfYear_51 ?_
      refine g_iret hX hR dX0_dayOfYear_52 rfl rfl (by decide) (by decide) ?_
      exact kint hK (by unfold placeZ; first | rw [bZ_t (by omega)] | rw [bZ_f (by omega)]; omega)
    · refine g_iload hX dX0_dayOfYear_30 rfl ?_
      refine g_cS1 (c2 := 0) (s2 := 0) hX (s_X0_isLeap hst) dX0_dayOfYear_31 (by first | exact Nat.le_of_ble_eq_true rfl | simp [cat_rf, Value.category]) ⟨rfl, rfl, by decide, by decide⟩ ?_
      refine ⟨_, rfl, by omega, Kc_i ?_⟩
      refine z_ifb_eq hX dX0_dayOfYear_34 (fun c34 => ?_) (fun c34 => ?_)
      · refine g_const hX dX0_dayOfYear_41 ?_
        refine g_istore hX dX0_dayOfYear_42 ?_
        dsimp only [List.set]
        refine g_iload hX dX0_dayOfYear_44 rfl ?_
        refine g_iload hX dX0_dayOfYear_45 rfl ?_
        refine z_iadd hX dX0_dayOfYear_47 ?_
        refine g_iload hX dX0_dayOfYear_48 rfl ?_
        refine z_iadd hX dX0_dayOfYear_49 ?_
        refine g_const hX dX0_dayOfYear_50 ?_
        refine z_isub hX dX0_dayOfYear_51 ?_
        refine g_iret hX hR dX0_dayOfYear_52 rfl rfl (by decide) (by decide) ?_
        exact kint hK (by unfold placeZ; first | rw [bZ_t (by omega)] | rw [bZ_f (by omega)]; omega)
      · refine g_const hX dX0_dayOfYear_37 ?_
        refine g_goto hX dX0_dayOfYear_38 ?_
        refine g_istore hX dX0_dayOfYear_42 ?_
        dsimp only [List.set]
        refine g_iload hX dX0_dayOfYear_44 rfl ?_
        refine g_iload hX dX0_dayOfYear_45 rfl ?_
        refine z_iadd hX dX0_dayOfYear_47 ?_
        refine g_iload hX dX0_dayOfYear_48 rfl ?_
        refine z_iadd hX dX0_dayOfYear_49 ?_
        refine g_const hX dX0_dayOfYear_50 ?_
        refine z_isub hX dX0_dayOfYear_51 ?_
        refine g_iret hX hR dX0_dayOfYear_52 rfl rfl (by decide) (by decide) ?_
        exact kint hK (by unfold placeZ; first | rw [bZ_t (by omega)] | rw [bZ_f (by omega)]; omega)
  · refine g_iload hX dX0_dayOfYear_5 rfl ?_
    refine g_getsM hX dX0_dayOfYear_6 ?_
    refine z_alenM hX dX0_dayOfYear_9 ?_
    refine z_icmp_gt hX dX0_dayOfYear_10 (by constructor <;> omega) (by constructor <;> omega) (fun c10 => ?_) (fun c10 => ?_)
    · refine g_const hX dX0_dayOfYear_23 ?_
      refine g_istore hX dX0_dayOfYear_24 ?_
      dsimp only [List.set]
      refine g_iload hX dX0_dayOfYear_25 rfl ?_
      refine g_const hX dX0_dayOfYear_26 ?_
      refine z_icmp_le hX dX0_dayOfYear_27 (by constructor <;> omega) (by constructor <;> omega) (fun c27 => ?_) (fun c27 => ?_)
      · refine g_const hX dX0_dayOfYear_41 ?_
        refine g_istore hX dX0_dayOfYear_42 ?_
        dsimp only [List.set]
        refine g_iload hX dX0_dayOfYear_44 rfl ?_
        refine g_iload hX dX0_dayOfYear_45 rfl ?_
        refine z_iadd hX dX0_dayOfYear_47 ?_
        refine g_iload hX dX0_dayOfYear_48 rfl ?_
        refine z_iadd hX dX0_dayOfYear_49 ?_
        refine g_const hX dX0_dayOfYear_50 ?_
        refine z_isub hX dX0_dayOfYear_51 ?_
        refine g_iret hX hR dX0_dayOfYear_52 rfl rfl (by decide) (by decide) ?_
        exact kint hK (by unfold placeZ; first | rw [bZ_t (by omega)] | rw [bZ_f (by omega)]; omega)
      · refine g_iload hX dX0_dayOfYear_30 rfl ?_
        refine g_cS1 (c2 := 0) (s2 := 0) hX (s_X0_isLeap hst) dX0_dayOfYear_31 (by first | exact Nat.le_of_ble_eq_true rfl | simp [cat_rf, Value.category]) ⟨rfl, rfl, by decide, by decide⟩ ?_
        refine ⟨_, rfl, by omega, Kc_i ?_⟩
        refine z_ifb_eq hX dX0_dayOfYear_34 (fun c34 => ?_) (fun c34 => ?_)
        · refine g_const hX dX0_dayOfYear_41 ?_
          refine g_istore hX dX0_dayOfYear_42 ?_
          dsimp only [List.set]
          refine g_iload hX dX0_dayOfYear_44 rfl ?_
          refine g_iload hX dX0_dayOfYear_45 rfl ?_
          refine z_iadd hX dX0_dayOfYear_47 ?_
          refine g_iload hX dX0_dayOfYear_48 rfl ?_
          refine z_iadd hX dX0_dayOfYear_49 ?_
          refine g_const hX dX0_dayOfYear_50 ?_
          refine z_isub hX dX0_dayOfYear_51 ?_
          refine g_iret hX hR dX0_dayOfYear_52 rfl rfl (by decide) (by decide) ?_
          exact kint hK (by unfold placeZ; first | rw [bZ_t (by omega)] | rw [bZ_f (by omega)]; omega)
        · refine g_const hX dX0_dayOfYear_37 ?_
          refine g_goto hX dX0_dayOfYear_38 ?_
          refine g_istore hX dX0_dayOfYear_42 ?_
          dsimp only [List.set]
          refine g_iload hX dX0_dayOfYear_44 rfl ?_
          refine g_iload hX dX0_dayOfYear_45 rfl ?_
          refine z_iadd hX dX0_dayOfYear_47 ?_
          refine g_iload hX dX0_dayOfYear_48 rfl ?_
          refine z_iadd hX dX0_dayOfYear_49 ?_
          refine g_const hX dX0_dayOfYear_50 ?_
          refine z_isub hX dX0_dayOfYear_51 ?_
          refine g_iret hX hR dX0_dayOfYear_52 rfl rfl (by decide) (by decide) ?_
          exact kint hK (by unfold placeZ; first | rw [bZ_t (by omega)] | rw [bZ_f (by omega)]; omega)
    · refine g_getsM hX dX0_dayOfYear_13 ?_
      refine g_iload hX dX0_dayOfYear_16 rfl ?_
      refine g_const hX dX0_dayOfYear_17 ?_
      refine z_isub hX dX0_dayOfYear_18 ?_
      refine z_ialdM hX dX0_dayOfYear_19 (by omega) (by omega) ?_
      have hfm := fMz_r (m - 1).toNat
      refine g_goto hX dX0_dayOfYear_20 ?_
      refine g_istore hX dX0_dayOfYear_24 ?_
      dsimp only [List.set]
      refine g_iload hX dX0_dayOfYear_25 rfl ?_
      refine g_const hX dX0_dayOfYear_26 ?_
      refine z_icmp_le hX dX0_dayOfYear_27 (by constructor <;> omega) (by constructor <;> omega) (fun c27 => ?_) (fun c27 => ?_)
      · refine g_const hX dX0_dayOfYear_41 ?_
        refine g_istore hX dX0_dayOfYear_42 ?_
        dsimp only [List.set]
        refine g_iload hX dX0_dayOfYear_44 rfl ?_
        refine g_iload hX dX0_dayOfYear_45 rfl ?_
        refine z_iadd hX dX0_dayOfYear_47 ?_
        refine g_iload hX dX0_dayOfYear_48 rfl ?_
        refine z_iadd hX dX0_dayOfYear_49 ?_
        refine g_const hX dX0_dayOfYear_50 ?_
        refine z_isub hX dX0_dayOfYear_51 ?_
        refine g_iret hX hR dX0_dayOfYear_52 rfl rfl (by decide) (by decide) ?_
        exact kint hK (by unfold placeZ; first | rw [bZ_t (by omega)] | rw [bZ_f (by omega)]; omega)
      · refine g_iload hX dX0_dayOfYear_30 rfl ?_
        refine g_cS1 (c2 := 0) (s2 := 0) hX (s_X0_isLeap hst) dX0_dayOfYear_31 (by first | exact Nat.le_of_ble_eq_true rfl | simp [cat_rf, Value.category]) ⟨rfl, rfl, by decide, by decide⟩ ?_
        refine ⟨_, rfl, by omega, Kc_i ?_⟩
        refine z_ifb_eq hX dX0_dayOfYear_34 (fun c34 => ?_) (fun c34 => ?_)
        · refine g_const hX dX0_dayOfYear_41 ?_
          refine g_istore hX dX0_dayOfYear_42 ?_
          dsimp only [List.set]
          refine g_iload hX dX0_dayOfYear_44 rfl ?_
          refine g_iload hX dX0_dayOfYear_45 rfl ?_
          refine z_iadd hX dX0_dayOfYear_47 ?_
          refine g_iload hX dX0_dayOfYear_48 rfl ?_
          refine z_iadd hX dX0_dayOfYear_49 ?_
          refine g_const hX dX0_dayOfYear_50 ?_
          refine z_isub hX dX0_dayOfYear_51 ?_
          refine g_iret hX hR dX0_dayOfYear_52 rfl rfl (by decide) (by decide) ?_
          exact kint hK (by unfold placeZ; first | rw [bZ_t (by omega)] | rw [bZ_f (by omega)]; omega)
        · refine g_const hX dX0_dayOfYear_37 ?_
          refine g_goto hX dX0_dayOfYear_38 ?_
          refine g_istore hX dX0_dayOfYear_42 ?_
          dsimp only [List.set]
          refine g_iload hX dX0_dayOfYear_44 rfl ?_
          refine g_iload hX dX0_dayOfYear_45 rfl ?_
          refine z_iadd hX dX0_dayOfYear_47 ?_
          refine g_iload hX dX0_dayOfYear_48 rfl ?_
          refine z_iadd hX dX0_dayOfYear_49 ?_
          refine g_const hX dX0_dayOfYear_50 ?_
          refine z_isub hX dX0_dayOfYear_51 ?_
          refine g_iret hX hR dX0_dayOfYear_52 rfl rfl (by decide) (by decide) ?_
          exact kint hK (by unfold placeZ; first | rw [bZ_t (by omega)] | rw [bZ_f (by omega)]; omega)

def sp_X0_dayNumber : hS := fun as M sz K => ∃ y p : Int, as = [.int (iZ y), .int (iZ p)] ∧ (1600 ≤ y ∧ y ≤ 5000) ∧ (-100000 ≤ p ∧ p ≤ 100000) ∧ K (.inl (some (.int (iZ (dnumZ y p))))) M sz
theorem s_X0_dayNumber {l : Launch} {g : hG} (hst : l.stackTraces = false) : Ctr l g mX0_dayNumber sp_X0_dayNumber := by
  refine Ctr.mk9 hst (by decide) ?_ ?_
  · rintro as M sz K ⟨y, p, rfl, hy, hp, hK⟩
    exact ⟨by simp [mX0_dayNumber], cat_ok rfl⟩
  rintro X as M sz K hX rfl rfl hR ⟨y, p, rfl, hy, hp, hK⟩
  show G X 0 [.int (iZ y), .int (iZ p), U9, U9] [] M sz 0 0
  refine g_iload hX dX0_dayNumber_0 rfl ?_
  refine g_const hX dX0_dayNumber_1 ?_
  refine z_isub hX dX0_dayNumber_4 ?_
  refine g_istore hX dX0_dayNumber_5 ?_
  dsimp only [List.set]
  refine g_iload hX dX0_dayNumber_6 rfl ?_
  refine g_const hX dX0_dayNumber_7 ?_
  refine z_iadd hX dX0_dayNumber_8 ?_
  refine g_const hX dX0_dayNumber_9 ?_
  refine z_idiv hX dX0_dayNumber_10 (by constructor <;> omega) (by constructor <;> omega) (by omega) (by omega) ?_
  refine g_iload hX dX0_dayNumber_11 rfl ?_
  refine g_const hX dX0_dayNumber_12 ?_
  refine z_iadd hX dX0_dayNumber_14 ?_
  refine g_const hX dX0_dayNumber_15 ?_
  refine z_idiv hX dX0_dayNumber_17 (by constructor <;> omega) (by constructor <;> omega) (by omega) (by omega) ?_
  refine z_isub hX dX0_dayNumber_18 ?_
  refine g_iload hX dX0_dayNumber_19 rfl ?_
  refine g_const hX dX0_dayNumber_20 ?_
  refine z_iadd hX dX0_dayNumber_23 ?_
  refine g_const hX dX0_dayNumber_24 ?_
  refine z_idiv hX dX0_dayNumber_27 (by constructor <;> omega) (by constructor <;> omega) (by omega) (by omega) ?_
  refine z_iadd hX dX0_dayNumber_28 ?_
  refine g_istore hX dX0_dayNumber_29 ?_
  dsimp only [List.set]
  refine g_const hX dX0_dayNumber_30 ?_
  refine g_iload hX dX0_dayNumber_33 rfl ?_
  refine z_imul hX dX0_dayNumber_34 ?_
  refine g_iload hX dX0_dayNumber_35 rfl ?_
  refine z_iadd hX dX0_dayNumber_36 ?_
  refine g_iload hX dX0_dayNumber_37 rfl ?_
  refine z_iadd hX dX0_dayNumber_38 ?_
  refine g_iret hX hR dX0_dayNumber_39 rfl rfl (by decide) (by decide) ?_
  exact kint hK (by unfold dnumZ; omega)

theorem dnum_r {y p : Int} (hy : 1600 ≤ y ∧ y ≤ 5000) (hp : -100000 ≤ p ∧ p ≤ 100000) : p ≤ dnumZ y p ∧ dnumZ y p ≤ 2000000 := by
  unfold dnumZ
  omega

def sp_X0_dayOfWeek : hS := fun as M sz K => ∃ y p : Int, as = [.int (iZ y), .int (iZ p)] ∧ (1600 ≤ y ∧ y ≤ 5000) ∧ (0 ≤ p ∧ p ≤ 100000) ∧ K (.inl (some (.int (iZ (wdayZ y p))))) M sz
theorem s_X0_dayOfWeek {l : Launch} {g : hG} (hst : l.stackTraces = false) : Ctr l g mX0_dayOfWeek sp_X0_dayOfWeek := by
  refine Ctr.mk9 hst (by decide) ?_ ?_
  · rintro as M sz K ⟨y, p, rfl, hy, hp, hK⟩
    exact ⟨by simp [mX0_dayOfWeek], cat_ok rfl⟩
  rintro X as M sz K hX rfl rfl hR ⟨y, p, rfl, hy, hp, hK⟩
  show G X 0 [.int (iZ y), .int (iZ p)] [] M sz 0 0
  refine g_iload hX dX0_dayOfWeek_0 rfl ?_
  refine g_iload hX dX0_dayOfWeek_1 rfl ?_
  refine g_cS2 (c2 := 0) (s2 := 0) hX (s_X0_dayNumber hst) dX0_dayOfWeek_2 (by first | exact Nat.le_of_ble_eq_true rfl | simp [cat_rf, Value.category]) ⟨rfl, rfl, by decide, by decide⟩ ?_
  refine ⟨_, _, rfl, by omega, by omega, Kc_i ?_⟩
  have hdn := dnum_r (p := p) (y := y) (by omega) (by omega)
  refine g_const hX dX0_dayOfWeek_5 ?_
  refine z_iadd hX dX0_dayOfWeek_7 ?_
  refine g_const hX dX0_dayOfWeek_8 ?_
  refine z_irem hX dX0_dayOfWeek_10 (by constructor <;> omega) (by constructor <;> omega) (by omega) (by omega) ?_
  refine g_iret hX hR dX0_dayOfWeek_11 rfl rfl (by decide) (by decide) ?_
  exact hK
