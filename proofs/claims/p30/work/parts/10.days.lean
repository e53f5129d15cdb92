/-! days and years: what they are, and the class's methods for them -/
abbrev leapZ (y : Int) : Prop := (y % 4 = 0 ∧ y % 100 ≠ 0) ∨ y % 400 = 0
def ylenZ (y : Int) : Int := if leapZ y then 366 else 365
def mlenZ (y m : Int) : Int := if m = 2 then (if leapZ y then 29 else 28) else if m = 4 ∨ m = 6 ∨ m = 9 ∨ m = 11 then 30 else 31
def placeZ (y m d : Int) : Int := fMz (m - 1).toNat + bZ (2 < m ∧ leapZ y) + d - 1
def dnumZ (y p : Int) : Int := 365 * (y - 1600) + ((y - 1600 + 3) / 4 - (y - 1600 + 99) / 100 + (y - 1600 + 399) / 400) + p
def wdayZ (y p : Int) : Int := (dnumZ y p + 6) % 7
def monZ (y p : Int) : Nat → Int → Int
  | 0, m => m
  | n + 1, m => if m < 12 ∧ placeZ y (m + 1) 1 ≤ p then monZ y p n (m + 1) else m
def dateZ (y p : Int) : Int := 100 * monZ y p 12 1 + p - placeZ y (monZ y p 12 1) 1 + 1
/-- Easter as a day of March, step by step -/
def eaX (y : Int) : Int := 3 * (y / 100 + 1) / 4 - 12
def eaZ (y : Int) : Int := (8 * (y / 100 + 1) + 5) / 25 - 5
def eaD (y : Int) : Int := 5 * y / 4 - eaX y - 10
def eaE (y : Int) : Int := (11 * (y % 19 + 1) + 20 + eaZ y - eaX y) % 30
def eaE2 (y : Int) : Int := if eaE y = 24 ∨ (eaE y = 25 ∧ 11 < y % 19 + 1) then eaE y + 1 else eaE y
def eaN (y : Int) : Int := if 44 - eaE2 y < 21 then 44 - eaE2 y + 30 else 44 - eaE2 y
def eastZ (y : Int) : Int := eaN y + 7 - (eaD y + eaN y) % 7
theorem fMz_r (k : Nat) : 0 ≤ fMz k ∧ fMz k ≤ 334 := by
  rcases Nat.lt_or_ge k 12 with h | h
  · revert k
    decide
  · unfold fMz
    rw [List.getD_eq_getElem?_getD, List.getElem?_eq_none (by simpa using h)]
    decide
theorem bZ_le (c : Prop) [Decidable c] : 0 ≤ bZ c ∧ bZ c ≤ 1 := by unfold bZ; split <;> omega

def sp_X0_isLeap : hS := fun as M sz K => ∃ y : Int, as = [.int (iZ y)] ∧ (0 ≤ y ∧ y ≤ 5000) ∧ K (.inl (some (.int (iZ (bZ (leapZ y)))))) M sz
theorem s_X0_isLeap {l : Launch} {g : hG} (hst : l.stackTraces = false) : Ctr l g mX0_isLeap sp_X0_isLeap := by
  refine Ctr.mk9 hst (by decide) ?_ ?_
  · rintro as M sz K ⟨y, rfl, hy, hK⟩
    exact ⟨by simp [mX0_isLeap], cat_ok rfl⟩
  rintro X as M sz K hX rfl rfl hR ⟨y, rfl, hy, hK⟩
  show G X 0 [.int (iZ y)] [] M sz 0 0
  refine g_iload hX dX0_isLeap_0 rfl ?_
  refine g_const hX dX0_isLeap_1 ?_
  refine z_irem hX dX0_isLeap_2 (by constructor <;> omega) (by constructor <;> omega) (by omega) (by omega) ?_
  refine z_if_ne hX dX0_isLeap_3 (by constructor <;> omega) (fun c3 => ?_) (fun c3 => ?_)
  · refine g_iload hX dX0_isLeap_13 rfl ?_
    refine g_const hX dX0_isLeap_14 ?_
    refine z_irem hX dX0_isLeap_17 (by constructor <;> omega) (by constructor <;> omega) (by omega) (by omega) ?_
    refine z_if_ne hX dX0_isLeap_18 (by constructor <;> omega) (fun c18 => ?_) (fun c18 => ?_)
    · refine g_const hX dX0_isLeap_25 ?_
      refine g_iret hX hR dX0_isLeap_26 rfl (by first | rfl | exact nar_b _ | exact nar_01 (by omega)) (by decide) (by decide) ?_
      exact kint hK (by unfold bZ; split <;> omega)
    · refine g_const hX dX0_isLeap_21 ?_
      refine g_goto hX dX0_isLeap_22 ?_
      refine g_iret hX hR dX0_isLeap_26 rfl (by first | rfl | exact nar_b _ | exact nar_01 (by omega)) (by decide) (by decide) ?_
      exact kint hK (by unfold bZ; split <;> omega)
  · refine g_iload hX dX0_isLeap_6 rfl ?_
    refine g_const hX dX0_isLeap_7 ?_
    refine z_irem hX dX0_isLeap_9 (by constructor <;> omega) (by constructor <;> omega) (by omega) (by omega) ?_
    refine z_if_ne hX dX0_isLeap_10 (by constructor <;> omega) (fun c10 => ?_) (fun c10 => ?_)
    · refine g_const hX dX0_isLeap_21 ?_
      refine g_goto hX dX0_isLeap_22 ?_
      refine g_iret hX hR dX0_isLeap_26 rfl (by first | rfl | exact nar_b _ | exact nar_01 (by omega)) (by decide) (by decide) ?_
      exact kint hK (by unfold bZ; split <;> omega)
    · refine g_iload hX dX0_isLeap_13 rfl ?_
      refine g_const hX dX0_isLeap_14 ?_
      refine z_irem hX dX0_isLeap_17 (by constructor <;> omega) (by constructor <;> omega) (by omega) (by omega) ?_
      refine z_if_ne hX dX0_isLeap_18 (by constructor <;> omega) (fun c18 => ?_) (fun c18 => ?_)
      · refine g_const hX dX0_isLeap_25 ?_
        refine g_iret hX hR dX0_isLeap_26 rfl (by first | rfl | exact nar_b _ | exact nar_01 (by omega)) (by decide) (by decide) ?_
        exact kint hK (by unfold bZ; split <;> omega)
      · refine g_const hX dX0_isLeap_21 ?_
        refine g_goto hX dX0_isLeap_22 ?_
        refine g_iret hX hR dX0_isLeap_26 rfl (by first | rfl | exact nar_b _ | exact nar_01 (by omega)) (by decide) (by decide) ?_
        exact kint hK (by unfold bZ; split <;> omega)

def sp_X0_yearLength : hS := fun as M sz K => ∃ y : Int, as = [.int (iZ y)] ∧ (0 ≤ y ∧ y ≤ 5000) ∧ K (.inl (some (.int (iZ (ylenZ y))))) M sz
theorem s_X0_yearLength {l : Launch} {g : hG} (hst : l.stackTraces = false) : Ctr l g mX0_yearLength sp_X0_yearLength := by
  refine Ctr.mk9 hst (by decide) ?_ ?_
  · rintro as M sz K ⟨y, rfl, hy, hK⟩
    exact ⟨by simp [mX0_yearLength], cat_ok rfl⟩
  rintro X as M sz K hX rfl rfl hR ⟨y, rfl, hy, hK⟩
  show G X 0 [.int (iZ y)] [] M sz 0 0
  refine g_iload hX dX0_yearLength_0 rfl ?_
  refine g_cS1 (c2 := 0) (s2 := 0) hX (s_X0_isLeap hst) dX0_yearLength_1 (by first | exact Nat.le_of_ble_eq_true rfl | simp [cat_rf, Value.category]) ⟨rfl, rfl, by decide, by decide⟩ ?_
  refine ⟨_, rfl, by omega, Kc_i ?_⟩
  refine z_ifb_eq hX dX0_yearLength_4 (fun c4 => ?_) (fun c4 => ?_)
  · refine g_const hX dX0_yearLength_13 ?_
    refine g_iret hX hR dX0_yearLength_16 rfl rfl (by decide) (by decide) ?_
    exact kint hK (by unfold ylenZ; split <;> omega)
  · refine g_const hX dX0_yearLength_7 ?_
    refine g_goto hX dX0_yearLength_10 ?_
    refine g_iret hX hR dX0_yearLength_16 rfl rfl (by decide) (by decide) ?_
    exact kint hK (by unfold ylenZ; split <;> omega)

def sp_X0_monthLength : hS := fun as M sz K => ∃ y m : Int, as = [.int (iZ y), .int (iZ m)] ∧ (0 ≤ y ∧ y ≤ 5000) ∧ inR m ∧ K (.inl (some (.int (iZ (mlenZ y m))))) M sz
theorem s_X0_monthLength {l : Launch} {g : hG} (hst : l.stackTraces = false) : Ctr l g mX0_monthLength sp_X0_monthLength := by
  refine Ctr.mk9 hst (by decide) ?_ ?_
  · rintro as M sz K ⟨y, m, rfl, hy, hm, hK⟩
    exact ⟨by simp [mX0_monthLength], cat_ok rfl⟩
  rintro X as M sz K hX rfl rfl hR ⟨y, m, rfl, hy, hm, hK⟩
  show G X 0 [.int (iZ y), .int (iZ m)] [] M sz 0 0
  refine g_iload hX dX0_monthLength_0 rfl ?_
  refine g_const hX dX0_monthLength_1 ?_
  refine z_icmp_ne hX dX0_monthLength_2 (by first | assumption | (constructor <;> omega)) (by first | assumption | (constructor <;> omega)) (fun c2 => ?_) (fun c2 => ?_)
  · refine g_iload hX dX0_monthLength_20 rfl ?_
    refine g_const hX dX0_monthLength_21 ?_
    refine z_icmp_eq hX dX0_monthLength_22 (by first | assumption | (constructor <;> omega)) (by first | assumption | (constructor <;> omega)) (fun c22 => ?_) (fun c22 => ?_)
    · refine g_const hX dX0_monthLength_43 ?_
      refine g_goto hX dX0_monthLength_45 ?_
      refine g_iret hX hR dX0_monthLength_50 rfl rfl (by decide) (by decide) ?_
      exact kint hK (by unfold mlenZ; simp_all <;> omega)
    · refine g_iload hX dX0_monthLength_25 rfl ?_
      refine g_const hX dX0_monthLength_26 ?_
      refine z_icmp_eq hX dX0_monthLength_28 (by first | assumption | (constructor <;> omega)) (by first | assumption | (constructor <;> omega)) (fun c28 => ?_) (fun c28 => ?_)
      · refine g_const hX dX0_monthLength_43 ?_
        refine g_goto hX dX0_monthLength_45 ?_
        refine g_iret hX hR dX0_monthLength_50 rfl rfl (by decide) (by decide) ?_
        exact kint hK (by unfold mlenZ; simp_all <;> omega)
      · refine g_iload hX dX0_monthLength_31 rfl ?_
        refine g_const hX dX0_monthLength_32 ?_
        refine z_icmp_eq hX dX0_monthLength_34 (by first | assumption | (constructor <;> omega)) (by first | assumption | (constructor <;> omega)) (fun c34 => ?_) (fun c34 => ?_)
        · refine g_const hX dX0_monthLength_43 ?_
          refine g_goto hX dX0_monthLength_45 ?_
          refine g_iret hX hR dX0_monthLength_50 rfl rfl (by decide) (by decide) ?_
          exact kint hK (by unfold mlenZ; simp_all <;> omega)
        · refine g_iload hX dX0_monthLength_37 rfl ?_
          refine g_const hX dX0_monthLength_38 ?_
          refine z_icmp_ne hX dX0_monthLength_40 (by first | assumption | (constructor <;> omega)) (by first | assumption | (constructor <;> omega)) (fun c40 => ?_) (fun c40 => ?_)
          · refine g_const hX dX0_monthLength_48 ?_
            refine g_iret hX hR dX0_monthLength_50 rfl rfl (by decide) (by decide) ?_
            exact kint hK (by unfold mlenZ; simp_all <;> omega)
          · refine g_const hX dX0_monthLength_43 ?_
            refine g_goto hX dX0_monthLength_45 ?_
            refine g_iret hX hR dX0_monthLength_50 rfl rfl (by decide) (by decide) ?_
            exact kint hK (by unfold mlenZ; simp_all <;> omega)
  · refine g_iload hX dX0_monthLength_5 rfl ?_
    refine g_cS1 (c2 := 0) (s2 := 0) hX (s_X0_isLeap hst) dX0_monthLength_6 (by first | exact Nat.le_of_ble_eq_true rfl | simp [cat_rf, Value.category]) ⟨rfl, rfl, by decide, by decide⟩ ?_
    refine ⟨_, rfl, by omega, Kc_i ?_⟩
    refine z_ifb_eq hX dX0_monthLength_9 (fun c9 => ?_) (fun c9 => ?_)
    · refine g_const hX dX0_monthLength_17 ?_
      refine g_iret hX hR dX0_monthLength_19 rfl rfl (by decide) (by decide) ?_
      exact kint hK (by unfold mlenZ; simp_all <;> omega)
    · refine g_const hX dX0_monthLength_12 ?_
      refine g_goto hX dX0_monthLength_14 ?_
      refine g_iret hX hR dX0_monthLength_19 rfl rfl (by decide) (by decide) ?_
      exact kint hK (by unfold mlenZ; simp_all <;> omega)

def sp_X0_dayOfYear : hS := fun as M sz K => ∃ y m d : Int, as = [.int (iZ y), .int (iZ m), .int (iZ d)] ∧ (0 ≤ y ∧ y ≤ 5000) ∧ (1 ≤ m ∧ m ≤ 12) ∧ (-100000 ≤ d ∧ d ≤ 100000) ∧ K (.inl (some (.int (iZ (placeZ y m d))))) M sz
theorem s_X0_dayOfYear {l : Launch} {g : hG} (hst : l.stackTraces = false) : Ctr l g mX0_dayOfYear sp_X0_dayOfYear := by
  refine Ctr.mk9 hst (by decide) ?_ ?_
  · rintro as M sz K ⟨y, m, d, rfl, hy, hm, hd, hK⟩
    exact ⟨by simp [mX0_dayOfYear], cat_ok rfl⟩
  rintro X as M sz K hX rfl rfl hR ⟨y, m, d, rfl, hy, hm, hd, hK⟩
  show G X 0 [.int (iZ y), .int (iZ m), .int (iZ d), U9, U9] [] M sz 0 0
  refine g_iload hX dX0_dayOfYear_0 rfl ?_
  refine g_const hX dX0_dayOfYear_1 ?_
  refine z_icmp_lt hX dX0_dayOfYear_2 (by constructor <;> omega) (by constructor <;> omega) (fun c2 => ?_) (fun c2 => ?_)
  · refine g_const hX dX0_dayOfYear_23 ?_
    refine g_istore hX dX0_dayOfYear_24 ?_
    dsimp only [List.set]
    refine g_iload hX dX0_dayOfYear_25 rfl ?_
    refine g_const hX dX0_dayOfYear_26 ?_
    refine z_icmp_le hX dX0_dayOfYear_27 (by constructor <;> omega) (by constructor <;> omega) (fun c27 => ?_) (fun c27 => ?_)
    · refine g_const hX dX0_dayOfYear_41 ?_
      refine g_istore hX dX0_dayOfYear_42 ?_
      dsimp only [List.set]
      refine g_iload hX dX0_dayOfYear_44 rfl ?_
      refine g_iload hX dX0_dayOfYear_45 rfl ?_
      refine z_iadd hX dX0_dayOfYear_47 ?_
      refine g_iload hX dX0_dayOfYear_48 rfl ?_
      refine z_iadd hX dX0_dayOfYear_49 ?_
      refine g_const hX dX0_dayOfYear_50 ?_
      refine z_isub hX dX0_dayOfYear_51 ?_
      refine g_iret hX hR dX0_dayOfYear_52 rfl rfl (by decide) (by decide) ?_
      exact kint hK (by unfold placeZ bZ; split <;> omega)
    · refine g_iload hX dX0_dayOfYear_30 rfl ?_
      refine g_cS1 (c2 := 0) (s2 := 0) hX (s_X0_isLeap hst) dX0_dayOfYear_31 (by first | exact Nat.le_of_ble_eq_true rfl | simp [cat_rf, Value.category]) ⟨rfl, rfl, by decide, by decide⟩ ?_
      refine ⟨_, rfl, by omega, Kc_i ?_⟩
      refine z_ifb_eq hX dX0_dayOfYear_34 (fun c34 => ?_) (fun c34 => ?_)
      · refine g_const hX dX0_dayOfYear_41 ?_
        refine g_istore hX dX0_dayOfYear_42 ?_
        dsimp only [List.set]
        refine g_iload hX dX0_dayOfYear_44 rfl ?_
        refine g_iload hX dX0_dayOfYear_45 rfl ?_
        refine z_iadd hX dX0_dayOfYear_47 ?_
        refine g_iload hX dX0_dayOfYear_48 rfl ?_
        refine z_iadd hX dX0_dayOfYear_49 ?_
        refine g_const hX dX0_dayOfYear_50 ?_
        refine z_isub hX dX0_dayOfYear_51 ?_
        refine g_iret hX hR dX0_dayOfYear_52 rfl rfl (by decide) (by decide) ?_
        exact kint hK (by unfold placeZ bZ; split <;> omega)
      · refine g_const hX dX0_dayOfYear_37 ?_
        refine g_goto hX dX0_dayOfYear_38 ?_
        refine g_istore hX dX0_dayOfYear_42 ?_
        dsimp only [List.set]
        refine g_iload hX dX0_dayOfYear_44 rfl ?_
        refine g_iload hX dX0_dayOfYear_45 rfl ?_
        refine z_iadd hX dX0_dayOfYear_47 ?_
        refine g_iload hX dX0_dayOfYear_48 rfl ?_
        refine z_iadd hX dX0_dayOfYear_49 ?_
        refine g_const hX dX0_dayOfYear_50 ?_
        refine z_isub hX dX0_dayOfYear_51 ?_
        refine g_iret hX hR dX0_dayOfYear_52 rfl rfl (by decide) (by decide) ?_
        exact kint hK (by unfold placeZ bZ; split <;> omega)
  · refine g_iload hX dX0_dayOfYear_5 rfl ?_
    refine g_getsM hX dX0_dayOfYear_6 ?_
    refine z_alenM hX dX0_dayOfYear_9 ?_
    refine z_icmp_gt hX dX0_dayOfYear_10 (by constructor <;> omega) (by constructor <;> omega) (fun c10 => ?_) (fun c10 => ?_)
    · refine g_const hX dX0_dayOfYear_23 ?_
      refine g_istore hX dX0_dayOfYear_24 ?_
      dsimp only [List.set]
      refine g_iload hX dX0_dayOfYear_25 rfl ?_
      refine g_const hX dX0_dayOfYear_26 ?_
      refine z_icmp_le hX dX0_dayOfYear_27 (by constructor <;> omega) (by constructor <;> omega) (fun c27 => ?_) (fun c27 => ?_)
      · refine g_const hX dX0_dayOfYear_41 ?_
        refine g_istore hX dX0_dayOfYear_42 ?_
        dsimp only [List.set]
        refine g_iload hX dX0_dayOfYear_44 rfl ?_
        refine g_iload hX dX0_dayOfYear_45 rfl ?_
        refine z_iadd hX dX0_dayOfYear_47 ?_
        refine g_iload hX dX0_dayOfYear_48 rfl ?_
        refine z_iadd hX dX0_dayOfYear_49 ?_
        refine g_const hX dX0_dayOfYear_50 ?_
        refine z_isub hX dX0_dayOfYear_51 ?_
        refine g_iret hX hR dX0_dayOfYear_52 rfl rfl (by decide) (by decide) ?_
        exact kint hK (by unfold placeZ bZ; split <;> omega)
      · refine g_iload hX dX0_dayOfYear_30 rfl ?_
        refine g_cS1 (c2 := 0) (s2 := 0) hX (s_X0_isLeap hst) dX0_dayOfYear_31 (by first | exact Nat.le_of_ble_eq_true rfl | simp [cat_rf, Value.category]) ⟨rfl, rfl, by decide, by decide⟩ ?_
        refine ⟨_, rfl, by omega, Kc_i ?_⟩
        refine z_ifb_eq hX dX0_dayOfYear_34 (fun c34 => ?_) (fun c34 => ?_)
        · refine g_const hX dX0_dayOfYear_41 ?_
          refine g_istore hX dX0_dayOfYear_42 ?_
          dsimp only [List.set]
          refine g_iload hX dX0_dayOfYear_44 rfl ?_
          refine g_iload hX dX0_dayOfYear_45 rfl ?_
          refine z_iadd hX dX0_dayOfYear_47 ?_
          refine g_iload hX dX0_dayOfYear_48 rfl ?_
          refine z_iadd hX dX0_dayOfYear_49 ?_
          refine g_const hX dX0_dayOfYear_50 ?_
          refine z_isub hX dX0_dayOfYear_51 ?_
          refine g_iret hX hR dX0_dayOfYear_52 rfl rfl (by decide) (by decide) ?_
          exact kint hK (by unfold placeZ bZ; split <;> omega)
        · refine g_const hX dX0_dayOfYear_37 ?_
          refine g_goto hX dX0_dayOfYear_38 ?_
          refine g_istore hX dX0_dayOfYear_42 ?_
          dsimp only [List.set]
          refine g_iload hX dX0_dayOfYear_44 rfl ?_
          refine g_iload hX dX0_dayOfYear_45 rfl ?_
          refine z_iadd hX dX0_dayOfYear_47 ?_
          refine g_iload hX dX0_dayOfYear_48 rfl ?_
          refine z_iadd hX dX0_dayOfYear_49 ?_
          refine g_const hX dX0_dayOfYear_50 ?_
          refine z_isub hX dX0_dayOfYear_51 ?_
          refine g_iret hX hR dX0_dayOfYear_52 rfl rfl (by decide) (by decide) ?_
          exact kint hK (by unfold placeZ bZ; split <;> omega)
    · refine g_getsM hX dX0_dayOfYear_13 ?_
      refine g_iload hX dX0_dayOfYear_16 rfl ?_
      refine g_const hX dX0_dayOfYear_17 ?_
      refine z_isub hX dX0_dayOfYear_18 ?_
      refine z_ialdM hX dX0_dayOfYear_19 (by omega) (by omega) ?_
      have hfm := fMz_r (m - 1).toNat
      refine g_goto hX dX0_dayOfYear_20 ?_
      refine g_istore hX dX0_dayOfYear_24 ?_
      dsimp only [List.set]
      refine g_iload hX dX0_dayOfYear_25 rfl ?_
      refine g_const hX dX0_dayOfYear_26 ?_
      refine z_icmp_le hX dX0_dayOfYear_27 (by constructor <;> omega) (by constructor <;> omega) (fun c27 => ?_) (fun c27 => ?_)
      · refine g_const hX dX0_dayOfYear_41 ?_
        refine g_istore hX dX0_dayOfYear_42 ?_
        dsimp only [List.set]
        refine g_iload hX dX0_dayOfYear_44 rfl ?_
        refine g_iload hX dX0_dayOfYear_45 rfl ?_
        refine z_iadd hX dX0_dayOfYear_47 ?_
        refine g_iload hX dX0_dayOfYear_48 rfl ?_
        refine z_iadd hX dX0_dayOfYear_49 ?_
        refine g_const hX dX0_dayOfYear_50 ?_
        refine z_isub hX dX0_dayOfYear_51 ?_
        refine g_iret hX hR dX0_dayOfYear_52 rfl rfl (by decide) (by decide) ?_
        exact kint hK (by unfold placeZ bZ; split <;> omega)
      · refine g_iload hX dX0_dayOfYear_30 rfl ?_
        refine g_cS1 (c2 := 0) (s2 := 0) hX (s_X0_isLeap hst) dX0_dayOfYear_31 (by first | exact Nat.le_of_ble_eq_true rfl | simp [cat_rf, Value.category]) ⟨rfl, rfl, by decide, by decide⟩ ?_
        refine ⟨_, rfl, by omega, Kc_i ?_⟩
        refine z_ifb_eq hX dX0_dayOfYear_34 (fun c34 => ?_) (fun c34 => ?_)
        · refine g_const hX dX0_dayOfYear_41 ?_
          refine g_istore hX dX0_dayOfYear_42 ?_
          dsimp only [List.set]
          refine g_iload hX dX0_dayOfYear_44 rfl ?_
          refine g_iload hX dX0_dayOfYear_45 rfl ?_
          refine z_iadd hX dX0_dayOfYear_47 ?_
          refine g_iload hX dX0_dayOfYear_48 rfl ?_
          refine z_iadd hX dX0_dayOfYear_49 ?_
          refine g_const hX dX0_dayOfYear_50 ?_
          refine z_isub hX dX0_dayOfYear_51 ?_
          refine g_iret hX hR dX0_dayOfYear_52 rfl rfl (by decide) (by decide) ?_
          exact kint hK (by unfold placeZ bZ; split <;> omega)
        · refine g_const hX dX0_dayOfYear_37 ?_
          refine g_goto hX dX0_dayOfYear_38 ?_
          refine g_istore hX dX0_dayOfYear_42 ?_
          dsimp only [List.set]
          refine g_iload hX dX0_dayOfYear_44 rfl ?_
          refine g_iload hX dX0_dayOfYear_45 rfl ?_
          refine z_iadd hX dX0_dayOfYear_47 ?_
          refine g_iload hX dX0_dayOfYear_48 rfl ?_
          refine z_iadd hX dX0_dayOfYear_49 ?_
          refine g_const hX dX0_dayOfYear_50 ?_
          refine z_isub hX dX0_dayOfYear_51 ?_
          refine g_iret hX hR dX0_dayOfYear_52 rfl rfl (by decide) (by decide) ?_
          exact kint hK (by unfold placeZ bZ; split <;> omega)

def sp_X0_dayNumber : hS := fun as M sz K => ∃ y p : Int, as = [.int (iZ y), .int (iZ p)] ∧ (1600 ≤ y ∧ y ≤ 5000) ∧ (-100000 ≤ p ∧ p ≤ 100000) ∧ K (.inl (some (.int (iZ (dnumZ y p))))) M sz
theorem s_X0_dayNumber {l : Launch} {g : hG} (hst : l.stackTraces = false) : Ctr l g mX0_dayNumber sp_X0_dayNumber := by
  refine Ctr.mk9 hst (by decide) ?_ ?_
  · rintro as M sz K ⟨y, p, rfl, hy, hp, hK⟩
    exact ⟨by simp [mX0_dayNumber], cat_ok rfl⟩
  rintro X as M sz K hX rfl rfl hR ⟨y, p, rfl, hy, hp, hK⟩
  show G X 0 [.int (iZ y), .int (iZ p), U9, U9] [] M sz 0 0
  refine g_iload hX dX0_dayNumber_0 rfl ?_
  refine g_const hX dX0_dayNumber_1 ?_
  refine z_isub hX dX0_dayNumber_4 ?_
  refine g_istore hX dX0_dayNumber_5 ?_
  dsimp only [List.set]
  refine g_iload hX dX0_dayNumber_6 rfl ?_
  refine g_const hX dX0_dayNumber_7 ?_
  refine z_iadd hX dX0_dayNumber_8 ?_
  refine g_const hX dX0_dayNumber_9 ?_
  refine z_idiv hX dX0_dayNumber_10 (by constructor <;> omega) (by constructor <;> omega) (by omega) (by omega) ?_
  refine g_iload hX dX0_dayNumber_11 rfl ?_
  refine g_const hX dX0_dayNumber_12 ?_
  refine z_iadd hX dX0_dayNumber_14 ?_
  refine g_const hX dX0_dayNumber_15 ?_
  refine z_idiv hX dX0_dayNumber_17 (by constructor <;> omega) (by constructor <;> omega) (by omega) (by omega) ?_
  refine z_isub hX dX0_dayNumber_18 ?_
  refine g_iload hX dX0_dayNumber_19 rfl ?_
  refine g_const hX dX0_dayNumber_20 ?_
  refine z_iadd hX dX0_dayNumber_23 ?_
  refine g_const hX dX0_dayNumber_24 ?_
  refine z_idiv hX dX0_dayNumber_27 (by constructor <;> omega) (by constructor <;> omega) (by omega) (by omega) ?_
  refine z_iadd hX dX0_dayNumber_28 ?_
  refine g_istore hX dX0_dayNumber_29 ?_
  dsimp only [List.set]
  refine g_const hX dX0_dayNumber_30 ?_
  refine g_iload hX dX0_dayNumber_33 rfl ?_
  refine z_imul hX dX0_dayNumber_34 ?_
  refine g_iload hX dX0_dayNumber_35 rfl ?_
  refine z_iadd hX dX0_dayNumber_36 ?_
  refine g_iload hX dX0_dayNumber_37 rfl ?_
  refine z_iadd hX dX0_dayNumber_38 ?_
  refine g_iret hX hR dX0_dayNumber_39 rfl rfl (by decide) (by decide) ?_
  exact kint hK (by unfold dnumZ; omega)

theorem dnum_r {y p : Int} (hy : 1600 ≤ y ∧ y ≤ 5000) (hp : -100000 ≤ p ∧ p ≤ 100000) : p ≤ dnumZ y p ∧ dnumZ y p ≤ 2000000 := by
  unfold dnumZ
  omega

def sp_X0_dayOfWeek : hS := fun as M sz K => ∃ y p : Int, as = [.int (iZ y), .int (iZ p)] ∧ (1600 ≤ y ∧ y ≤ 5000) ∧ (0 ≤ p ∧ p ≤ 100000) ∧ K (.inl (some (.int (iZ (wdayZ y p))))) M sz
theorem s_X0_dayOfWeek {l : Launch} {g : hG} (hst : l.stackTraces = false) : Ctr l g mX0_dayOfWeek sp_X0_dayOfWeek := by
  refine Ctr.mk9 hst (by decide) ?_ ?_
  · rintro as M sz K ⟨y, p, rfl, hy, hp, hK⟩
    exact ⟨by simp [mX0_dayOfWeek], cat_ok rfl⟩
  rintro X as M sz K hX rfl rfl hR ⟨y, p, rfl, hy, hp, hK⟩
  show G X 0 [.int (iZ y), .int (iZ p)] [] M sz 0 0
  refine g_iload hX dX0_dayOfWeek_0 rfl ?_
  refine g_iload hX dX0_dayOfWeek_1 rfl ?_
  refine g_cS2 (c2 := 0) (s2 := 0) hX (s_X0_dayNumber hst) dX0_dayOfWeek_2 (by first | exact Nat.le_of_ble_eq_true rfl | simp [cat_rf, Value.category]) ⟨rfl, rfl, by decide, by decide⟩ ?_
  refine ⟨_, _, rfl, by omega, by omega, Kc_i ?_⟩
  have hdn := dnum_r (p := p) (y := y) (by omega) (by omega)
  refine g_const hX dX0_dayOfWeek_5 ?_
  refine z_iadd hX dX0_dayOfWeek_7 ?_
  refine g_const hX dX0_dayOfWeek_8 ?_
  refine z_irem hX dX0_dayOfWeek_10 (by constructor <;> omega) (by constructor <;> omega) (by omega) (by omega) ?_
  refine g_iret hX hR dX0_dayOfWeek_11 rfl rfl (by decide) (by decide) ?_
  exact hK

theorem eaE_r (y : Int) : 0 ≤ eaE y ∧ eaE y < 30 := by unfold eaE; omega
theorem eaE2_r (y : Int) : 0 ≤ eaE2 y ∧ eaE2 y < 30 := by
  have := eaE_r y
  unfold eaE2
  split <;> omega
theorem east_r (y : Int) : 22 ≤ eastZ y ∧ eastZ y ≤ 58 := by
  have := eaE2_r y
  unfold eastZ eaN
  split <;> omega

def sp_X0_easterAsDayOfMarch : hS := fun as M sz K => ∃ y : Int, as = [.int (iZ y)] ∧ (1600 ≤ y ∧ y ≤ 2399) ∧ K (.inl (some (.int (iZ (eastZ y))))) M sz
theorem s_X0_easterAsDayOfMarch {l : Launch} {g : hG} (hst : l.stackTraces = false) : Ctr l g mX0_easterAsDayOfMarch sp_X0_easterAsDayOfMarch := by
  refine Ctr.mk9 hst (by decide) ?_ ?_
  · rintro as M sz K ⟨y, rfl, hy, hK⟩
    exact ⟨by simp [mX0_easterAsDayOfMarch], cat_ok rfl⟩
  rintro X as M sz K hX rfl rfl hR ⟨y, rfl, hy, hK⟩
  show G X 0 [.int (iZ y), U9, U9, U9, U9, U9, U9, U9] [] M sz 0 0
  refine g_iload hX dX0_easterAsDayOfMarch_0 rfl ?_
  refine g_const hX dX0_easterAsDayOfMarch_1 ?_
  refine z_irem hX dX0_easterAsDayOfMarch_3 (by constructor <;> omega) (by constructor <;> omega) (by omega) (by omega) ?_
  refine g_const hX dX0_easterAsDayOfMarch_4 ?_
  refine z_iadd hX dX0_easterAsDayOfMarch_5 ?_
  refine g_istore hX dX0_easterAsDayOfMarch_6 ?_
  dsimp only [List.set]
  refine g_iload hX dX0_easterAsDayOfMarch_7 rfl ?_
  refine g_const hX dX0_easterAsDayOfMarch_8 ?_
  refine z_idiv hX dX0_easterAsDayOfMarch_10 (by constructor <;> omega) (by constructor <;> omega) (by omega) (by omega) ?_
  refine g_const hX dX0_easterAsDayOfMarch_11 ?_
  refine z_iadd hX dX0_easterAsDayOfMarch_12 ?_
  refine g_istore hX dX0_easterAsDayOfMarch_13 ?_
  dsimp only [List.set]
  refine g_const hX dX0_easterAsDayOfMarch_14 ?_
  refine g_iload hX dX0_easterAsDayOfMarch_15 rfl ?_
  refine z_imul hX dX0_easterAsDayOfMarch_16 ?_
  refine g_const hX dX0_easterAsDayOfMarch_17 ?_
  refine z_idiv hX dX0_easterAsDayOfMarch_18 (by constructor <;> omega) (by constructor <;> omega) (by omega) (by omega) ?_
  refine g_const hX dX0_easterAsDayOfMarch_19 ?_
  refine z_isub hX dX0_easterAsDayOfMarch_21 ?_
  refine g_istore hX dX0_easterAsDayOfMarch_22 ?_
  dsimp only [List.set]
  rw [show (3 * (y / 100 + 1) / 4 - 12 : Int) = eaX y from rfl]
  have heaX : 0 ≤ eaX y ∧ eaX y ≤ 8 := by unfold eaX; omega
  refine g_const hX dX0_easterAsDayOfMarch_23 ?_
  refine g_iload hX dX0_easterAsDayOfMarch_25 rfl ?_
  refine z_imul hX dX0_easterAsDayOfMarch_26 ?_
  refine g_const hX dX0_easterAsDayOfMarch_27 ?_
  refine z_iadd hX dX0_easterAsDayOfMarch_28 ?_
  refine g_const hX dX0_easterAsDayOfMarch_29 ?_
  refine z_idiv hX dX0_easterAsDayOfMarch_31 (by constructor <;> omega) (by constructor <;> omega) (by omega) (by omega) ?_
  refine g_const hX dX0_easterAsDayOfMarch_32 ?_
  refine z_isub hX dX0_easterAsDayOfMarch_33 ?_
  refine g_istore hX dX0_easterAsDayOfMarch_34 ?_
  dsimp only [List.set]
  rw [show ((8 * (y / 100 + 1) + 5) / 25 - 5 : Int) = eaZ y from rfl]
  have heaZ : 0 ≤ eaZ y ∧ eaZ y ≤ 8 := by unfold eaZ; omega
  refine g_const hX dX0_easterAsDayOfMarch_36 ?_
  refine g_iload hX dX0_easterAsDayOfMarch_37 rfl ?_
  refine z_imul hX dX0_easterAsDayOfMarch_38 ?_
  refine g_const hX dX0_easterAsDayOfMarch_39 ?_
  refine z_idiv hX dX0_easterAsDayOfMarch_40 (by constructor <;> omega) (by constructor <;> omega) (by omega) (by omega) ?_
  refine g_iload hX dX0_easterAsDayOfMarch_41 rfl ?_
  refine z_isub hX dX0_easterAsDayOfMarch_42 ?_
  refine g_const hX dX0_easterAsDayOfMarch_43 ?_
  refine z_isub hX dX0_easterAsDayOfMarch_45 ?_
  refine g_istore hX dX0_easterAsDayOfMarch_46 ?_
  dsimp only [List.set]
  rw [show (5 * y / 4 - eaX y - 10 : Int) = eaD y from rfl]
  have heaD : 1000 ≤ eaD y ∧ eaD y ≤ 4000 := by unfold eaD; omega
  refine g_const hX dX0_easterAsDayOfMarch_48 ?_
  refine g_iload hX dX0_easterAsDayOfMarch_50 rfl ?_
  refine z_imul hX dX0_easterAsDayOfMarch_51 ?_
  refine g_const hX dX0_easterAsDayOfMarch_52 ?_
  refine z_iadd hX dX0_easterAsDayOfMarch_54 ?_
  refine g_iload hX dX0_easterAsDayOfMarch_55 rfl ?_
  refine z_iadd hX dX0_easterAsDayOfMarch_57 ?_
  refine g_iload hX dX0_easterAsDayOfMarch_58 rfl ?_
  refine z_isub hX dX0_easterAsDayOfMarch_59 ?_
  refine g_const hX dX0_easterAsDayOfMarch_60 ?_
  refine z_irem hX dX0_easterAsDayOfMarch_62 (by constructor <;> omega) (by constructor <;> omega) (by omega) (by omega) ?_
  refine g_istore hX dX0_easterAsDayOfMarch_63 ?_
  dsimp only [List.set]
  rw [show ((11 * (y % 19 + 1) + 20 + eaZ y - eaX y) % 30 : Int) = eaE y from rfl]
  have heaE : 0 ≤ eaE y ∧ eaE y < 30 := by unfold eaE; omega
  refine g_iload hX dX0_easterAsDayOfMarch_65 rfl ?_
  refine g_const hX dX0_easterAsDayOfMarch_67 ?_
  refine z_icmp_eq hX dX0_easterAsDayOfMarch_69 (by constructor <;> omega) (by constructor <;> omega) (fun c69 => ?_) (fun c69 => ?_)
  · refine z_iinc hX dX0_easterAsDayOfMarch_85 rfl ?_
    dsimp only [List.set]
    refine g_const hX dX0_easterAsDayOfMarch_88 ?_
    refine g_iload hX dX0_easterAsDayOfMarch_90 rfl ?_
    refine z_isub hX dX0_easterAsDayOfMarch_92 ?_
    refine g_istore hX dX0_easterAsDayOfMarch_93 ?_
    dsimp only [List.set]
    refine g_iload hX dX0_easterAsDayOfMarch_95 rfl ?_
    refine g_const hX dX0_easterAsDayOfMarch_97 ?_
    refine z_icmp_ge hX dX0_easterAsDayOfMarch_99 (by constructor <;> omega) (by constructor <;> omega) (fun c99 => ?_) (fun c99 => ?_)
    · refine g_iload hX dX0_easterAsDayOfMarch_105 rfl ?_
      refine g_const hX dX0_easterAsDayOfMarch_107 ?_
      refine z_iadd hX dX0_easterAsDayOfMarch_109 ?_
      refine g_iload hX dX0_easterAsDayOfMarch_110 rfl ?_
      refine g_iload hX dX0_easterAsDayOfMarch_112 rfl ?_
      refine z_iadd hX dX0_easterAsDayOfMarch_114 ?_
      refine g_const hX dX0_easterAsDayOfMarch_115 ?_
      refine z_irem hX dX0_easterAsDayOfMarch_117 (by constructor <;> omega) (by constructor <;> omega) (by omega) (by omega) ?_
      refine z_isub hX dX0_easterAsDayOfMarch_118 ?_
      refine g_iret hX hR dX0_easterAsDayOfMarch_119 rfl rfl (by decide) (by decide) ?_
      exact kint hK (by unfold eastZ eaN eaE2; simp_all <;> omega)
    · refine z_iinc hX dX0_easterAsDayOfMarch_102 rfl ?_
      dsimp only [List.set]
      refine g_iload hX dX0_easterAsDayOfMarch_105 rfl ?_
      refine g_const hX dX0_easterAsDayOfMarch_107 ?_
      refine z_iadd hX dX0_easterAsDayOfMarch_109 ?_
      refine g_iload hX dX0_easterAsDayOfMarch_110 rfl ?_
      refine g_iload hX dX0_easterAsDayOfMarch_112 rfl ?_
      refine z_iadd hX dX0_easterAsDayOfMarch_114 ?_
      refine g_const hX dX0_easterAsDayOfMarch_115 ?_
      refine z_irem hX dX0_easterAsDayOfMarch_117 (by constructor <;> omega) (by constructor <;> omega) (by omega) (by omega) ?_
      refine z_isub hX dX0_easterAsDayOfMarch_118 ?_
      refine g_iret hX hR dX0_easterAsDayOfMarch_119 rfl rfl (by decide) (by decide) ?_
      exact kint hK (by unfold eastZ eaN eaE2; simp_all <;> omega)
  · refine g_iload hX dX0_easterAsDayOfMarch_72 rfl ?_
    refine g_const hX dX0_easterAsDayOfMarch_74 ?_
    refine z_icmp_ne hX dX0_easterAsDayOfMarch_76 (by constructor <;> omega) (by constructor <;> omega) (fun c76 => ?_) (fun c76 => ?_)
    · refine g_const hX dX0_easterAsDayOfMarch_88 ?_
      refine g_iload hX dX0_easterAsDayOfMarch_90 rfl ?_
      refine z_isub hX dX0_easterAsDayOfMarch_92 ?_
      refine g_istore hX dX0_easterAsDayOfMarch_93 ?_
      dsimp only [List.set]
      refine g_iload hX dX0_easterAsDayOfMarch_95 rfl ?_
      refine g_const hX dX0_easterAsDayOfMarch_97 ?_
      refine z_icmp_ge hX dX0_easterAsDayOfMarch_99 (by constructor <;> omega) (by constructor <;> omega) (fun c99 => ?_) (fun c99 => ?_)
      · refine g_iload hX dX0_easterAsDayOfMarch_105 rfl ?_
        refine g_const hX dX0_easterAsDayOfMarch_107 ?_
        refine z_iadd hX dX0_easterAsDayOfMarch_109 ?_
        refine g_iload hX dX0_easterAsDayOfMarch_110 rfl ?_
        refine g_iload hX dX0_easterAsDayOfMarch_112 rfl ?_
        refine z_iadd hX dX0_easterAsDayOfMarch_114 ?_
        refine g_const hX dX0_easterAsDayOfMarch_115 ?_
        refine z_irem hX dX0_easterAsDayOfMarch_117 (by constructor <;> omega) (by constructor <;> omega) (by omega) (by omega) ?_
        refine z_isub hX dX0_easterAsDayOfMarch_118 ?_
        refine g_iret hX hR dX0_easterAsDayOfMarch_119 rfl rfl (by decide) (by decide) ?_
        exact kint hK (by unfold eastZ eaN eaE2; simp_all <;> omega)
      · refine z_iinc hX dX0_easterAsDayOfMarch_102 rfl ?_
        dsimp only [List.set]
        refine g_iload hX dX0_easterAsDayOfMarch_105 rfl ?_
        refine g_const hX dX0_easterAsDayOfMarch_107 ?_
        refine z_iadd hX dX0_easterAsDayOfMarch_109 ?_
        refine g_iload hX dX0_easterAsDayOfMarch_110 rfl ?_
        refine g_iload hX dX0_easterAsDayOfMarch_112 rfl ?_
        refine z_iadd hX dX0_easterAsDayOfMarch_114 ?_
        refine g_const hX dX0_easterAsDayOfMarch_115 ?_
        refine z_irem hX dX0_easterAsDayOfMarch_117 (by constructor <;> omega) (by constructor <;> omega) (by omega) (by omega) ?_
        refine z_isub hX dX0_easterAsDayOfMarch_118 ?_
        refine g_iret hX hR dX0_easterAsDayOfMarch_119 rfl rfl (by decide) (by decide) ?_
        exact kint hK (by unfold eastZ eaN eaE2; simp_all <;> omega)
    · refine g_iload hX dX0_easterAsDayOfMarch_79 rfl ?_
      refine g_const hX dX0_easterAsDayOfMarch_80 ?_
      refine z_icmp_le hX dX0_easterAsDayOfMarch_82 (by constructor <;> omega) (by constructor <;> omega) (fun c82 => ?_) (fun c82 => ?_)
      · refine g_const hX dX0_easterAsDayOfMarch_88 ?_
        refine g_iload hX dX0_easterAsDayOfMarch_90 rfl ?_
        refine z_isub hX dX0_easterAsDayOfMarch_92 ?_
        refine g_istore hX dX0_easterAsDayOfMarch_93 ?_
        dsimp only [List.set]
        refine g_iload hX dX0_easterAsDayOfMarch_95 rfl ?_
        refine g_const hX dX0_easterAsDayOfMarch_97 ?_
        refine z_icmp_ge hX dX0_easterAsDayOfMarch_99 (by constructor <;> omega) (by constructor <;> omega) (fun c99 => ?_) (fun c99 => ?_)
        · refine g_iload hX dX0_easterAsDayOfMarch_105 rfl ?_
          refine g_const hX dX0_easterAsDayOfMarch_107 ?_
          refine z_iadd hX dX0_easterAsDayOfMarch_109 ?_
          refine g_iload hX dX0_easterAsDayOfMarch_110 rfl ?_
          refine g_iload hX dX0_easterAsDayOfMarch_112 rfl ?_
          refine z_iadd hX dX0_easterAsDayOfMarch_114 ?_
          refine g_const hX dX0_easterAsDayOfMarch_115 ?_
          refine z_irem hX dX0_easterAsDayOfMarch_117 (by constructor <;> omega) (by constructor <;> omega) (by omega) (by omega) ?_
          refine z_isub hX dX0_easterAsDayOfMarch_118 ?_
          refine g_iret hX hR dX0_easterAsDayOfMarch_119 rfl rfl (by decide) (by decide) ?_
          exact kint hK (by unfold eastZ eaN eaE2; simp_all <;> omega)
        · refine z_iinc hX dX0_easterAsDayOfMarch_102 rfl ?_
          dsimp only [List.set]
          refine g_iload hX dX0_easterAsDayOfMarch_105 rfl ?_
          refine g_const hX dX0_easterAsDayOfMarch_107 ?_
          refine z_iadd hX dX0_easterAsDayOfMarch_109 ?_
          refine g_iload hX dX0_easterAsDayOfMarch_110 rfl ?_
          refine g_iload hX dX0_easterAsDayOfMarch_112 rfl ?_
          refine z_iadd hX dX0_easterAsDayOfMarch_114 ?_
          refine g_const hX dX0_easterAsDayOfMarch_115 ?_
          refine z_irem hX dX0_easterAsDayOfMarch_117 (by constructor <;> omega) (by constructor <;> omega) (by omega) (by omega) ?_
          refine z_isub hX dX0_easterAsDayOfMarch_118 ?_
          refine g_iret hX hR dX0_easterAsDayOfMarch_119 rfl rfl (by decide) (by decide) ?_
          exact kint hK (by unfold eastZ eaN eaE2; simp_all <;> omega)
      · refine z_iinc hX dX0_easterAsDayOfMarch_85 rfl ?_
        dsimp only [List.set]
        refine g_const hX dX0_easterAsDayOfMarch_88 ?_
        refine g_iload hX dX0_easterAsDayOfMarch_90 rfl ?_
        refine z_isub hX dX0_easterAsDayOfMarch_92 ?_
        refine g_istore hX dX0_easterAsDayOfMarch_93 ?_
        dsimp only [List.set]
        refine g_iload hX dX0_easterAsDayOfMarch_95 rfl ?_
        refine g_const hX dX0_easterAsDayOfMarch_97 ?_
        refine z_icmp_ge hX dX0_easterAsDayOfMarch_99 (by constructor <;> omega) (by constructor <;> omega) (fun c99 => ?_) (fun c99 => ?_)
        · refine g_iload hX dX0_easterAsDayOfMarch_105 rfl ?_
          refine g_const hX dX0_easterAsDayOfMarch_107 ?_
          refine z_iadd hX dX0_easterAsDayOfMarch_109 ?_
          refine g_iload hX dX0_easterAsDayOfMarch_110 rfl ?_
          refine g_iload hX dX0_easterAsDayOfMarch_112 rfl ?_
          refine z_iadd hX dX0_easterAsDayOfMarch_114 ?_
          refine g_const hX dX0_easterAsDayOfMarch_115 ?_
          refine z_irem hX dX0_easterAsDayOfMarch_117 (by constructor <;> omega) (by constructor <;> omega) (by omega) (by omega) ?_
          refine z_isub hX dX0_easterAsDayOfMarch_118 ?_
          refine g_iret hX hR dX0_easterAsDayOfMarch_119 rfl rfl (by decide) (by decide) ?_
          exact kint hK (by unfold eastZ eaN eaE2; simp_all <;> omega)
        · refine z_iinc hX dX0_easterAsDayOfMarch_102 rfl ?_
          dsimp only [List.set]
          refine g_iload hX dX0_easterAsDayOfMarch_105 rfl ?_
          refine g_const hX dX0_easterAsDayOfMarch_107 ?_
          refine z_iadd hX dX0_easterAsDayOfMarch_109 ?_
          refine g_iload hX dX0_easterAsDayOfMarch_110 rfl ?_
          refine g_iload hX dX0_easterAsDayOfMarch_112 rfl ?_
          refine z_iadd hX dX0_easterAsDayOfMarch_114 ?_
          refine g_const hX dX0_easterAsDayOfMarch_115 ?_
          refine z_irem hX dX0_easterAsDayOfMarch_117 (by constructor <;> omega) (by constructor <;> omega) (by omega) (by omega) ?_
          refine z_isub hX dX0_easterAsDayOfMarch_118 ?_
          refine g_iret hX hR dX0_easterAsDayOfMarch_119 rfl rfl (by decide) (by decide) ?_
          exact kint hK (by unfold eastZ eaN eaE2; simp_all <;> omega)

theorem place_r {y m d : Int} (hm : 1 ≤ m ∧ m ≤ 12) : d - 1 ≤ placeZ y m d ∧ placeZ y m d ≤ 334 + d := by
  have h1 := fMz_r (m - 1).toNat
  have h2 := bZ_le (2 < m ∧ leapZ y)
  unfold placeZ
  omega
theorem monZ_s (y p : Int) (n : Nat) (m : Int) : monZ y p (n + 1) m = if m < 12 ∧ placeZ y (m + 1) 1 ≤ p then monZ y p n (m + 1) else m := rfl
theorem mon_r (y p : Int) : ∀ (n : Nat) (m : Int), 1 ≤ m → m ≤ 12 → m ≤ monZ y p n m ∧ monZ y p n m ≤ 12
  | 0, m, h1, h2 => ⟨Int.le_refl m, h2⟩
  | n + 1, m, h1, h2 => by
    unfold monZ
    split
    · have := mon_r y p n (m + 1) (by omega) (by omega)
      omega
    · omega
theorem mon_top (y p : Int) (n : Nat) : monZ y p n 12 = 12 := by
  cases n <;> simp [monZ]

def sp_X0_monthAndDay : hS := fun as M sz K => ∃ y p : Int, as = [.int (iZ y), .int (iZ p)] ∧ (1600 ≤ y ∧ y ≤ 2399) ∧ (-1000 ≤ p ∧ p ≤ 1000) ∧ K (.inl (some (.int (iZ (dateZ y p))))) M sz
theorem s_X0_monthAndDay {l : Launch} {g : hG} (hst : l.stackTraces = false) : Ctr l g mX0_monthAndDay sp_X0_monthAndDay := by
  refine Ctr.mk9 hst (by decide) ?_ ?_
  · rintro as M sz K ⟨y, p, rfl, hy, hp, hK⟩
    exact ⟨by simp [mX0_monthAndDay], cat_ok rfl⟩
  rintro X as M sz K hX rfl rfl hR ⟨y, p, rfl, hy, hp, hK⟩
  show G X 0 [.int (iZ y), .int (iZ p), U9] [] M sz 0 0
  have loop : ∀ (k9 : Nat) (m : Int), 1 ≤ m → m ≤ 12 → m + k9 = 13 → monZ y p k9 m = monZ y p 12 1 → G X 2 [.int (iZ y), .int (iZ p), .int (iZ m)] [] M sz 0 0 := by
    intro k9
    induction k9 with
    | zero => intro m h1 h2 h3; omega
    | succ k9 ih =>
    intro m h1 h2 h3 hs
    refine g_iload hX dX0_monthAndDay_2 rfl ?_
    refine g_const hX dX0_monthAndDay_3 ?_
    refine z_icmp_ge hX dX0_monthAndDay_5 (by constructor <;> omega) (by constructor <;> omega) (fun c5 => ?_) (fun c5 => ?_)
    · have hs : m = monZ y p 12 1 := by rw [← hs]; first | (have e9 : m = 12 := by omega) ; (rw [e9, mon_top]) | (rw [monZ_s, if_neg (by omega)])
      refine g_const hX dX0_monthAndDay_26 ?_
      refine g_iload hX dX0_monthAndDay_28 rfl ?_
      refine z_imul hX dX0_monthAndDay_29 ?_
      refine g_iload hX dX0_monthAndDay_30 rfl ?_
      refine z_iadd hX dX0_monthAndDay_31 ?_
      refine g_iload hX dX0_monthAndDay_32 rfl ?_
      refine g_iload hX dX0_monthAndDay_33 rfl ?_
      refine g_const hX dX0_monthAndDay_34 ?_
      refine g_cS3 (c2 := 0) (s2 := 0) hX (s_X0_dayOfYear hst) dX0_monthAndDay_35 (by first | exact Nat.le_of_ble_eq_true rfl | simp [cat_rf, Value.category]) ⟨rfl, rfl, by decide, by decide⟩ ?_
      refine ⟨_, _, _, rfl, by omega, by omega, by omega, Kc_i ?_⟩
      have hpl := place_r (y := y) (m := m) (d := 1) (by omega)
      refine z_isub hX dX0_monthAndDay_38 ?_
      refine g_const hX dX0_monthAndDay_39 ?_
      refine z_iadd hX dX0_monthAndDay_40 ?_
      refine g_iret hX hR dX0_monthAndDay_41 rfl rfl (by decide) (by decide) ?_
      exact kint hK (by rw [hs]; unfold dateZ; omega)
    · refine g_iload hX dX0_monthAndDay_8 rfl ?_
      refine g_iload hX dX0_monthAndDay_9 rfl ?_
      refine g_iload hX dX0_monthAndDay_10 rfl ?_
      refine g_const hX dX0_monthAndDay_11 ?_
      refine z_iadd hX dX0_monthAndDay_12 ?_
      refine g_const hX dX0_monthAndDay_13 ?_
      refine g_cS3 (c2 := 0) (s2 := 0) hX (s_X0_dayOfYear hst) dX0_monthAndDay_14 (by first | exact Nat.le_of_ble_eq_true rfl | simp [cat_rf, Value.category]) ⟨rfl, rfl, by decide, by decide⟩ ?_
      refine ⟨_, _, _, rfl, by omega, by omega, by omega, Kc_i ?_⟩
      have hpl := place_r (y := y) (m := (m + 1)) (d := 1) (by omega)
      refine z_icmp_lt hX dX0_monthAndDay_17 (by constructor <;> omega) (by constructor <;> omega) (fun c17 => ?_) (fun c17 => ?_)
      · have hs : m = monZ y p 12 1 := by rw [← hs]; first | (have e9 : m = 12 := by omega) ; (rw [e9, mon_top]) | (rw [monZ_s, if_neg (by omega)])
        refine g_const hX dX0_monthAndDay_26 ?_
        refine g_iload hX dX0_monthAndDay_28 rfl ?_
        refine z_imul hX dX0_monthAndDay_29 ?_
        refine g_iload hX dX0_monthAndDay_30 rfl ?_
        refine z_iadd hX dX0_monthAndDay_31 ?_
        refine g_iload hX dX0_monthAndDay_32 rfl ?_
        refine g_iload hX dX0_monthAndDay_33 rfl ?_
        refine g_const hX dX0_monthAndDay_34 ?_
        refine g_cS3 (c2 := 0) (s2 := 0) hX (s_X0_dayOfYear hst) dX0_monthAndDay_35 (by first | exact Nat.le_of_ble_eq_true rfl | simp [cat_rf, Value.category]) ⟨rfl, rfl, by decide, by decide⟩ ?_
        refine ⟨_, _, _, rfl, by omega, by omega, by omega, Kc_i ?_⟩
        have hpl := place_r (y := y) (m := m) (d := 1) (by omega)
        refine z_isub hX dX0_monthAndDay_38 ?_
        refine g_const hX dX0_monthAndDay_39 ?_
        refine z_iadd hX dX0_monthAndDay_40 ?_
        refine g_iret hX hR dX0_monthAndDay_41 rfl rfl (by decide) (by decide) ?_
        exact kint hK (by rw [hs]; unfold dateZ; omega)
      · refine z_iinc hX dX0_monthAndDay_20 rfl ?_
        dsimp only [List.set]
        refine g_goto hX dX0_monthAndDay_23 ?_
        exact ih (m + 1) (by omega) (by omega) (by omega) (by rw [← hs, monZ_s, if_pos (by omega)])
  refine g_const hX dX0_monthAndDay_0 ?_
  refine g_istore hX dX0_monthAndDay_1 ?_
  dsimp only [List.set]
  exact loop 12 1 (by omega) (by omega) (by omega) rfl

def ebA (y : Int) : Int := y % 19
def ebB (y : Int) : Int := y / 100
def ebC (y : Int) : Int := y % 100
def ebG (y : Int) : Int := (ebB y - (ebB y + 8) / 25 + 1) / 3
def ebH (y : Int) : Int := (19 * ebA y + ebB y - ebB y / 4 - ebG y + 15) % 30
def ebL (y : Int) : Int := (32 + 2 * (ebB y % 4) + 2 * (ebC y / 4) - ebH y - ebC y % 4) % 7
def ebM (y : Int) : Int := (ebA y + 11 * ebH y + 22 * ebL y) / 451
def ebS (y : Int) : Int := ebH y + ebL y - 7 * ebM y + 114
def eastAZ (y : Int) : Int := 100 * (ebS y / 31) + ebS y % 31 + 1
def eastMDZ (y : Int) : Int := if 31 < eastZ y then 400 + eastZ y - 31 else 300 + eastZ y
set_option maxRecDepth 100000 in
theorem east_both9 : ∀ k : Nat, k < 800 → eastAZ (1600 + (k : Int)) = eastMDZ (1600 + (k : Int)) := by decide +kernel
theorem east_both {y : Int} (h1 : 1600 ≤ y) (h2 : y ≤ 2399) : eastAZ y = eastMDZ y := by
  have := east_both9 (y - 1600).toNat (by omega)
  rw [show (1600 : Int) + ((y - 1600).toNat : Int) = y by omega] at this
  exact this

def sp_X0_easterByRests : hS := fun as M sz K => ∃ y : Int, as = [.int (iZ y)] ∧ (1600 ≤ y ∧ y ≤ 2399) ∧ K (.inl (some (.int (iZ (eastAZ y))))) M sz
theorem s_X0_easterByRests {l : Launch} {g : hG} (hst : l.stackTraces = false) : Ctr l g mX0_easterByRests sp_X0_easterByRests := by
  refine Ctr.mk9 hst (by decide) ?_ ?_
  · rintro as M sz K ⟨y, rfl, hy, hK⟩
    exact ⟨by simp [mX0_easterByRests], cat_ok rfl⟩
  rintro X as M sz K hX rfl rfl hR ⟨y, rfl, hy, hK⟩
  show G X 0 [.int (iZ y), U9, U9, U9, U9, U9, U9, U9, U9] [] M sz 0 0
  refine g_iload hX dX0_easterByRests_0 rfl ?_
  refine g_const hX dX0_easterByRests_1 ?_
  refine z_irem hX dX0_easterByRests_3 (by constructor <;> omega) (by constructor <;> omega) (by omega) (by omega) ?_
  refine g_istore hX dX0_easterByRests_4 ?_
  dsimp only [List.set]
  rw [show (y % 19 : Int) = ebA y from rfl]
  have hebA : 0 ≤ ebA y ∧ ebA y ≤ 18 := by unfold ebA; omega
  refine g_iload hX dX0_easterByRests_5 rfl ?_
  refine g_const hX dX0_easterByRests_6 ?_
  refine z_idiv hX dX0_easterByRests_8 (by constructor <;> omega) (by constructor <;> omega) (by omega) (by omega) ?_
  refine g_istore hX dX0_easterByRests_9 ?_
  dsimp only [List.set]
  rw [show (y / 100 : Int) = ebB y from rfl]
  have hebB : 16 ≤ ebB y ∧ ebB y ≤ 23 := by unfold ebB; omega
  refine g_iload hX dX0_easterByRests_10 rfl ?_
  refine g_const hX dX0_easterByRests_11 ?_
  refine z_irem hX dX0_easterByRests_13 (by constructor <;> omega) (by constructor <;> omega) (by omega) (by omega) ?_
  refine g_istore hX dX0_easterByRests_14 ?_
  dsimp only [List.set]
  rw [show (y % 100 : Int) = ebC y from rfl]
  have hebC : 0 ≤ ebC y ∧ ebC y ≤ 99 := by unfold ebC; omega
  refine g_iload hX dX0_easterByRests_15 rfl ?_
  refine g_iload hX dX0_easterByRests_16 rfl ?_
  refine g_const hX dX0_easterByRests_17 ?_
  refine z_iadd hX dX0_easterByRests_19 ?_
  refine g_const hX dX0_easterByRests_20 ?_
  refine z_idiv hX dX0_easterByRests_22 (by constructor <;> omega) (by constructor <;> omega) (by omega) (by omega) ?_
  refine z_isub hX dX0_easterByRests_23 ?_
  refine g_const hX dX0_easterByRests_24 ?_
  refine z_iadd hX dX0_easterByRests_25 ?_
  refine g_const hX dX0_easterByRests_26 ?_
  refine z_idiv hX dX0_easterByRests_27 (by constructor <;> omega) (by constructor <;> omega) (by omega) (by omega) ?_
  refine g_istore hX dX0_easterByRests_28 ?_
  dsimp only [List.set]
  rw [show ((ebB y - (ebB y + 8) / 25 + 1) / 3 : Int) = ebG y from rfl]
  have hebG : 0 ≤ ebG y ∧ ebG y ≤ 10 := by unfold ebG; omega
  refine g_const hX dX0_easterByRests_30 ?_
  refine g_iload hX dX0_easterByRests_32 rfl ?_
  refine z_imul hX dX0_easterByRests_33 ?_
  refine g_iload hX dX0_easterByRests_34 rfl ?_
  refine z_iadd hX dX0_easterByRests_35 ?_
  refine g_iload hX dX0_easterByRests_36 rfl ?_
  refine g_const hX dX0_easterByRests_37 ?_
  refine z_idiv hX dX0_easterByRests_38 (by constructor <;> omega) (by constructor <;> omega) (by omega) (by omega) ?_
  refine z_isub hX dX0_easterByRests_39 ?_
  refine g_iload hX dX0_easterByRests_40 rfl ?_
  refine z_isub hX dX0_easterByRests_42 ?_
  refine g_const hX dX0_easterByRests_43 ?_
  refine z_iadd hX dX0_easterByRests_45 ?_
  refine g_const hX dX0_easterByRests_46 ?_
  refine z_irem hX dX0_easterByRests_48 (by constructor <;> omega) (by constructor <;> omega) (by omega) (by omega) ?_
  refine g_istore hX dX0_easterByRests_49 ?_
  dsimp only [List.set]
  rw [show ((19 * ebA y + ebB y - ebB y / 4 - ebG y + 15) % 30 : Int) = ebH y from rfl]
  have hebH : 0 ≤ ebH y ∧ ebH y ≤ 29 := by unfold ebH; omega
  refine g_const hX dX0_easterByRests_51 ?_
  refine g_const hX dX0_easterByRests_53 ?_
  refine g_iload hX dX0_easterByRests_54 rfl ?_
  refine g_const hX dX0_easterByRests_55 ?_
  refine z_irem hX dX0_easterByRests_56 (by constructor <;> omega) (by constructor <;> omega) (by omega) (by omega) ?_
  refine z_imul hX dX0_easterByRests_57 ?_
  refine z_iadd hX dX0_easterByRests_58 ?_
  refine g_const hX dX0_easterByRests_59 ?_
  refine g_iload hX dX0_easterByRests_60 rfl ?_
  refine g_const hX dX0_easterByRests_61 ?_
  refine z_idiv hX dX0_easterByRests_62 (by constructor <;> omega) (by constructor <;> omega) (by omega) (by omega) ?_
  refine z_imul hX dX0_easterByRests_63 ?_
  refine z_iadd hX dX0_easterByRests_64 ?_
  refine g_iload hX dX0_easterByRests_65 rfl ?_
  refine z_isub hX dX0_easterByRests_67 ?_
  refine g_iload hX dX0_easterByRests_68 rfl ?_
  refine g_const hX dX0_easterByRests_69 ?_
  refine z_irem hX dX0_easterByRests_70 (by constructor <;> omega) (by constructor <;> omega) (by omega) (by omega) ?_
  refine z_isub hX dX0_easterByRests_71 ?_
  refine g_const hX dX0_easterByRests_72 ?_
  refine z_irem hX dX0_easterByRests_74 (by constructor <;> omega) (by constructor <;> omega) (by omega) (by omega) ?_
  refine g_istore hX dX0_easterByRests_75 ?_
  dsimp only [List.set]
  rw [show ((32 + 2 * (ebB y % 4) + 2 * (ebC y / 4) - ebH y - ebC y % 4) % 7 : Int) = ebL y from rfl]
  have hebL : 0 ≤ ebL y ∧ ebL y ≤ 6 := by unfold ebL; omega
  refine g_iload hX dX0_easterByRests_77 rfl ?_
  refine g_const hX dX0_easterByRests_78 ?_
  refine g_iload hX dX0_easterByRests_80 rfl ?_
  refine z_imul hX dX0_easterByRests_82 ?_
  refine z_iadd hX dX0_easterByRests_83 ?_
  refine g_const hX dX0_easterByRests_84 ?_
  refine g_iload hX dX0_easterByRests_86 rfl ?_
  refine z_imul hX dX0_easterByRests_88 ?_
  refine z_iadd hX dX0_easterByRests_89 ?_
  refine g_const hX dX0_easterByRests_90 ?_
  refine z_idiv hX dX0_easterByRests_93 (by constructor <;> omega) (by constructor <;> omega) (by omega) (by omega) ?_
  refine g_istore hX dX0_easterByRests_94 ?_
  dsimp only [List.set]
  rw [show ((ebA y + 11 * ebH y + 22 * ebL y) / 451 : Int) = ebM y from rfl]
  have hebM : 0 ≤ ebM y ∧ ebM y ≤ 3 := by unfold ebM; omega
  refine g_iload hX dX0_easterByRests_96 rfl ?_
  refine g_iload hX dX0_easterByRests_98 rfl ?_
  refine z_iadd hX dX0_easterByRests_100 ?_
  refine g_const hX dX0_easterByRests_101 ?_
  refine g_iload hX dX0_easterByRests_103 rfl ?_
  refine z_imul hX dX0_easterByRests_105 ?_
  refine z_isub hX dX0_easterByRests_106 ?_
  refine g_const hX dX0_easterByRests_107 ?_
  refine z_iadd hX dX0_easterByRests_109 ?_
  refine g_istore hX dX0_easterByRests_110 ?_
  dsimp only [List.set]
  rw [show (ebH y + ebL y - 7 * ebM y + 114 : Int) = ebS y from rfl]
  have hebS : 90 ≤ ebS y ∧ ebS y ≤ 150 := by unfold ebS; omega
  refine g_const hX dX0_easterByRests_112 ?_
  refine g_iload hX dX0_easterByRests_114 rfl ?_
  refine g_const hX dX0_easterByRests_116 ?_
  refine z_idiv hX dX0_easterByRests_118 (by constructor <;> omega) (by constructor <;> omega) (by omega) (by omega) ?_
  refine z_imul hX dX0_easterByRests_119 ?_
  refine g_iload hX dX0_easterByRests_120 rfl ?_
  refine g_const hX dX0_easterByRests_122 ?_
  refine z_irem hX dX0_easterByRests_124 (by constructor <;> omega) (by constructor <;> omega) (by omega) (by omega) ?_
  refine z_iadd hX dX0_easterByRests_125 ?_
  refine g_const hX dX0_easterByRests_126 ?_
  refine z_iadd hX dX0_easterByRests_127 ?_
  refine g_iret hX hR dX0_easterByRests_128 rfl rfl (by decide) (by decide) ?_
  exact kint hK (by unfold eastAZ; rfl)
