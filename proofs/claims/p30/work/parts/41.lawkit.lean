/-! the law's calls: what they answer, by numbers; states as written lists -/
abbrev ya_I : Int := -7000001
abbrev ya_A : Int := -7000002
abbrev ya_S : Int := -7000003
theorem res9_0 {E : Int → String} {o : OC} (h : o.1 = 0) : res9 E o = .inl (some (.int (iZ o.2.1))) := if_pos h
theorem res9_1 {a b c : String} {o : OC} (h : o.1 = 1) : res9 (E3 a b c) o = .inr a := by
  unfold res9 E3
  rw [h]
  rfl
theorem res9_2 {a b c : String} {o : OC} (h : o.1 = 2) : res9 (E3 a b c) o = .inr b := by
  unfold res9 E3
  rw [h]
  rfl
theorem res9_3 {a b c : String} {o : OC} (h : o.1 = 3) : res9 (E3 a b c) o = .inr c := by
  unfold res9 E3
  rw [h]
  rfl
/-- what the law makes of an outcome: an answer, or a number for what is thrown -/
def ya_cv (a b c : Int) (o : OC) : Int × SG := (if o.1 = 0 then o.2.1 else if o.1 = 1 then a else if o.1 = 2 then b else c, o.2.2)
theorem ya_cv0 {a b c : Int} {o : OC} (h : o.1 = 0) : ya_cv a b c o = (o.2.1, o.2.2) := by
  unfold ya_cv
  rw [if_pos h]
theorem ya_cv1 {a b c : Int} {o : OC} (h : o.1 = 1) : ya_cv a b c o = (a, o.2.2) := by
  unfold ya_cv
  rw [h]
  rfl
theorem ya_cv2 {a b c : Int} {o : OC} (h : o.1 = 2) : ya_cv a b c o = (b, o.2.2) := by
  unfold ya_cv
  rw [h]
  rfl
theorem ya_cv3 {a b c : Int} {o : OC} (h : o.1 = 3) : ya_cv a b c o = (c, o.2.2) := by
  unfold ya_cv
  rw [h]
  rfl

def ya_act (σ : SG) (w a b c d : Int) : Int × SG :=
  if w = 0 then ya_cv ya_A ya_S ya_S (oc_text σ a b) else
  if w = 1 then ya_cv ya_I ya_A ya_S (oc_row 0 13 σ a b c) else
  if w = 2 then ya_cv ya_A ya_S ya_S (oc_tune σ a b c) else
  if w = 3 then ya_cv ya_I ya_A ya_S (oc_row 1 24 σ a b c) else
  if w = 4 then ya_cv ya_I ya_I ya_I (oc_fits σ a b) else
  if w = 5 then ya_cv ya_I ya_S ya_S (oc_clashes σ a b) else
  if w = 6 then ya_cv ya_I ya_I ya_I (oc_best σ a) else
  if w = 7 then ya_cv ya_I ya_I ya_I (oc_alike σ a) else
  if w = 8 then ya_cv ya_I ya_I ya_I (oc_allow 0 12 σ a (bZ (b = 1))) else
  if w = 9 then ya_cv ya_I ya_I ya_I (oc_allow 1 23 σ a (bZ (b = 1))) else
  if w = 10 then ya_cv ya_I ya_A ya_A (oc_shift σ a b c) else
  if w = 11 then ya_cv ya_A ya_A ya_A (oc_easter σ a) else
  if w = 12 then ya_cv ya_A ya_A ya_A (oc_easter σ a) else
  if w = 13 then ya_cv ya_A ya_A ya_A (oc_weekday σ a b c) else
  if w = 14 then ya_cv ya_A ya_S ya_S (oc_feast σ a (bZ (b = 1)) c d) else
  if w = 15 then ya_cv ya_A ya_S ya_S (oc_moving σ a (bZ (b = 1)) c) else
  if w = 16 then ya_cv ya_A ya_A ya_A (oc_sundays σ a) else
  if w = 17 then ya_cv ya_I ya_A ya_A (oc_reading σ a b c) else
  if w = 18 then ya_cv ya_A ya_A ya_A (oc_kept σ a b c) else
  if w = 19 then ya_cv ya_I ya_A ya_A (oc_when σ a b) else
  if w = 20 then ya_cv ya_I ya_A ya_A (oc_when σ a b) else
  if w = 21 then ya_cv ya_A ya_A ya_A (oc_theme σ a b c) else
  if w = 22 then ya_cv ya_I ya_A ya_S (oc_why σ a b c d) else
  if w = 23 then ya_cv ya_A ya_S ya_S (oc_sing σ a b c) else
  if w = 24 then ya_cv ya_I ya_A ya_A (oc_service σ a b) else
  ya_cv ya_I ya_I ya_I (oc_sung σ a)

theorem ya_act0 (σ : SG) (a b c d : Int) : ya_act σ 0 a b c d = ya_cv ya_A ya_S ya_S (oc_text σ a b) := rfl

theorem ya_act1 (σ : SG) (a b c d : Int) : ya_act σ 1 a b c d = ya_cv ya_I ya_A ya_S (oc_row 0 13 σ a b c) := rfl

theorem ya_act2 (σ : SG) (a b c d : Int) : ya_act σ 2 a b c d = ya_cv ya_A ya_S ya_S (oc_tune σ a b c) := rfl

theorem ya_act3 (σ : SG) (a b c d : Int) : ya_act σ 3 a b c d = ya_cv ya_I ya_A ya_S (oc_row 1 24 σ a b c) := rfl

theorem ya_act4 (σ : SG) (a b c d : Int) : ya_act σ 4 a b c d = ya_cv ya_I ya_I ya_I (oc_fits σ a b) := rfl

theorem ya_act5 (σ : SG) (a b c d : Int) : ya_act σ 5 a b c d = ya_cv ya_I ya_S ya_S (oc_clashes σ a b) := rfl

theorem ya_act6 (σ : SG) (a b c d : Int) : ya_act σ 6 a b c d = ya_cv ya_I ya_I ya_I (oc_best σ a) := rfl

theorem ya_act7 (σ : SG) (a b c d : Int) : ya_act σ 7 a b c d = ya_cv ya_I ya_I ya_I (oc_alike σ a) := rfl

theorem ya_act8 (σ : SG) (a b c d : Int) : ya_act σ 8 a b c d = ya_cv ya_I ya_I ya_I (oc_allow 0 12 σ a (bZ (b = 1))) := rfl

theorem ya_act9 (σ : SG) (a b c d : Int) : ya_act σ 9 a b c d = ya_cv ya_I ya_I ya_I (oc_allow 1 23 σ a (bZ (b = 1))) := rfl

theorem ya_act10 (σ : SG) (a b c d : Int) : ya_act σ 10 a b c d = ya_cv ya_I ya_A ya_A (oc_shift σ a b c) := rfl

theorem ya_act11 (σ : SG) (a b c d : Int) : ya_act σ 11 a b c d = ya_cv ya_A ya_A ya_A (oc_easter σ a) := rfl

theorem ya_act12 (σ : SG) (a b c d : Int) : ya_act σ 12 a b c d = ya_cv ya_A ya_A ya_A (oc_easter σ a) := rfl

theorem ya_act13 (σ : SG) (a b c d : Int) : ya_act σ 13 a b c d = ya_cv ya_A ya_A ya_A (oc_weekday σ a b c) := rfl

theorem ya_act14 (σ : SG) (a b c d : Int) : ya_act σ 14 a b c d = ya_cv ya_A ya_S ya_S (oc_feast σ a (bZ (b = 1)) c d) := rfl

theorem ya_act15 (σ : SG) (a b c d : Int) : ya_act σ 15 a b c d = ya_cv ya_A ya_S ya_S (oc_moving σ a (bZ (b = 1)) c) := rfl

theorem ya_act16 (σ : SG) (a b c d : Int) : ya_act σ 16 a b c d = ya_cv ya_A ya_A ya_A (oc_sundays σ a) := rfl

theorem ya_act17 (σ : SG) (a b c d : Int) : ya_act σ 17 a b c d = ya_cv ya_I ya_A ya_A (oc_reading σ a b c) := rfl

theorem ya_act18 (σ : SG) (a b c d : Int) : ya_act σ 18 a b c d = ya_cv ya_A ya_A ya_A (oc_kept σ a b c) := rfl

theorem ya_act19 (σ : SG) (a b c d : Int) : ya_act σ 19 a b c d = ya_cv ya_I ya_A ya_A (oc_when σ a b) := rfl

theorem ya_act20 (σ : SG) (a b c d : Int) : ya_act σ 20 a b c d = ya_cv ya_I ya_A ya_A (oc_when σ a b) := rfl

theorem ya_act21 (σ : SG) (a b c d : Int) : ya_act σ 21 a b c d = ya_cv ya_A ya_A ya_A (oc_theme σ a b c) := rfl

theorem ya_act22 (σ : SG) (a b c d : Int) : ya_act σ 22 a b c d = ya_cv ya_I ya_A ya_S (oc_why σ a b c d) := rfl

theorem ya_act23 (σ : SG) (a b c d : Int) : ya_act σ 23 a b c d = ya_cv ya_A ya_S ya_S (oc_sing σ a b c) := rfl

theorem ya_act24 (σ : SG) (a b c d : Int) : ya_act σ 24 a b c d = ya_cv ya_I ya_A ya_A (oc_service σ a b) := rfl

theorem ya_act25 (σ : SG) (a b c d : Int) : ya_act σ 25 a b c d = ya_cv ya_I ya_I ya_I (oc_sung σ a) := rfl

theorem ya_r_text (σ : SG) (a b : Int) : (oc_text σ a b).1 = 0 ∨ (oc_text σ a b).1 = 1 ∨ (oc_text σ a b).1 = 2 := by
  unfold oc_text
  (repeat' split) <;> simp

theorem ya_f_text {σ : SG} {a b : Int} (h : (oc_text σ a b).1 ≠ 0) : (oc_text σ a b).2.2 = σ := by
  revert h
  unfold oc_text
  (repeat' split) <;> first | (intro h; exact absurd rfl h) | (intro _; rfl)

theorem ya_r_row_0_13 (σ : SG) (a m s : Int) : (oc_row 0 13 σ a m s).1 = 0 ∨ (oc_row 0 13 σ a m s).1 = 1 ∨ (oc_row 0 13 σ a m s).1 = 2 ∨ (oc_row 0 13 σ a m s).1 = 3 := by
  unfold oc_row
  (repeat' split) <;> simp

theorem ya_f_row_0_13 {σ : SG} {a m s : Int} (h : (oc_row 0 13 σ a m s).1 ≠ 0) : (oc_row 0 13 σ a m s).2.2 = σ := by
  revert h
  unfold oc_row
  (repeat' split) <;> first | (intro h; exact absurd rfl h) | (intro _; rfl)

theorem ya_r_tune (σ : SG) (a lo hi : Int) : (oc_tune σ a lo hi).1 = 0 ∨ (oc_tune σ a lo hi).1 = 1 ∨ (oc_tune σ a lo hi).1 = 2 := by
  unfold oc_tune
  (repeat' split) <;> simp

theorem ya_f_tune {σ : SG} {a lo hi : Int} (h : (oc_tune σ a lo hi).1 ≠ 0) : (oc_tune σ a lo hi).2.2 = σ := by
  revert h
  unfold oc_tune
  (repeat' split) <;> first | (intro h; exact absurd rfl h) | (intro _; rfl)

theorem ya_r_row_1_24 (σ : SG) (a m s : Int) : (oc_row 1 24 σ a m s).1 = 0 ∨ (oc_row 1 24 σ a m s).1 = 1 ∨ (oc_row 1 24 σ a m s).1 = 2 ∨ (oc_row 1 24 σ a m s).1 = 3 := by
  unfold oc_row
  (repeat' split) <;> simp

theorem ya_f_row_1_24 {σ : SG} {a m s : Int} (h : (oc_row 1 24 σ a m s).1 ≠ 0) : (oc_row 1 24 σ a m s).2.2 = σ := by
  revert h
  unfold oc_row
  (repeat' split) <;> first | (intro h; exact absurd rfl h) | (intro _; rfl)

theorem ya_r_fits (σ : SG) (a b : Int) : (oc_fits σ a b).1 = 0 ∨ (oc_fits σ a b).1 = 1 := by
  unfold oc_fits
  (repeat' split) <;> simp

theorem ya_q_fits (σ : SG) (a b : Int) : (oc_fits σ a b).2.2 = σ := by
  unfold oc_fits
  (repeat' split) <;> rfl

theorem ya_r_clashes (σ : SG) (a b : Int) : (oc_clashes σ a b).1 = 0 ∨ (oc_clashes σ a b).1 = 1 ∨ (oc_clashes σ a b).1 = 2 := by
  unfold oc_clashes
  (repeat' split) <;> simp

theorem ya_q_clashes (σ : SG) (a b : Int) : (oc_clashes σ a b).2.2 = σ := by
  unfold oc_clashes
  (repeat' split) <;> rfl

theorem ya_r_best (σ : SG) (a : Int) : (oc_best σ a).1 = 0 ∨ (oc_best σ a).1 = 1 := by
  unfold oc_best
  (repeat' split) <;> simp

theorem ya_q_best (σ : SG) (a : Int) : (oc_best σ a).2.2 = σ := by
  unfold oc_best
  (repeat' split) <;> rfl

theorem ya_r_alike (σ : SG) (a : Int) : (oc_alike σ a).1 = 0 ∨ (oc_alike σ a).1 = 1 := by
  unfold oc_alike
  (repeat' split) <;> simp

theorem ya_q_alike (σ : SG) (a : Int) : (oc_alike σ a).2.2 = σ := by
  unfold oc_alike
  (repeat' split) <;> rfl

theorem ya_r_metres (σ : SG) : (oc_metres σ).1 = 0 := by
  unfold oc_metres
  (repeat' split) <;> simp

theorem ya_q_metres (σ : SG) : (oc_metres σ).2.2 = σ := by
  unfold oc_metres
  (repeat' split) <;> rfl

theorem ya_r_allow_0_12 (σ : SG) (a b : Int) : (oc_allow 0 12 σ a b).1 = 0 ∨ (oc_allow 0 12 σ a b).1 = 1 := by
  unfold oc_allow
  (repeat' split) <;> simp

theorem ya_f_allow_0_12 {σ : SG} {a b : Int} (h : (oc_allow 0 12 σ a b).1 ≠ 0) : (oc_allow 0 12 σ a b).2.2 = σ := by
  revert h
  unfold oc_allow
  (repeat' split) <;> first | (intro h; exact absurd rfl h) | (intro _; rfl)

theorem ya_r_allow_1_23 (σ : SG) (a b : Int) : (oc_allow 1 23 σ a b).1 = 0 ∨ (oc_allow 1 23 σ a b).1 = 1 := by
  unfold oc_allow
  (repeat' split) <;> simp

theorem ya_f_allow_1_23 {σ : SG} {a b : Int} (h : (oc_allow 1 23 σ a b).1 ≠ 0) : (oc_allow 1 23 σ a b).2.2 = σ := by
  revert h
  unfold oc_allow
  (repeat' split) <;> first | (intro h; exact absurd rfl h) | (intro _; rfl)

theorem ya_r_shift (σ : SG) (a lo hi : Int) : (oc_shift σ a lo hi).1 = 0 ∨ (oc_shift σ a lo hi).1 = 1 ∨ (oc_shift σ a lo hi).1 = 2 := by
  unfold oc_shift
  (repeat' split) <;> simp

theorem ya_q_shift (σ : SG) (a lo hi : Int) : (oc_shift σ a lo hi).2.2 = σ := by
  unfold oc_shift
  (repeat' split) <;> rfl

theorem ya_r_easter (σ : SG) (y : Int) : (oc_easter σ y).1 = 0 ∨ (oc_easter σ y).1 = 1 := by
  unfold oc_easter
  (repeat' split) <;> simp

theorem ya_q_easter (σ : SG) (y : Int) : (oc_easter σ y).2.2 = σ := by
  unfold oc_easter
  (repeat' split) <;> rfl

theorem ya_r_weekday (σ : SG) (y m d9 : Int) : (oc_weekday σ y m d9).1 = 0 ∨ (oc_weekday σ y m d9).1 = 1 := by
  unfold oc_weekday
  (repeat' split) <;> simp

theorem ya_q_weekday (σ : SG) (y m d9 : Int) : (oc_weekday σ y m d9).2.2 = σ := by
  unfold oc_weekday
  (repeat' split) <;> rfl

theorem ya_r_feast (σ : SG) (r po m d9 : Int) : (oc_feast σ r po m d9).1 = 0 ∨ (oc_feast σ r po m d9).1 = 1 ∨ (oc_feast σ r po m d9).1 = 2 := by
  unfold oc_feast
  (repeat' split) <;> simp

theorem ya_f_feast {σ : SG} {r po m d9 : Int} (h : (oc_feast σ r po m d9).1 ≠ 0) : (oc_feast σ r po m d9).2.2 = σ := by
  revert h
  unfold oc_feast
  (repeat' split) <;> first | (intro h; exact absurd rfl h) | (intro _; rfl)

theorem ya_r_moving (σ : SG) (r po d9 : Int) : (oc_moving σ r po d9).1 = 0 ∨ (oc_moving σ r po d9).1 = 1 ∨ (oc_moving σ r po d9).1 = 2 := by
  unfold oc_moving
  (repeat' split) <;> simp

theorem ya_f_moving {σ : SG} {r po d9 : Int} (h : (oc_moving σ r po d9).1 ≠ 0) : (oc_moving σ r po d9).2.2 = σ := by
  revert h
  unfold oc_moving
  (repeat' split) <;> first | (intro h; exact absurd rfl h) | (intro _; rfl)

theorem ya_r_sundays (σ : SG) (r : Int) : (oc_sundays σ r).1 = 0 ∨ (oc_sundays σ r).1 = 1 := by
  unfold oc_sundays
  (repeat' split) <;> simp

theorem ya_f_sundays {σ : SG} {r : Int} (h : (oc_sundays σ r).1 ≠ 0) : (oc_sundays σ r).2.2 = σ := by
  revert h
  unfold oc_sundays
  (repeat' split) <;> first | (intro h; exact absurd rfl h) | (intro _; rfl)

theorem ya_r_reading (σ : SG) (a b th : Int) : (oc_reading σ a b th).1 = 0 ∨ (oc_reading σ a b th).1 = 1 ∨ (oc_reading σ a b th).1 = 2 := by
  unfold oc_reading
  (repeat' split) <;> simp

theorem ya_f_reading {σ : SG} {a b th : Int} (h : (oc_reading σ a b th).1 ≠ 0) : (oc_reading σ a b th).2.2 = σ := by
  revert h
  unfold oc_reading
  (repeat' split) <;> first | (intro h; exact absurd rfl h) | (intro _; rfl)

theorem ya_r_kept (σ : SG) (y m d9 : Int) : (oc_kept σ y m d9).1 = 0 ∨ (oc_kept σ y m d9).1 = 1 := by
  unfold oc_kept
  (repeat' split) <;> simp

theorem ya_q_kept (σ : SG) (y m d9 : Int) : (oc_kept σ y m d9).2.2 = σ := by
  unfold oc_kept
  (repeat' split) <;> rfl

theorem ya_r_when (σ : SG) (a y : Int) : (oc_when σ a y).1 = 0 ∨ (oc_when σ a y).1 = 1 ∨ (oc_when σ a y).1 = 2 := by
  unfold oc_when
  (repeat' split) <;> simp

theorem ya_q_when (σ : SG) (a y : Int) : (oc_when σ a y).2.2 = σ := by
  unfold oc_when
  (repeat' split) <;> rfl

theorem ya_r_theme (σ : SG) (y m d9 : Int) : (oc_theme σ y m d9).1 = 0 ∨ (oc_theme σ y m d9).1 = 1 := by
  unfold oc_theme
  (repeat' split) <;> simp

theorem ya_q_theme (σ : SG) (y m d9 : Int) : (oc_theme σ y m d9).2.2 = σ := by
  unfold oc_theme
  (repeat' split) <;> rfl

theorem ya_r_why (σ : SG) (a y m d9 : Int) : (oc_why σ a y m d9).1 = 0 ∨ (oc_why σ a y m d9).1 = 1 ∨ (oc_why σ a y m d9).1 = 2 ∨ (oc_why σ a y m d9).1 = 3 := by
  unfold oc_why
  (repeat' split) <;> simp

theorem ya_q_why (σ : SG) (a y m d9 : Int) : (oc_why σ a y m d9).2.2 = σ := by
  unfold oc_why
  (repeat' split) <;> rfl

theorem ya_r_sing (σ : SG) (y m d9 : Int) : (oc_sing σ y m d9).1 = 0 ∨ (oc_sing σ y m d9).1 = 1 ∨ (oc_sing σ y m d9).1 = 2 := by
  unfold oc_sing
  (repeat' split) <;> simp

theorem ya_f_sing {σ : SG} {y m d9 : Int} (h : (oc_sing σ y m d9).1 ≠ 0) : (oc_sing σ y m d9).2.2 = σ := by
  revert h
  unfold oc_sing
  (repeat' split) <;> first | (intro h; exact absurd rfl h) | (intro _; rfl)

theorem ya_r_service (σ : SG) (a b : Int) : (oc_service σ a b).1 = 0 ∨ (oc_service σ a b).1 = 1 ∨ (oc_service σ a b).1 = 2 := by
  unfold oc_service
  (repeat' split) <;> simp

theorem ya_q_service (σ : SG) (a b : Int) : (oc_service σ a b).2.2 = σ := by
  unfold oc_service
  (repeat' split) <;> rfl

theorem ya_r_sung (σ : SG) (a : Int) : (oc_sung σ a).1 = 0 ∨ (oc_sung σ a).1 = 1 := by
  unfold oc_sung
  (repeat' split) <;> simp

theorem ya_q_sung (σ : SG) (a : Int) : (oc_sung σ a).2.2 = σ := by
  unfold oc_sung
  (repeat' split) <;> rfl

theorem ya_v_allow_0_12 {σ : SG} (hV : SV σ) {a b : Int} (h : (oc_allow 0 12 σ a b).1 = 0) : (oc_allow 0 12 σ a b).2.1 = 0 ∨ (oc_allow 0 12 σ a b).2.1 = 1 := by
  unfold oc_allow at h ⊢
  split at h
  · cases h
  · rename_i q
    rw [if_neg q]
    exact (hV.t a.toNat).2.2.1

theorem ya_v_allow_1_23 {σ : SG} (hV : SV σ) {a b : Int} (h : (oc_allow 1 23 σ a b).1 = 0) : (oc_allow 1 23 σ a b).2.1 = 0 ∨ (oc_allow 1 23 σ a b).2.1 = 1 := by
  unfold oc_allow at h ⊢
  split at h
  · cases h
  · rename_i q
    rw [if_neg q]
    exact (hV.u a.toNat).2.2.2.1

def ya_md {α : Type} (d : α) (f : α → α) : Nat → List α → List α
  | 0, [] => [f d]
  | 0, x :: xs => f x :: xs
  | n + 1, [] => d :: ya_md d f n []
  | n + 1, x :: xs => x :: ya_md d f n xs
theorem ya_md_get {α : Type} (d : α) (f : α → α) : ∀ (n : Nat) (L : List α) (m : Nat), (ya_md d f n L).getD m d = if m = n then f (L.getD n d) else L.getD m d
  | 0, [], 0 => rfl
  | 0, [], m + 1 => by rw [if_neg (by omega)]; rfl
  | 0, x :: xs, 0 => rfl
  | 0, x :: xs, m + 1 => by rw [if_neg (by omega)]; rfl
  | n + 1, [], 0 => by rw [if_neg (by omega)]; rfl
  | n + 1, [], m + 1 => by
    have h := ya_md_get d f n [] m
    show (ya_md d f n []).getD m d = _
    rw [h]
    by_cases e : m = n
    · rw [if_pos e, if_pos (by omega)]; rfl
    · rw [if_neg e, if_neg (by omega)]; rfl
  | n + 1, x :: xs, 0 => by rw [if_neg (by omega)]; rfl
  | n + 1, x :: xs, m + 1 => by
    have h := ya_md_get d f n xs m
    show (ya_md d f n xs).getD m d = _
    rw [h]
    by_cases e : m = n
    · rw [if_pos e, if_pos (by omega)]; rfl
    · rw [if_neg e, if_neg (by omega)]; rfl
abbrev ya_ST : Type := List (List (List (List Int)))
def ya_TB (S : ya_ST) : SG := fun c i k => (((S.getD (c / 10) []).getD (c % 10) []).getD i []).getD k (if c = 35 then -100 else 0)
def ya_up (S : ya_ST) (c i k : Nat) (v : Int) : ya_ST := ya_md [] (fun L1 => ya_md [] (fun L2 => ya_md [] (fun L3 => ya_md (if c = 35 then -100 else 0) (fun _ => v) k L3) i L2) (c % 10) L1) (c / 10) S
theorem ya_up_s (S : ya_ST) (c i k : Nat) (v : Int) : sup (ya_TB S) c i k v = ya_TB (ya_up S c i k v) := by
  funext c' i' k'
  unfold sup ya_TB ya_up
  rw [ya_md_get]
  by_cases h1 : c' / 10 = c / 10
  · rw [if_pos h1, ya_md_get]
    by_cases h2 : c' % 10 = c % 10
    · have hc : c' = c := by omega
      subst hc
      rw [if_pos rfl, ya_md_get]
      by_cases h3 : i' = i
      · subst h3
        rw [if_pos rfl, ya_md_get]
        by_cases h4 : k' = k
        · rw [if_pos ⟨rfl, rfl, h4⟩, if_pos h4]
        · rw [if_neg (fun q => h4 q.2.2), if_neg h4]
      · rw [if_neg (fun q => h3 q.2.1), if_neg h3]
    · rw [if_neg (fun q => h2 (by rw [q.1])), if_neg h2, h1]
  · rw [if_neg (fun q => h1 (by rw [q.1])), if_neg h1]
theorem ya_TB0 : σ0 = ya_TB [] := by
  funext c i k
  show (if c = 35 then (-100 : Int) else 0) = ((([] : List (List Int)).getD i []).getD k (if c = 35 then -100 else 0))
  simp
def ya_adT (S : ya_ST) (a b : Int) : ya_ST := ya_up (ya_up (ya_up S 10 (ya_TB S 0 0 0).toNat 0 a) 11 (ya_TB S 0 0 0).toNat 0 b) 0 0 0 (ya_TB S 0 0 0 + 1)
def ya_adU (S : ya_ST) (a lo hi : Int) : ya_ST := ya_up (ya_up (ya_up (ya_up S 20 (ya_TB S 1 0 0).toNat 0 a) 21 (ya_TB S 1 0 0).toNat 0 lo) 22 (ya_TB S 1 0 0).toNat 0 hi) 1 0 0 (ya_TB S 1 0 0 + 1)
def ya_adL (S : ya_ST) (c t : Nat) (m s : Int) : ya_ST := ya_up (ya_up (ya_up S (c + 1) t (ya_TB S c t 0).toNat m) (c + 2) t (ya_TB S c t 0).toNat s) c t 0 (ya_TB S c t 0 + 1)
def ya_adF (S : ya_ST) (r po mo dy mv : Int) : ya_ST := ya_up (ya_up (ya_up (ya_up (ya_up (ya_up S 30 (ya_TB S 2 0 0).toNat 0 r) 31 (ya_TB S 2 0 0).toNat 0 po) 32 (ya_TB S 2 0 0).toNat 0 mo) 33 (ya_TB S 2 0 0).toNat 0 dy) 34 (ya_TB S 2 0 0).toNat 0 mv) 2 0 0 (ya_TB S 2 0 0 + 1)
def ya_adS (S : ya_ST) (t u y p : Int) : ya_ST := ya_up (ya_up (ya_up (ya_up (ya_up S 40 (ya_TB S 3 0 0).toNat 0 t) 41 (ya_TB S 3 0 0).toNat 0 u) 42 (ya_TB S 3 0 0).toNat 0 y) 43 (ya_TB S 3 0 0).toNat 0 p) 3 0 0 (ya_TB S 3 0 0 + 1)
theorem ya_adT_s (S : ya_ST) (a b : Int) : adT (ya_TB S) a b = ya_TB (ya_adT S a b) := by
  unfold adT ya_adT
  simp only [ya_up_s]
theorem ya_adU_s (S : ya_ST) (a lo hi : Int) : adU (ya_TB S) a lo hi = ya_TB (ya_adU S a lo hi) := by
  unfold adU ya_adU
  simp only [ya_up_s]
theorem ya_adL_s (S : ya_ST) (c t : Nat) (m s : Int) : adL (ya_TB S) c t m s = ya_TB (ya_adL S c t m s) := by
  unfold adL ya_adL
  simp only [ya_up_s]
theorem ya_adF_s (S : ya_ST) (r po mo dy mv : Int) : adF (ya_TB S) r po mo dy mv = ya_TB (ya_adF S r po mo dy mv) := by
  unfold adF ya_adF
  simp only [ya_up_s]
theorem ya_adS_s (S : ya_ST) (t u y p : Int) : adS (ya_TB S) t u y p = ya_TB (ya_adS S t u y p) := by
  unfold adS ya_adS
  simp only [ya_up_s]
theorem ya_q3 {o : OC} {σ : SG} {c v : Int} (hs : o.2.2 = σ) (h : o.1 = c ∧ o.2.1 = v) : o = (c, v, σ) := Prod.ext h.1 (Prod.ext h.2 hs)

theorem ya_m_text {S S' : ya_ST} {a b n : Int} (h : (oc_text (ya_TB S) a b).1 = 0 ∧ (oc_text (ya_TB S) a b).2.1 = n ∧ ya_adT S a b = S') : oc_text (ya_TB S) a b = (0, n, ya_TB S') := by
  obtain ⟨h1, h2, h3⟩ := h
  subst h3
  unfold oc_text at h1 h2 ⊢
  repeat' (split at h1; · cases h1)
  simp_all only [if_false, if_true, not_false_eq_true, not_true_eq_false]
  rw [ya_adT_s]

theorem ya_m_row {S S' : ya_ST} {j c9 : Nat} {a m s n : Int} (h : (oc_row j c9 (ya_TB S) a m s).1 = 0 ∧ (oc_row j c9 (ya_TB S) a m s).2.1 = n ∧ ya_adL S c9 a.toNat m s = S') : oc_row j c9 (ya_TB S) a m s = (0, n, ya_TB S') := by
  obtain ⟨h1, h2, h3⟩ := h
  subst h3
  unfold oc_row at h1 h2 ⊢
  repeat' (split at h1; · cases h1)
  simp_all only [if_false, if_true, not_false_eq_true, not_true_eq_false]
  rw [ya_adL_s]

theorem ya_m_tune {S S' : ya_ST} {a lo hi n : Int} (h : (oc_tune (ya_TB S) a lo hi).1 = 0 ∧ (oc_tune (ya_TB S) a lo hi).2.1 = n ∧ ya_adU S a lo hi = S') : oc_tune (ya_TB S) a lo hi = (0, n, ya_TB S') := by
  obtain ⟨h1, h2, h3⟩ := h
  subst h3
  unfold oc_tune at h1 h2 ⊢
  repeat' (split at h1; · cases h1)
  simp_all only [if_false, if_true, not_false_eq_true, not_true_eq_false]
  rw [ya_adU_s]

theorem ya_m_allow {S S' : ya_ST} {j c9 : Nat} {a b n : Int} (h : (oc_allow j c9 (ya_TB S) a b).1 = 0 ∧ (oc_allow j c9 (ya_TB S) a b).2.1 = n ∧ ya_up S c9 a.toNat 0 b = S') : oc_allow j c9 (ya_TB S) a b = (0, n, ya_TB S') := by
  obtain ⟨h1, h2, h3⟩ := h
  subst h3
  unfold oc_allow at h1 h2 ⊢
  repeat' (split at h1; · cases h1)
  simp_all only [if_false, if_true, not_false_eq_true, not_true_eq_false]
  rw [ya_up_s]

theorem ya_m_feast {S S' : ya_ST} {r po m d n : Int} (h : (oc_feast (ya_TB S) r po m d).1 = 0 ∧ (oc_feast (ya_TB S) r po m d).2.1 = n ∧ ya_adF S r po m d 0 = S') : oc_feast (ya_TB S) r po m d = (0, n, ya_TB S') := by
  obtain ⟨h1, h2, h3⟩ := h
  subst h3
  unfold oc_feast at h1 h2 ⊢
  repeat' (split at h1; · cases h1)
  simp_all only [if_false, if_true, not_false_eq_true, not_true_eq_false]
  rw [ya_adF_s]

theorem ya_m_moving {S S' : ya_ST} {r po d n : Int} (h : (oc_moving (ya_TB S) r po d).1 = 0 ∧ (oc_moving (ya_TB S) r po d).2.1 = n ∧ ya_adF S r po 0 d 1 = S') : oc_moving (ya_TB S) r po d = (0, n, ya_TB S') := by
  obtain ⟨h1, h2, h3⟩ := h
  subst h3
  unfold oc_moving at h1 h2 ⊢
  repeat' (split at h1; · cases h1)
  simp_all only [if_false, if_true, not_false_eq_true, not_true_eq_false]
  rw [ya_adF_s]

theorem ya_m_sundays {S S' : ya_ST} {r n : Int} (h : (oc_sundays (ya_TB S) r).1 = 0 ∧ (oc_sundays (ya_TB S) r).2.1 = n ∧ ya_up S 4 0 0 r = S') : oc_sundays (ya_TB S) r = (0, n, ya_TB S') := by
  obtain ⟨h1, h2, h3⟩ := h
  subst h3
  unfold oc_sundays at h1 h2 ⊢
  repeat' (split at h1; · cases h1)
  simp_all only [if_false, if_true, not_false_eq_true, not_true_eq_false]
  rw [ya_up_s]

theorem ya_m_reading {S S' : ya_ST} {a b th n : Int} (h : (oc_reading (ya_TB S) a b th).1 = 0 ∧ (oc_reading (ya_TB S) a b th).2.1 = n ∧ ya_up S 35 (rdI a) b.toNat th = S') : oc_reading (ya_TB S) a b th = (0, n, ya_TB S') := by
  obtain ⟨h1, h2, h3⟩ := h
  subst h3
  unfold oc_reading at h1 h2 ⊢
  repeat' (split at h1; · cases h1)
  simp_all only [if_false, if_true, not_false_eq_true, not_true_eq_false]
  rw [ya_up_s]

theorem ya_m_sing {S S' : ya_ST} {y m d t u : Int} (h : (oc_sing (ya_TB S) y m d).1 = 0 ∧ (oc_sing (ya_TB S) y m d).2.1 = t ∧ bstZ (ya_TB S) t.toNat 1 y = u ∧ ya_adS S t u y (placeZ y m d) = S') : oc_sing (ya_TB S) y m d = (0, t, ya_TB S') := by
  obtain ⟨h1, h2, h3, h4⟩ := h
  subst h4
  unfold oc_sing at h1 h2 ⊢
  split at h1
  · cases h1
  rename_i c1
  rw [if_neg c1] at h2 ⊢
  split at h1
  · cases h1
  rename_i c2
  rw [if_neg c2] at h2 ⊢
  have h2' : hymZ (ya_TB S) (thZ (ya_TB S) y (placeZ y m d).toNat) y (dnumZ y (placeZ y m d)) = t := h2
  rw [h2', h3]
  exact Prod.ext rfl (Prod.ext rfl (ya_adS_s _ _ _ _ _))
