/-! the state's numbers, and what is reckoned from them -/
abbrev SG : Type := Nat → Nat → Nat → Int
def sup (σ : SG) (c i k : Nat) (v : Int) : SG := fun c' i' k' => if c' = c ∧ i' = i ∧ k' = k then v else σ c' i' k'
def iu (f : Nat → Int) (k : Nat) (v : Int) : Nat → Int := fun q => if q = k then v else f q
theorem upd_iZ (f : Nat → Int) (k : Nat) (v : Int) : upd (fun q => iZ (f q)) k (iZ v) = fun q => iZ (iu f k v q) := by
  funext q
  unfold upd iu
  split <;> rfl
theorem iu_s (f : Nat → Int) (k : Nat) (v : Int) : iu f k v k = v := if_pos rfl
theorem iu_n (f : Nat → Int) {k q : Nat} (v : Int) (h : q ≠ k) : iu f k v q = f q := if_neg h
/-- the own day of a feast, by its month and day -/
def ownF (y mo dy : Int) : Int := if mo = 0 then placeZ y 3 (eastZ y) + dy else if mlenZ y mo < dy then -100 else placeZ y mo dy
def FR (rk po mo dy : Int) : Prop := (1 ≤ rk ∧ rk ≤ 9) ∧ (po = 0 ∨ po = 1) ∧ ((mo = 0 ∧ -60 ≤ dy ∧ dy ≤ 60) ∨ ((1 ≤ mo ∧ mo ≤ 12) ∧ 1 ≤ dy ∧ dy ≤ 31))
abbrev opnZ (y su : Int) (put : Nat → Int) (rk : Int) (d : Nat) : Prop := put d = -100 ∧ (su ≤ rk ∨ ¬ wdayZ y (d : Int) = 0)
def fstZ (P : Nat → Prop) [DecidablePred P] : Nat → Nat → Int
  | _, 0 => -100
  | d, n + 1 => if P d then (d : Int) else fstZ P (d + 1) n
def lstZ (y po own : Int) : Int := if (if po = 1 then own + 30 else own) < ylenZ y - 1 then (if po = 1 then own + 30 else own) else ylenZ y - 1
def dayZ (y su : Int) (put : Nat → Int) (rk po own : Int) : Int := if own = -100 then -100 else fstZ (opnZ y su put rk) own.toNat (lstZ y po own + 1 - own).toNat
abbrev LY : Type := (Nat → Int) × (Nat → Int)
def lyS (y su rk po mo dy : Int) (k : Nat) (S : LY) : LY := (if dayZ y su S.1 rk po (ownF y mo dy) = -100 then S.1 else iu S.1 (dayZ y su S.1 rk po (ownF y mo dy)).toNat (k : Int), iu S.2 k (dayZ y su S.1 rk po (ownF y mo dy)))
def lyJ (F : Nat → Nat → Int) (y su r : Int) : Nat → LY → LY
  | 0, S => S
  | j + 1, S => if F 0 j = r then lyS y su (F 0 j) (F 1 j) (F 2 j) (F 3 j) j (lyJ F y su r j S) else lyJ F y su r j S
def lyR (F : Nat → Nat → Int) (y su : Int) (n : Nat) : Nat → LY
  | 0 => (fun _ => -100, fun _ => -100)
  | r + 1 => lyJ F y su (9 - (r : Int)) n (lyR F y su n r)
theorem wday_of (y : Int) (d : Nat) (hy : 1600 ≤ y ∧ y ≤ 2399) : (wdayZ y 0 + (d : Int)) % 7 = wdayZ y (d : Int) := by
  unfold wdayZ dnumZ
  omega
theorem wday_r (y p : Int) : 0 ≤ wdayZ y p ∧ wdayZ y p < 7 := by
  unfold wdayZ
  omega
theorem mlen_r (y m : Int) : 28 ≤ mlenZ y m ∧ mlenZ y m ≤ 31 := by
  unfold mlenZ
  split
  · split <;> omega
  · split <;> omega
theorem ylen_r (y : Int) : 365 ≤ ylenZ y ∧ ylenZ y ≤ 366 := by
  unfold ylenZ
  split <;> omega
theorem own_r {y mo dy : Int} (h : (mo = 0 ∧ -60 ≤ dy ∧ dy ≤ 60) ∨ ((1 ≤ mo ∧ mo ≤ 12) ∧ 1 ≤ dy ∧ dy ≤ 31)) : ownF y mo dy = -100 ∨ (0 ≤ ownF y mo dy ∧ ownF y mo dy ≤ 366) := by
  unfold ownF
  rcases h with ⟨h1, h2, h3⟩ | ⟨h1, h2, h3⟩
  · rw [if_pos h1]
    have he := east_r y
    have h9 : placeZ y 3 (eastZ y) = 59 + bZ (2 < (3 : Int) ∧ leapZ y) + eastZ y - 1 := rfl
    have h8 := bZ_le (2 < (3 : Int) ∧ leapZ y)
    omega
  · rw [if_neg (by omega)]
    split
    · exact Or.inl rfl
    · have := place_r (y := y) (m := mo) (d := dy) h1
      omega
theorem fst_r (P : Nat → Prop) [DecidablePred P] : ∀ (n d : Nat), fstZ P d n = -100 ∨ ((d : Int) ≤ fstZ P d n ∧ fstZ P d n < (d : Int) + n ∧ P (fstZ P d n).toNat)
  | 0, d => Or.inl rfl
  | n + 1, d => by
    unfold fstZ
    split
    · rename_i h
      exact Or.inr ⟨Int.le_refl _, by omega, h⟩
    · rcases fst_r P n (d + 1) with h | h
      · exact Or.inl h
      · refine Or.inr ⟨?_, ?_, h.2.2⟩ <;> omega
theorem fst_s (P : Nat → Prop) [DecidablePred P] (d n : Nat) (h : P d) : fstZ P d (n + 1) = d := if_pos h
theorem fst_n (P : Nat → Prop) [DecidablePred P] (d n : Nat) (h : ¬ P d) : fstZ P d (n + 1) = fstZ P (d + 1) n := if_neg h
theorem day_r (y su : Int) (put : Nat → Int) {rk po own : Int} (ho : own = -100 ∨ 0 ≤ own) : dayZ y su put rk po own = -100 ∨ (0 ≤ dayZ y su put rk po own ∧ dayZ y su put rk po own < ylenZ y ∧ own ≠ -100 ∧ opnZ y su put rk (dayZ y su put rk po own).toNat) := by
  unfold dayZ
  split
  · exact Or.inl rfl
  · rename_i h
    rcases fst_r (opnZ y su put rk) (lstZ y po own + 1 - own).toNat own.toNat with h1 | ⟨h1, h2, h3⟩
    · exact Or.inl h1
    · refine Or.inr ⟨by omega, ?_, h, h3⟩
      have : lstZ y po own ≤ ylenZ y - 1 := by unfold lstZ; split <;> omega
      omega
/-- the plan of a year -/
def PLN (M : hM) (p a b : Nat) (y w su : Int) (S : LY) : Prop := M p = some (.inl (8, [.ref a, .ref b, .int (iZ y), .int (iZ w), .int (iZ su)])) ∧ M a = some (.inr (0, 366, .inl (fun k => iZ (S.1 k)))) ∧ M b = some (.inr (0, 20, .inl (fun k => iZ (S.2 k))))
def LR (S : LY) : Prop := ∀ k : Nat, (-100 ≤ S.1 k ∧ S.1 k ≤ 20) ∧ (-100 ≤ S.2 k ∧ S.2 k ≤ 366)
theorem LR.i1 {S : LY} (h : LR S) (k : Nat) : inR (S.1 k) := by have := h k; constructor <;> omega
theorem LR.i2 {S : LY} (h : LR S) (k : Nat) : inR (S.2 k) := by have := h k; constructor <;> omega
def keptS (y : Int) (S : LY) (d : Nat) : Int := if S.1 d = -100 ∧ wdayZ y (d : Int) = 0 then -2 else S.1 d

def sp_X1_ownDay : hS := fun as M sz K => ∃ (r : Nat) (y rk po mo dy : Int) (v : Value), as = [.ref r, .int (iZ y)] ∧ M r = some (.inl (1, [.int (iZ rk), .int (iZ po), .int (iZ mo), .int (iZ dy), v])) ∧ (1600 ≤ y ∧ y ≤ 2399) ∧ FR rk po mo dy ∧ K (.inl (some (.int (iZ (ownF y mo dy))))) M sz
theorem s_X1_ownDay {l : Launch} {g : hG} (hst : l.stackTraces = false) : Ctr l g mX1_ownDay sp_X1_ownDay := by
  refine Ctr.mk9 hst (by decide) ?_ ?_
  · rintro as M sz K ⟨r, y, rk, po, mo, dy, v, rfl, hm, hy, ⟨hF1, hF2, hF3⟩, hK⟩
    exact ⟨by simp [mX1_ownDay], cat_ok rfl⟩
  rintro X as M sz K hX rfl rfl hR ⟨r, y, rk, po, mo, dy, v, rfl, hm, hy, ⟨hF1, hF2, hF3⟩, hK⟩
  show G X 0 [.ref r, .int (iZ y)] [] M sz 0 0
  refine g_aload hX dX1_ownDay_0 rfl rfl ?_
  refine g_get hX dX1_ownDay_1 hm rfl ?_
  refine z_if_ne hX dX1_ownDay_4 (by first | assumption | (constructor <;> omega)) (fun c4 => ?_) (fun c4 => ?_)
  · refine g_aload hX dX1_ownDay_22 rfl rfl ?_
    refine g_get hX dX1_ownDay_23 hm rfl ?_
    refine g_iload hX dX1_ownDay_26 rfl ?_
    refine g_aload hX dX1_ownDay_27 rfl rfl ?_
    refine g_get hX dX1_ownDay_28 hm rfl ?_
    refine g_cSN2 (c2 := 0) (s2 := 0) hX (s_X0_monthLength hst) dX1_ownDay_31 (by first | exact Nat.le_of_ble_eq_true rfl | simp [cat_rf, Value.category]) ⟨rfl, rfl, by decide, by decide⟩ ?_
    refine ⟨_, _, rfl, by omega, (by constructor <;> omega), Kc_i ?_⟩
    have hml := mlen_r y mo
    refine z_icmp_le hX dX1_ownDay_34 (by first | assumption | (constructor <;> omega)) (by first | assumption | (constructor <;> omega)) (fun c34 => ?_) (fun c34 => ?_)
    · refine g_iload hX dX1_ownDay_42 rfl ?_
      refine g_aload hX dX1_ownDay_43 rfl rfl ?_
      refine g_get hX dX1_ownDay_44 hm rfl ?_
      refine g_aload hX dX1_ownDay_47 rfl rfl ?_
      refine g_get hX dX1_ownDay_48 hm rfl ?_
      refine g_cSN3 (c2 := 0) (s2 := 0) hX (s_X0_dayOfYear hst) dX1_ownDay_51 (by first | exact Nat.le_of_ble_eq_true rfl | simp [cat_rf, Value.category]) ⟨rfl, rfl, by decide, by decide⟩ ?_
      refine ⟨_, _, _, rfl, by omega, by omega, by omega, Kc_i ?_⟩
      refine g_iret hX hR dX1_ownDay_54 rfl rfl (by decide) (by decide) ?_
      first | exact kint hK (by unfold ownF; rw [if_pos (by omega)]) | exact kint hK (by unfold ownF; rw [if_neg (by omega), if_pos (by omega)]) | exact kint hK (by unfold ownF; rw [if_neg (by omega), if_neg (by omega)])
    · refine g_const hX dX1_ownDay_37 ?_
      refine g_goto hX dX1_ownDay_39 ?_
      refine g_iret hX hR dX1_ownDay_54 rfl rfl (by decide) (by decide) ?_
      first | exact kint hK (by unfold ownF; rw [if_pos (by omega)]) | exact kint hK (by unfold ownF; rw [if_neg (by omega), if_pos (by omega)]) | exact kint hK (by unfold ownF; rw [if_neg (by omega), if_neg (by omega)])
  · refine g_iload hX dX1_ownDay_7 rfl ?_
    refine g_const hX dX1_ownDay_8 ?_
    refine g_iload hX dX1_ownDay_9 rfl ?_
    refine g_cSN1 (c2 := 0) (s2 := 0) hX (s_X0_easterAsDayOfMarch hst) dX1_ownDay_10 (by first | exact Nat.le_of_ble_eq_true rfl | simp [cat_rf, Value.category]) ⟨rfl, rfl, by decide, by decide⟩ ?_
    refine ⟨_, rfl, by omega, Kc_i ?_⟩
    have hea := east_r y
    refine g_cSN3 (c2 := 0) (s2 := 0) hX (s_X0_dayOfYear hst) dX1_ownDay_13 (by first | exact Nat.le_of_ble_eq_true rfl | simp [cat_rf, Value.category]) ⟨rfl, rfl, by decide, by decide⟩ ?_
    refine ⟨_, _, _, rfl, by omega, by omega, by omega, Kc_i ?_⟩
    refine g_aload hX dX1_ownDay_16 rfl rfl ?_
    refine g_get hX dX1_ownDay_17 hm rfl ?_
    refine z_iadd hX dX1_ownDay_20 ?_
    refine g_iret hX hR dX1_ownDay_21 rfl rfl (by decide) (by decide) ?_
    first | exact kint hK (by unfold ownF; rw [if_pos (by omega)]) | exact kint hK (by unfold ownF; rw [if_neg (by omega), if_pos (by omega)]) | exact kint hK (by unfold ownF; rw [if_neg (by omega), if_neg (by omega)])

def sp_X8_isSunday : hS := fun as M sz K => ∃ (p a b : Nat) (y ww su : Int) (S : LY) (d : Int), as = [.ref p, .int (iZ d)] ∧ PLN M p a b y ww su S ∧ (0 ≤ ww ∧ ww < 7) ∧ (0 ≤ d ∧ d ≤ 1000) ∧ K (.inl (some (.int (iZ (bZ ((ww + d) % 7 = 0)))))) M sz
theorem s_X8_isSunday {l : Launch} {g : hG} (hst : l.stackTraces = false) : Ctr l g mX8_isSunday sp_X8_isSunday := by
  refine Ctr.mk9 hst (by decide) ?_ ?_
  · rintro as M sz K ⟨p, a, b, y, ww, su, S, d, rfl, ⟨hm, ha, hb⟩, hw, hd, hK⟩
    exact ⟨by simp [mX8_isSunday], cat_ok rfl⟩
  rintro X as M sz K hX rfl rfl hR ⟨p, a, b, y, ww, su, S, d, rfl, ⟨hm, ha, hb⟩, hw, hd, hK⟩
  show G X 0 [.ref p, .int (iZ d)] [] M sz 0 0
  refine g_aload hX dX8_isSunday_0 rfl rfl ?_
  refine g_get hX dX8_isSunday_1 hm rfl ?_
  refine g_iload hX dX8_isSunday_4 rfl ?_
  refine z_iadd hX dX8_isSunday_5 ?_
  refine g_const hX dX8_isSunday_6 ?_
  refine z_irem hX dX8_isSunday_8 (by constructor <;> omega) (by constructor <;> omega) (by omega) (by omega) ?_
  refine z_if_ne hX dX8_isSunday_9 (by constructor <;> omega) (fun c9 => ?_) (fun c9 => ?_)
  · refine g_const hX dX8_isSunday_16 ?_
    refine g_iret hX hR dX8_isSunday_17 rfl (by first | rfl | exact nar_b _ | exact nar_01 (by omega)) (by decide) (by decide) ?_
    first | exact kint hK (bZ_t (by omega)) | exact kint hK (bZ_f (by omega))
  · refine g_const hX dX8_isSunday_12 ?_
    refine g_goto hX dX8_isSunday_13 ?_
    refine g_iret hX hR dX8_isSunday_17 rfl (by first | rfl | exact nar_b _ | exact nar_01 (by omega)) (by decide) (by decide) ?_
    first | exact kint hK (bZ_t (by omega)) | exact kint hK (bZ_f (by omega))

def sp_X8_isOpen : hS := fun as M sz K => ∃ (p a b : Nat) (y ww su : Int) (S : LY) (d rk : Int), as = [.ref p, .int (iZ d), .int (iZ rk)] ∧ PLN M p a b y ww su S ∧ (0 ≤ ww ∧ ww < 7) ∧ (0 ≤ d ∧ d < 366) ∧ (0 ≤ rk ∧ rk ≤ 9) ∧ (0 ≤ su ∧ su ≤ 9) ∧ LR S ∧ K (.inl (some (.int (iZ (bZ (S.1 d.toNat = -100 ∧ (su ≤ rk ∨ ¬ (ww + d) % 7 = 0))))))) M sz
theorem s_X8_isOpen {l : Launch} {g : hG} (hst : l.stackTraces = false) : Ctr l g mX8_isOpen sp_X8_isOpen := by
  refine Ctr.mk9 hst (by decide) ?_ ?_
  · rintro as M sz K ⟨p, a, b, y, ww, su, S, d, rk, rfl, ⟨hm, ha, hb⟩, hw, hd, hrk, hsu, hL, hK⟩
    exact ⟨by simp [mX8_isOpen], cat_ok rfl⟩
  rintro X as M sz K hX rfl rfl hR ⟨p, a, b, y, ww, su, S, d, rk, rfl, ⟨hm, ha, hb⟩, hw, hd, hrk, hsu, hL, hK⟩
  show G X 0 [.ref p, .int (iZ d), .int (iZ rk), U9] [] M sz 0 0
  refine g_iload hX dX8_isOpen_0 rfl ?_
  refine z_if_lt hX dX8_isOpen_1 (by first | exact hL.i1 _ | (constructor <;> omega)) (fun c1 => ?_) (fun c1 => ?_)
  · refine g_const hX dX8_isOpen_28 ?_
    refine g_istore hX dX8_isOpen_29 ?_
    dsimp only [List.set]
    refine g_iload hX dX8_isOpen_30 rfl ?_
    refine z_if_eq hX dX8_isOpen_31 (by first | exact hL.i1 _ | (constructor <;> omega)) (fun c31 => ?_) (fun c31 => ?_)
    · refine g_const hX dX8_isOpen_54 ?_
      refine g_iret hX hR dX8_isOpen_55 rfl (by first | rfl | exact nar_b _ | exact nar_01 (by omega)) (by decide) (by decide) ?_
      first | exact kint hK (bZ_t (by omega)) | exact kint hK (bZ_f (by omega))
    · refine g_iload hX dX8_isOpen_34 rfl ?_
      refine g_aload hX dX8_isOpen_35 rfl rfl ?_
      refine g_get hX dX8_isOpen_36 (by assumption) rfl ?_
      refine z_icmp_ge hX dX8_isOpen_39 (by first | exact hL.i1 _ | (constructor <;> omega)) (by first | exact hL.i1 _ | (constructor <;> omega)) (fun c39 => ?_) (fun c39 => ?_)
      · refine g_const hX dX8_isOpen_50 ?_
        refine g_goto hX dX8_isOpen_51 ?_
        refine g_iret hX hR dX8_isOpen_55 rfl (by first | rfl | exact nar_b _ | exact nar_01 (by omega)) (by decide) (by decide) ?_
        first | exact kint hK (bZ_t (by omega)) | exact kint hK (bZ_f (by omega))
      · refine g_aload hX dX8_isOpen_42 rfl rfl ?_
        refine g_iload hX dX8_isOpen_43 rfl ?_
        refine g_cV1 (c2 := 0) (s2 := 0) hX (s_X8_isSunday hst) dX8_isOpen_44 (by assumption) (by first | exact Nat.le_of_ble_eq_true rfl | simp [cat_rf, Value.category]) ⟨rfl, rfl, by decide, by decide⟩ ?_
        refine ⟨_, _, _, _, _, _, _, _, rfl, ⟨hm, ha, hb⟩, by omega, by omega, Kc_i ?_⟩
        refine z_ifb_ne hX dX8_isOpen_47 (fun c47 => ?_) (fun c47 => ?_)
        · refine g_const hX dX8_isOpen_54 ?_
          refine g_iret hX hR dX8_isOpen_55 rfl (by first | rfl | exact nar_b _ | exact nar_01 (by omega)) (by decide) (by decide) ?_
          first | exact kint hK (bZ_t (by omega)) | exact kint hK (bZ_f (by omega))
        · refine g_const hX dX8_isOpen_50 ?_
          refine g_goto hX dX8_isOpen_51 ?_
          refine g_iret hX hR dX8_isOpen_55 rfl (by first | rfl | exact nar_b _ | exact nar_01 (by omega)) (by decide) (by decide) ?_
          first | exact kint hK (bZ_t (by omega)) | exact kint hK (bZ_f (by omega))
  · refine g_iload hX dX8_isOpen_4 rfl ?_
    refine g_aload hX dX8_isOpen_5 rfl rfl ?_
    refine g_get hX dX8_isOpen_6 (by assumption) rfl ?_
    refine z_alen hX dX8_isOpen_9 (by assumption) (by decide) ?_
    dsimp only
    refine z_icmp_ge hX dX8_isOpen_10 (by first | exact hL.i1 _ | (constructor <;> omega)) (by first | exact hL.i1 _ | (constructor <;> omega)) (fun c10 => ?_) (fun c10 => ?_)
    · refine g_const hX dX8_isOpen_28 ?_
      refine g_istore hX dX8_isOpen_29 ?_
      dsimp only [List.set]
      refine g_iload hX dX8_isOpen_30 rfl ?_
      refine z_if_eq hX dX8_isOpen_31 (by first | exact hL.i1 _ | (constructor <;> omega)) (fun c31 => ?_) (fun c31 => ?_)
      · refine g_const hX dX8_isOpen_54 ?_
        refine g_iret hX hR dX8_isOpen_55 rfl (by first | rfl | exact nar_b _ | exact nar_01 (by omega)) (by decide) (by decide) ?_
        first | exact kint hK (bZ_t (by omega)) | exact kint hK (bZ_f (by omega))
      · refine g_iload hX dX8_isOpen_34 rfl ?_
        refine g_aload hX dX8_isOpen_35 rfl rfl ?_
        refine g_get hX dX8_isOpen_36 (by assumption) rfl ?_
        refine z_icmp_ge hX dX8_isOpen_39 (by first | exact hL.i1 _ | (constructor <;> omega)) (by first | exact hL.i1 _ | (constructor <;> omega)) (fun c39 => ?_) (fun c39 => ?_)
        · refine g_const hX dX8_isOpen_50 ?_
          refine g_goto hX dX8_isOpen_51 ?_
          refine g_iret hX hR dX8_isOpen_55 rfl (by first | rfl | exact nar_b _ | exact nar_01 (by omega)) (by decide) (by decide) ?_
          first | exact kint hK (bZ_t (by omega)) | exact kint hK (bZ_f (by omega))
        · refine g_aload hX dX8_isOpen_42 rfl rfl ?_
          refine g_iload hX dX8_isOpen_43 rfl ?_
          refine g_cV1 (c2 := 0) (s2 := 0) hX (s_X8_isSunday hst) dX8_isOpen_44 (by assumption) (by first | exact Nat.le_of_ble_eq_true rfl | simp [cat_rf, Value.category]) ⟨rfl, rfl, by decide, by decide⟩ ?_
          refine ⟨_, _, _, _, _, _, _, _, rfl, ⟨hm, ha, hb⟩, by omega, by omega, Kc_i ?_⟩
          refine z_ifb_ne hX dX8_isOpen_47 (fun c47 => ?_) (fun c47 => ?_)
          · refine g_const hX dX8_isOpen_54 ?_
            refine g_iret hX hR dX8_isOpen_55 rfl (by first | rfl | exact nar_b _ | exact nar_01 (by omega)) (by decide) (by decide) ?_
            first | exact kint hK (bZ_t (by omega)) | exact kint hK (bZ_f (by omega))
          · refine g_const hX dX8_isOpen_50 ?_
            refine g_goto hX dX8_isOpen_51 ?_
            refine g_iret hX hR dX8_isOpen_55 rfl (by first | rfl | exact nar_b _ | exact nar_01 (by omega)) (by decide) (by decide) ?_
            first | exact kint hK (bZ_t (by omega)) | exact kint hK (bZ_f (by omega))
    · refine g_aload hX dX8_isOpen_13 rfl rfl ?_
      refine g_get hX dX8_isOpen_14 (by assumption) rfl ?_
      refine g_iload hX dX8_isOpen_17 rfl ?_
      refine z_iald hX dX8_isOpen_18 (by assumption) (by omega) (by omega) (by decide) rfl ?_
      refine g_const hX dX8_isOpen_19 ?_
      refine z_icmp_ne hX dX8_isOpen_21 (by first | exact hL.i1 _ | (constructor <;> omega)) (by first | exact hL.i1 _ | (constructor <;> omega)) (fun c21 => ?_) (fun c21 => ?_)
      · refine g_const hX dX8_isOpen_28 ?_
        refine g_istore hX dX8_isOpen_29 ?_
        dsimp only [List.set]
        refine g_iload hX dX8_isOpen_30 rfl ?_
        refine z_if_eq hX dX8_isOpen_31 (by first | exact hL.i1 _ | (constructor <;> omega)) (fun c31 => ?_) (fun c31 => ?_)
        · refine g_const hX dX8_isOpen_54 ?_
          refine g_iret hX hR dX8_isOpen_55 rfl (by first | rfl | exact nar_b _ | exact nar_01 (by omega)) (by decide) (by decide) ?_
          first | exact kint hK (bZ_t (by omega)) | exact kint hK (bZ_f (by omega))
        · refine g_iload hX dX8_isOpen_34 rfl ?_
          refine g_aload hX dX8_isOpen_35 rfl rfl ?_
          refine g_get hX dX8_isOpen_36 (by assumption) rfl ?_
          refine z_icmp_ge hX dX8_isOpen_39 (by first | exact hL.i1 _ | (constructor <;> omega)) (by first | exact hL.i1 _ | (constructor <;> omega)) (fun c39 => ?_) (fun c39 => ?_)
          · refine g_const hX dX8_isOpen_50 ?_
            refine g_goto hX dX8_isOpen_51 ?_
            refine g_iret hX hR dX8_isOpen_55 rfl (by first | rfl | exact nar_b _ | exact nar_01 (by omega)) (by decide) (by decide) ?_
            first | exact kint hK (bZ_t (by omega)) | exact kint hK (bZ_f (by omega))
          · refine g_aload hX dX8_isOpen_42 rfl rfl ?_
            refine g_iload hX dX8_isOpen_43 rfl ?_
            refine g_cV1 (c2 := 0) (s2 := 0) hX (s_X8_isSunday hst) dX8_isOpen_44 (by assumption) (by first | exact Nat.le_of_ble_eq_true rfl | simp [cat_rf, Value.category]) ⟨rfl, rfl, by decide, by decide⟩ ?_
            refine ⟨_, _, _, _, _, _, _, _, rfl, ⟨hm, ha, hb⟩, by omega, by omega, Kc_i ?_⟩
            refine z_ifb_ne hX dX8_isOpen_47 (fun c47 => ?_) (fun c47 => ?_)
            · refine g_const hX dX8_isOpen_54 ?_
              refine g_iret hX hR dX8_isOpen_55 rfl (by first | rfl | exact nar_b _ | exact nar_01 (by omega)) (by decide) (by decide) ?_
              first | exact kint hK (bZ_t (by omega)) | exact kint hK (bZ_f (by omega))
            · refine g_const hX dX8_isOpen_50 ?_
              refine g_goto hX dX8_isOpen_51 ?_
              refine g_iret hX hR dX8_isOpen_55 rfl (by first | rfl | exact nar_b _ | exact nar_01 (by omega)) (by decide) (by decide) ?_
              first | exact kint hK (bZ_t (by omega)) | exact kint hK (bZ_f (by omega))
      · refine g_const hX dX8_isOpen_24 ?_
        refine g_goto hX dX8_isOpen_25 ?_
        refine g_istore hX dX8_isOpen_29 ?_
        dsimp only [List.set]
        refine g_iload hX dX8_isOpen_30 rfl ?_
        refine z_if_eq hX dX8_isOpen_31 (by first | exact hL.i1 _ | (constructor <;> omega)) (fun c31 => ?_) (fun c31 => ?_)
        · refine g_const hX dX8_isOpen_54 ?_
          refine g_iret hX hR dX8_isOpen_55 rfl (by first | rfl | exact nar_b _ | exact nar_01 (by omega)) (by decide) (by decide) ?_
          first | exact kint hK (bZ_t (by omega)) | exact kint hK (bZ_f (by omega))
        · refine g_iload hX dX8_isOpen_34 rfl ?_
          refine g_aload hX dX8_isOpen_35 rfl rfl ?_
          refine g_get hX dX8_isOpen_36 (by assumption) rfl ?_
          refine z_icmp_ge hX dX8_isOpen_39 (by first | exact hL.i1 _ | (constructor <;> omega)) (by first | exact hL.i1 _ | (constructor <;> omega)) (fun c39 => ?_) (fun c39 => ?_)
          · refine g_const hX dX8_isOpen_50 ?_
            refine g_goto hX dX8_isOpen_51 ?_
            refine g_iret hX hR dX8_isOpen_55 rfl (by first | rfl | exact nar_b _ | exact nar_01 (by omega)) (by decide) (by decide) ?_
            first | exact kint hK (bZ_t (by omega)) | exact kint hK (bZ_f (by omega))
          · refine g_aload hX dX8_isOpen_42 rfl rfl ?_
            refine g_iload hX dX8_isOpen_43 rfl ?_
            refine g_cV1 (c2 := 0) (s2 := 0) hX (s_X8_isSunday hst) dX8_isOpen_44 (by assumption) (by first | exact Nat.le_of_ble_eq_true rfl | simp [cat_rf, Value.category]) ⟨rfl, rfl, by decide, by decide⟩ ?_
            refine ⟨_, _, _, _, _, _, _, _, rfl, ⟨hm, ha, hb⟩, by omega, by omega, Kc_i ?_⟩
            refine z_ifb_ne hX dX8_isOpen_47 (fun c47 => ?_) (fun c47 => ?_)
            · refine g_const hX dX8_isOpen_54 ?_
              refine g_iret hX hR dX8_isOpen_55 rfl (by first | rfl | exact nar_b _ | exact nar_01 (by omega)) (by decide) (by decide) ?_
              first | exact kint hK (bZ_t (by omega)) | exact kint hK (bZ_f (by omega))
            · refine g_const hX dX8_isOpen_50 ?_
              refine g_goto hX dX8_isOpen_51 ?_
              refine g_iret hX hR dX8_isOpen_55 rfl (by first | rfl | exact nar_b _ | exact nar_01 (by omega)) (by decide) (by decide) ?_
              first | exact kint hK (bZ_t (by omega)) | exact kint hK (bZ_f (by omega))

def sp_X8_keptOn : hS := fun as M sz K => ∃ (p a b : Nat) (y ww su : Int) (S : LY) (d : Int), as = [.ref p, .int (iZ d)] ∧ PLN M p a b y ww su S ∧ (0 ≤ ww ∧ ww < 7) ∧ (0 ≤ d ∧ d < 366) ∧ LR S ∧ K (.inl (some (.int (iZ (if S.1 d.toNat = -100 ∧ (ww + d) % 7 = 0 then -2 else S.1 d.toNat))))) M sz
theorem s_X8_keptOn {l : Launch} {g : hG} (hst : l.stackTraces = false) : Ctr l g mX8_keptOn sp_X8_keptOn := by
  refine Ctr.mk9 hst (by decide) ?_ ?_
  · rintro as M sz K ⟨p, a, b, y, ww, su, S, d, rfl, ⟨hm, ha, hb⟩, hw, hd, hL, hK⟩
    exact ⟨by simp [mX8_keptOn], cat_ok rfl⟩
  rintro X as M sz K hX rfl rfl hR ⟨p, a, b, y, ww, su, S, d, rfl, ⟨hm, ha, hb⟩, hw, hd, hL, hK⟩
  show G X 0 [.ref p, .int (iZ d), U9] [] M sz 0 0
  refine g_iload hX dX8_keptOn_0 rfl ?_
  refine z_if_lt hX dX8_keptOn_1 (by first | exact hL.i1 _ | (constructor <;> omega)) (fun c1 => ?_) (fun c1 => ?_)
  · refine g_const hX dX8_keptOn_22 ?_
    refine g_istore hX dX8_keptOn_24 ?_
    dsimp only [List.set]
    refine g_iload hX dX8_keptOn_25 rfl ?_
    refine g_const hX dX8_keptOn_26 ?_
    refine z_icmp_ne hX dX8_keptOn_28 (by first | exact hL.i1 _ | (constructor <;> omega)) (by first | exact hL.i1 _ | (constructor <;> omega)) (fun c28 => ?_) (fun c28 => ?_)
    · refine g_iload hX dX8_keptOn_44 rfl ?_
      refine g_iret hX hR dX8_keptOn_45 rfl rfl (by decide) (by decide) ?_
      exact kint hK (by split <;> omega)
    · refine g_aload hX dX8_keptOn_31 rfl rfl ?_
      refine g_iload hX dX8_keptOn_32 rfl ?_
      refine g_cV1 (c2 := 0) (s2 := 0) hX (s_X8_isSunday hst) dX8_keptOn_33 (by assumption) (by first | exact Nat.le_of_ble_eq_true rfl | simp [cat_rf, Value.category]) ⟨rfl, rfl, by decide, by decide⟩ ?_
      refine ⟨_, _, _, _, _, _, _, _, rfl, ⟨hm, ha, hb⟩, by omega, by omega, Kc_i ?_⟩
      refine z_ifb_eq hX dX8_keptOn_36 (fun c36 => ?_) (fun c36 => ?_)
      · refine g_iload hX dX8_keptOn_44 rfl ?_
        refine g_iret hX hR dX8_keptOn_45 rfl rfl (by decide) (by decide) ?_
        exact kint hK (by split <;> omega)
      · refine g_const hX dX8_keptOn_39 ?_
        refine g_goto hX dX8_keptOn_41 ?_
        refine g_iret hX hR dX8_keptOn_45 rfl rfl (by decide) (by decide) ?_
        exact kint hK (by split <;> omega)
  · refine g_iload hX dX8_keptOn_4 rfl ?_
    refine g_aload hX dX8_keptOn_5 rfl rfl ?_
    refine g_get hX dX8_keptOn_6 (by assumption) rfl ?_
    refine z_alen hX dX8_keptOn_9 (by assumption) (by decide) ?_
    dsimp only
    refine z_icmp_ge hX dX8_keptOn_10 (by first | exact hL.i1 _ | (constructor <;> omega)) (by first | exact hL.i1 _ | (constructor <;> omega)) (fun c10 => ?_) (fun c10 => ?_)
    · refine g_const hX dX8_keptOn_22 ?_
      refine g_istore hX dX8_keptOn_24 ?_
      dsimp only [List.set]
      refine g_iload hX dX8_keptOn_25 rfl ?_
      refine g_const hX dX8_keptOn_26 ?_
      refine z_icmp_ne hX dX8_keptOn_28 (by first | exact hL.i1 _ | (constructor <;> omega)) (by first | exact hL.i1 _ | (constructor <;> omega)) (fun c28 => ?_) (fun c28 => ?_)
      · refine g_iload hX dX8_keptOn_44 rfl ?_
        refine g_iret hX hR dX8_keptOn_45 rfl rfl (by decide) (by decide) ?_
        exact kint hK (by split <;> omega)
      · refine g_aload hX dX8_keptOn_31 rfl rfl ?_
        refine g_iload hX dX8_keptOn_32 rfl ?_
        refine g_cV1 (c2 := 0) (s2 := 0) hX (s_X8_isSunday hst) dX8_keptOn_33 (by assumption) (by first | exact Nat.le_of_ble_eq_true rfl | simp [cat_rf, Value.category]) ⟨rfl, rfl, by decide, by decide⟩ ?_
        refine ⟨_, _, _, _, _, _, _, _, rfl, ⟨hm, ha, hb⟩, by omega, by omega, Kc_i ?_⟩
        refine z_ifb_eq hX dX8_keptOn_36 (fun c36 => ?_) (fun c36 => ?_)
        · refine g_iload hX dX8_keptOn_44 rfl ?_
          refine g_iret hX hR dX8_keptOn_45 rfl rfl (by decide) (by decide) ?_
          exact kint hK (by split <;> omega)
        · refine g_const hX dX8_keptOn_39 ?_
          refine g_goto hX dX8_keptOn_41 ?_
          refine g_iret hX hR dX8_keptOn_45 rfl rfl (by decide) (by decide) ?_
          exact kint hK (by split <;> omega)
    · refine g_aload hX dX8_keptOn_13 rfl rfl ?_
      refine g_get hX dX8_keptOn_14 (by assumption) rfl ?_
      refine g_iload hX dX8_keptOn_17 rfl ?_
      refine z_iald hX dX8_keptOn_18 (by assumption) (by omega) (by omega) (by decide) rfl ?_
      refine g_goto hX dX8_keptOn_19 ?_
      refine g_istore hX dX8_keptOn_24 ?_
      dsimp only [List.set]
      refine g_iload hX dX8_keptOn_25 rfl ?_
      refine g_const hX dX8_keptOn_26 ?_
      refine z_icmp_ne hX dX8_keptOn_28 (by first | exact hL.i1 _ | (constructor <;> omega)) (by first | exact hL.i1 _ | (constructor <;> omega)) (fun c28 => ?_) (fun c28 => ?_)
      · refine g_iload hX dX8_keptOn_44 rfl ?_
        refine g_iret hX hR dX8_keptOn_45 rfl rfl (by decide) (by decide) ?_
        exact kint hK (by split <;> omega)
      · refine g_aload hX dX8_keptOn_31 rfl rfl ?_
        refine g_iload hX dX8_keptOn_32 rfl ?_
        refine g_cV1 (c2 := 0) (s2 := 0) hX (s_X8_isSunday hst) dX8_keptOn_33 (by assumption) (by first | exact Nat.le_of_ble_eq_true rfl | simp [cat_rf, Value.category]) ⟨rfl, rfl, by decide, by decide⟩ ?_
        refine ⟨_, _, _, _, _, _, _, _, rfl, ⟨hm, ha, hb⟩, by omega, by omega, Kc_i ?_⟩
        refine z_ifb_eq hX dX8_keptOn_36 (fun c36 => ?_) (fun c36 => ?_)
        · refine g_iload hX dX8_keptOn_44 rfl ?_
          refine g_iret hX hR dX8_keptOn_45 rfl rfl (by decide) (by decide) ?_
          exact kint hK (by split <;> omega)
        · refine g_const hX dX8_keptOn_39 ?_
          refine g_goto hX dX8_keptOn_41 ?_
          refine g_iret hX hR dX8_keptOn_45 rfl rfl (by decide) (by decide) ?_
          exact kint hK (by split <;> omega)

def sp_X8_dayOfFeast : hS := fun as M sz K => ∃ (p a b : Nat) (y ww su : Int) (S : LY) (k : Int), as = [.ref p, .int (iZ k)] ∧ PLN M p a b y ww su S ∧ (0 ≤ k ∧ k < 20) ∧ K (.inl (some (.int (iZ (S.2 k.toNat))))) M sz
theorem s_X8_dayOfFeast {l : Launch} {g : hG} (hst : l.stackTraces = false) : Ctr l g mX8_dayOfFeast sp_X8_dayOfFeast := by
  refine Ctr.mk9 hst (by decide) ?_ ?_
  · rintro as M sz K ⟨p, a, b, y, ww, su, S, k, rfl, ⟨hm, ha, hb⟩, hk, hK⟩
    exact ⟨by simp [mX8_dayOfFeast], cat_ok rfl⟩
  rintro X as M sz K hX rfl rfl hR ⟨p, a, b, y, ww, su, S, k, rfl, ⟨hm, ha, hb⟩, hk, hK⟩
  show G X 0 [.ref p, .int (iZ k)] [] M sz 0 0
  refine g_iload hX dX8_dayOfFeast_0 rfl ?_
  refine z_if_lt hX dX8_dayOfFeast_1 (by first | exact hL.i1 _ | (constructor <;> omega)) (fun c1 => ?_) (fun c1 => ?_)
  · refine g_const hX dX8_dayOfFeast_22 ?_
    refine g_iret hX hR dX8_dayOfFeast_24 rfl rfl (by decide) (by decide) ?_
    first | exact hK | (exfalso; omega)
  · refine g_iload hX dX8_dayOfFeast_4 rfl ?_
    refine g_aload hX dX8_dayOfFeast_5 rfl rfl ?_
    refine g_get hX dX8_dayOfFeast_6 (by assumption) rfl ?_
    refine z_alen hX dX8_dayOfFeast_9 (by assumption) (by decide) ?_
    dsimp only
    refine z_icmp_ge hX dX8_dayOfFeast_10 (by first | exact hL.i1 _ | (constructor <;> omega)) (by first | exact hL.i1 _ | (constructor <;> omega)) (fun c10 => ?_) (fun c10 => ?_)
    · refine g_const hX dX8_dayOfFeast_22 ?_
      refine g_iret hX hR dX8_dayOfFeast_24 rfl rfl (by decide) (by decide) ?_
      first | exact hK | (exfalso; omega)
    · refine g_aload hX dX8_dayOfFeast_13 rfl rfl ?_
      refine g_get hX dX8_dayOfFeast_14 (by assumption) rfl ?_
      refine g_iload hX dX8_dayOfFeast_17 rfl ?_
      refine z_iald hX dX8_dayOfFeast_18 (by assumption) (by omega) (by omega) (by decide) rfl ?_
      refine g_goto hX dX8_dayOfFeast_19 ?_
      refine g_iret hX hR dX8_dayOfFeast_24 rfl rfl (by decide) (by decide) ?_
      first | exact hK | (exfalso; omega)
