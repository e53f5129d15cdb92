/-! the calendar, by its two kinds of year -/
theorem place_lp {y z : Int} (h : leapZ y ↔ leapZ z) (m d : Int) : placeZ y m d = placeZ z m d := by
  unfold placeZ
  rw [bZ_iff (show (2 < m ∧ leapZ y) ↔ (2 < m ∧ leapZ z) by rw [h])]
theorem mon_lp {y z : Int} (h : leapZ y ↔ leapZ z) (p : Int) : ∀ (n : Nat) (m : Int), monZ y p n m = monZ z p n m
  | 0, _ => rfl
  | n + 1, m => by
    unfold monZ
    rw [place_lp h, mon_lp h p n]
theorem date_lp {y z : Int} (h : leapZ y ↔ leapZ z) (p : Int) : dateZ y p = dateZ z p := by
  unfold dateZ
  rw [mon_lp h, place_lp h]
theorem mlen_lp {y z : Int} (h : leapZ y ↔ leapZ z) (m : Int) : mlenZ y m = mlenZ z m := by
  unfold mlenZ
  by_cases q : leapZ y
  · rw [if_pos q, if_pos (h.mp q)]
  · rw [if_neg q, if_neg (fun g => q (h.mpr g))]
theorem ylen_lp {y z : Int} (h : leapZ y ↔ leapZ z) : ylenZ y = ylenZ z := by
  unfold ylenZ
  by_cases q : leapZ y
  · rw [if_pos q, if_pos (h.mp q)]
  · rw [if_neg q, if_neg (fun g => q (h.mpr g))]
abbrev calP (y p : Int) : Prop := (1 ≤ dateZ y p / 100 ∧ dateZ y p / 100 ≤ 12) ∧ 1 ≤ dateZ y p % 100 ∧ dateZ y p % 100 ≤ mlenZ y (dateZ y p / 100) ∧ placeZ y (dateZ y p / 100) (dateZ y p % 100) = p
abbrev calD (y m d : Int) : Prop := d ≤ mlenZ y m → dateZ y (placeZ y m d) = 100 * m + d ∧ 0 ≤ placeZ y m d ∧ placeZ y m d < ylenZ y
set_option maxRecDepth 100000 in
theorem calP_l : ∀ p : Nat, p < 366 → calP 2000 (p : Int) := by decide +kernel
set_option maxRecDepth 100000 in
theorem calP_c : ∀ p : Nat, p < 365 → calP 2001 (p : Int) := by decide +kernel
set_option maxRecDepth 100000 in
theorem calD_l : ∀ m : Nat, m < 12 → ∀ d : Nat, d < 31 → calD 2000 ((m : Int) + 1) ((d : Int) + 1) := by decide +kernel
set_option maxRecDepth 100000 in
theorem calD_c : ∀ m : Nat, m < 12 → ∀ d : Nat, d < 31 → calD 2001 ((m : Int) + 1) ((d : Int) + 1) := by decide +kernel
theorem cal_p {y p : Int} (h : 0 ≤ p ∧ p < ylenZ y) : calP y p := by
  unfold calP
  by_cases q : leapZ y
  · have e : leapZ y ↔ leapZ 2000 := ⟨fun _ => by decide, fun _ => q⟩
    have hl : ylenZ y = 366 := if_pos q
    rw [date_lp e, mlen_lp e, place_lp e]
    have := calP_l p.toNat (by omega)
    rw [show ((p.toNat : Nat) : Int) = p by omega] at this
    exact this
  · have e : leapZ y ↔ leapZ 2001 := ⟨fun g => absurd g q, fun g => absurd g (by decide)⟩
    have hl : ylenZ y = 365 := if_neg q
    rw [date_lp e, mlen_lp e, place_lp e]
    have := calP_c p.toNat (by omega)
    rw [show ((p.toNat : Nat) : Int) = p by omega] at this
    exact this
theorem cal_d {y m d : Int} (hm : 1 ≤ m ∧ m ≤ 12) (hd : 1 ≤ d ∧ d ≤ mlenZ y m) : dateZ y (placeZ y m d) = 100 * m + d ∧ 0 ≤ placeZ y m d ∧ placeZ y m d < ylenZ y := by
  have hml := mlen_r y m
  by_cases q : leapZ y
  · have e : leapZ y ↔ leapZ 2000 := ⟨fun _ => by decide, fun _ => q⟩
    rw [date_lp e, place_lp e, ylen_lp e]
    have := calD_l (m - 1).toNat (by omega) (d - 1).toNat (by omega)
    rw [show (((m - 1).toNat : Nat) : Int) + 1 = m by omega, show (((d - 1).toNat : Nat) : Int) + 1 = d by omega] at this
    exact this (by rw [← mlen_lp e]; exact hd.2)
  · have e : leapZ y ↔ leapZ 2001 := ⟨fun g => absurd g q, fun g => absurd g (by decide)⟩
    rw [date_lp e, place_lp e, ylen_lp e]
    have := calD_c (m - 1).toNat (by omega) (d - 1).toNat (by omega)
    rw [show (((m - 1).toNat : Nat) : Int) + 1 = m by omega, show (((d - 1).toNat : Nat) : Int) + 1 = d by omega] at this
    exact this (by rw [← mlen_lp e]; exact hd.2)
/-! the day that a feast has and the feast that a day has -/
def DU (S : LY) : Prop := ∀ d f : Nat, S.1 d = (f : Int) ↔ S.2 f = (d : Int)
theorem DU_lyS {y su rk po mo dy : Int} {k : Nat} {S : LY} (h : DU S) (hF : FR rk po mo dy) (hk : S.2 k = -100) : DU (lyS y su rk po mo dy k S) := by
  have ho := own_r (y := y) hF.2.2
  have hd := day_r y su S.1 (rk := rk) (po := po) (own := ownF y mo dy) (by omega)
  intro d f
  have hdf := h d f
  have hdk := h d k
  by_cases e : dayZ y su S.1 rk po (ownF y mo dy) = -100
  · have e1 : (lyS y su rk po mo dy k S).1 = S.1 := if_pos e
    have e2 : (lyS y su rk po mo dy k S).2 f = S.2 f := by
      show iu S.2 k (dayZ y su S.1 rk po (ownF y mo dy)) f = S.2 f
      rw [e]
      by_cases q : f = k
      · rw [q, iu_s, hk]
      · rw [iu_n _ _ q]
    rw [e1, e2]
    exact hdf
  · obtain ⟨h1, h2, h3, h4⟩ := hd.resolve_left e
    have e1 : (lyS y su rk po mo dy k S).1 = iu S.1 (dayZ y su S.1 rk po (ownF y mo dy)).toNat (k : Int) := if_neg e
    have e2 : (lyS y su rk po mo dy k S).2 = iu S.2 k (dayZ y su S.1 rk po (ownF y mo dy)) := rfl
    have hdd := h (dayZ y su S.1 rk po (ownF y mo dy)).toNat f
    have h5 := h4.1
    rw [e1, e2]
    by_cases q : f = k
    · subst q
      rw [iu_s]
      by_cases g : d = (dayZ y su S.1 rk po (ownF y mo dy)).toNat
      · rw [g, iu_s]
        exact ⟨fun _ => by omega, fun _ => rfl⟩
      · rw [iu_n _ _ g]
        exact ⟨fun z => by have := hdf.mp z; omega, fun z => by omega⟩
    · rw [iu_n _ _ q]
      by_cases g : d = (dayZ y su S.1 rk po (ownF y mo dy)).toNat
      · rw [g, iu_s]
        exact ⟨fun z => by omega, fun z => by have := hdd.mpr z; omega⟩
      · rw [iu_n _ _ g]
        exact hdf
theorem DU_lyJ {F : Nat → Nat → Int} {n : Nat} (hF : FA F n) {y su r : Int} {S : LY} (h : DU S) (hu : ∀ j, F 0 j = r → S.2 j = -100) : ∀ j, j ≤ n → DU (lyJ F y su r j S)
  | 0, _ => h
  | j + 1, hj => by
    rw [lyJ_s]
    split
    · rename_i e
      exact DU_lyS (DU_lyJ hF h hu j (by omega)) (hF.2 j (by omega)) (by rw [lyJ_un j (fun h9 => by omega)]; exact hu j e)
    · exact DU_lyJ hF h hu j (by omega)
theorem DU_lyR {F : Nat → Nat → Int} {n : Nat} (hF : FA F n) {y su : Int} : ∀ t, DU (lyR F y su n t)
  | 0 => fun d f => ⟨fun z => by have z1 : (-100 : Int) = (f : Int) := z; omega, fun z => by have z1 : (-100 : Int) = (d : Int) := z; omega⟩
  | t + 1 => by rw [lyR_s]; exact DU_lyJ hF (DU_lyR hF t) (fun j e => lyR_un t (Or.inr (by omega))) n (Nat.le_refl n)
theorem SV.DU {σ : SG} (h : SV σ) (y : Int) : DU (layZ σ y) := DU_lyR h.FA 9
theorem lyJ_d {F : Nat → Nat → Int} {n : Nat} (hF : FA F n) {y su r : Int} {S : LY} (h : ∀ k, S.2 k = -100 ∨ (0 ≤ S.2 k ∧ S.2 k < ylenZ y)) : ∀ j, j ≤ n → ∀ k, (lyJ F y su r j S).2 k = -100 ∨ (0 ≤ (lyJ F y su r j S).2 k ∧ (lyJ F y su r j S).2 k < ylenZ y)
  | 0, _ => h
  | j + 1, hj => by
    intro k
    have ih := lyJ_d (F := F) (y := y) (su := su) (r := r) hF h j (by omega) k
    rw [lyJ_s]
    split
    · have ho := own_r (y := y) (hF.2 j (by omega)).2.2
      have hd := day_r y su (lyJ F y su r j S).1 (rk := F 0 j) (po := F 1 j) (own := ownF y (F 2 j) (F 3 j)) (by omega)
      show iu (lyJ F y su r j S).2 j _ k = -100 ∨ (0 ≤ iu (lyJ F y su r j S).2 j _ k ∧ iu (lyJ F y su r j S).2 j _ k < _)
      unfold iu
      split
      · rcases hd with hd | hd
        · exact Or.inl hd
        · exact Or.inr ⟨hd.1, hd.2.1⟩
      · exact ih
    · exact ih
theorem lyR_d {F : Nat → Nat → Int} {n : Nat} (hF : FA F n) {y su : Int} : ∀ t k, (lyR F y su n t).2 k = -100 ∨ (0 ≤ (lyR F y su n t).2 k ∧ (lyR F y su n t).2 k < ylenZ y)
  | 0, _ => Or.inl rfl
  | t + 1, k => by rw [lyR_s]; exact lyJ_d hF (lyR_d hF t) n (Nat.le_refl n) k
theorem SV.day {σ : SG} (h : SV σ) (y : Int) (k : Nat) : (layZ σ y).2 k = -100 ∨ (0 ≤ (layZ σ y).2 k ∧ (layZ σ y).2 k < ylenZ y) := lyR_d h.FA 9 k
theorem kept_eq {y : Int} (hy : 1600 ≤ y ∧ y ≤ 2399) (S : LY) {d : Int} (hd : 0 ≤ d) : (if S.1 d.toNat = -100 ∧ (wdayZ y 0 + d) % 7 = 0 then -2 else S.1 d.toNat) = keptS y S d.toNat := by
  have h := wday_of y d.toNat hy
  rw [show ((d.toNat : Nat) : Int) = d by omega] at h
  unfold keptS
  rw [h, show ((d.toNat : Nat) : Int) = d by omega]
theorem kept_f {y : Int} {S : LY} {d f : Nat} : keptS y S d = (f : Int) ↔ S.1 d = (f : Int) := by
  unfold keptS
  split
  · omega
  · exact Iff.rfl
/-- what is found when the days up to the one before m, d have been looked at -/
def wfZ (y P m d : Int) : Int := if P ≠ -100 ∧ (dateZ y P / 100 < m ∨ (dateZ y P / 100 = m ∧ dateZ y P % 100 < d)) then dateZ y P else -100
theorem wf_0 {y P : Int} (h : P = -100 ∨ (0 ≤ P ∧ P < ylenZ y)) : wfZ y P 1 1 = -100 := by
  unfold wfZ
  refine if_neg (fun g => ?_)
  have := cal_p (h.resolve_left g.1)
  omega
theorem wf_e {y P : Int} (h : P = -100 ∨ (0 ≤ P ∧ P < ylenZ y)) (d : Int) : wfZ y P 13 d = if P = -100 then -100 else dateZ y P := by
  unfold wfZ
  by_cases q : P = -100
  · rw [if_neg (fun g => g.1 q), if_pos q]
  · have := cal_p (h.resolve_left q)
    rw [if_pos ⟨q, Or.inl (by omega)⟩, if_neg q]
theorem wf_m {y P m d : Int} (h : P = -100 ∨ (0 ≤ P ∧ P < ylenZ y)) (hd : mlenZ y m < d) : wfZ y P m d = wfZ y P (m + 1) 1 := by
  unfold wfZ
  by_cases q : P = -100
  · rw [if_neg (fun g => g.1 q), if_neg (fun g => g.1 q)]
  · obtain ⟨h1, h2, h3, h4⟩ := cal_p (h.resolve_left q)
    by_cases g : dateZ y P / 100 = m
    · rw [g] at h3
      rw [if_pos ⟨q, Or.inr ⟨g, by omega⟩⟩, if_pos ⟨q, Or.inl (by omega)⟩]
    · by_cases g2 : dateZ y P / 100 < m
      · rw [if_pos ⟨q, Or.inl g2⟩, if_pos ⟨q, Or.inl (by omega)⟩]
      · rw [if_neg (fun z => by omega), if_neg (fun z => by omega)]
theorem wf_y {y P m d : Int} (hm : 1 ≤ m ∧ m ≤ 12) (hd : 1 ≤ d ∧ d ≤ mlenZ y m) (e : P = placeZ y m d) : wfZ y P m (d + 1) = 100 * m + d := by
  have h := cal_d hm hd
  have hml := mlen_r y m
  unfold wfZ
  rw [e, h.1, if_pos ⟨by omega, Or.inr ⟨by omega, by omega⟩⟩]
theorem wf_n {y P m d : Int} (h : P = -100 ∨ (0 ≤ P ∧ P < ylenZ y)) (hm : 1 ≤ m ∧ m ≤ 12) (hd : 1 ≤ d ∧ d ≤ mlenZ y m) (e : P ≠ placeZ y m d) : wfZ y P m (d + 1) = wfZ y P m d := by
  unfold wfZ
  by_cases q : P = -100
  · rw [if_neg (fun g => g.1 q), if_neg (fun g => g.1 q)]
  · obtain ⟨h1, h2, h3, h4⟩ := cal_p (h.resolve_left q)
    have hx : ¬ (dateZ y P / 100 = m ∧ dateZ y P % 100 = d) := fun g => e (by rw [← h4, g.1, g.2])
    by_cases g : dateZ y P / 100 < m ∨ (dateZ y P / 100 = m ∧ dateZ y P % 100 < d)
    · rw [if_pos ⟨q, by omega⟩, if_pos ⟨q, g⟩]
    · rw [if_neg (fun z => g (by omega)), if_neg (fun z => g z.2)]
theorem wf_r {y P m d : Int} (h : P = -100 ∨ (0 ≤ P ∧ P < ylenZ y)) : inR (wfZ y P m d) := by
  unfold wfZ
  split
  · rename_i g
    have h1 := cal_p (h.resolve_left g.1)
    constructor <;> omega
  · constructor <;> omega
def layT (σ : SG) (y : Int) : Nat → Nat → Int := fun c k => match c with
  | 0 => y
  | 1 => wdayZ y 0
  | 2 => σ 4 0 0
  | 3 => (layZ σ y).1 k
  | _ => (layZ σ y).2 k
theorem HX.lay {aD h : Nat} {A : Nat → Nat → Nat} {ow : Nat → Nat × Nat} {σ : SG} {τ : Nat → Nat → Int} {M M1 : hM} (H : HX aD h A ow σ τ M) {y : Int} (hP : PLN M1 (A 3 0) (A 4 0) (A 5 0) y (wdayZ y 0) (σ 4 0 0) (layZ σ y)) (hfr : ∀ q, q ≠ A 3 0 → q ≠ A 4 0 → q ≠ A 5 0 → M1 q = M q) : HX aD h A ow σ (layT σ y) M1 := by
  have v3 : ∀ k, 3 ≤ k → k ≤ 5 → VLD σ k 0 := fun k h1 h2 => Or.inl ⟨by omega, h2, rfl⟩
  refine H.upd (fun k i => 3 ≤ k ∧ k ≤ 5 ∧ i = 0) (fun _ _ => rfl) (fun k i hv hs => ?_) (fun q hq => hfr q (hq 3 0 (by decide) (v3 3 (by decide) (by decide))) (hq 4 0 (by decide) (v3 4 (by decide) (by decide))) (hq 5 0 (by decide) (v3 5 (by decide) (by decide)))) (fun k i hv hs => ?_)
  · unfold CELL
    split <;> first | rfl | (exfalso; unfold VLD at hv; omega)
  · obtain ⟨h1, h2, rfl⟩ := hs
    rcases (show k = 3 ∨ k = 4 ∨ k = 5 by omega) with rfl | rfl | rfl
    · exact hP.1
    · exact hP.2.1
    · exact hP.2.2
