/-! what the drawn calls rest on -/
theorem yb_ush (x : Int32) : ∃ w : Int, (x.toUInt32 >>> ((iZ 8).toUInt32 &&& Int32.toUInt32 31)).toInt32 = iZ w ∧ 0 ≤ w ∧ w < 16777216 := by
  have h := pk_ushr x (iZ 8) 8 (by decide +kernel)
  generalize hy : (x.toUInt32 >>> ((iZ 8).toUInt32 &&& Int32.toUInt32 31)).toInt32 = y at h ⊢
  have h1 : x.toBitVec.toNat < 2 ^ 32 := x.toBitVec.isLt
  have h2 : y.toBitVec.toNat < 16777216 := by rw [h]; omega
  refine ⟨(y.toBitVec.toNat : Int), ?_, by omega, by omega⟩
  have h3 : y.toInt = (y.toBitVec.toNat : Int) := by
    show y.toBitVec.toInt = _
    exact BitVec.toInt_eq_toNat_of_lt (by omega)
  rw [← h3]
  exact (Int32.ofInt_toInt y).symm
theorem yb_ishl {m : Int} (h : m = 1 ∨ m = 2) : (iZ 1 <<< (iZ m &&& 31)) = iZ (2 ^ m.toNat) := by
  rcases h with rfl | rfl <;> decide +kernel
theorem yb_adT (σ : SG) (a b : Int) : adT σ a b 0 0 0 = σ 0 0 0 + 1 ∧ adT σ a b 1 0 0 = σ 1 0 0 ∧ adT σ a b 2 0 0 = σ 2 0 0 ∧ adT σ a b 3 0 0 = σ 3 0 0 := by
  unfold adT
  exact ⟨by simp [sup], by simp [sup], by simp [sup], by simp [sup]⟩
theorem yb_adU (σ : SG) (a lo hi : Int) : adU σ a lo hi 0 0 0 = σ 0 0 0 ∧ adU σ a lo hi 1 0 0 = σ 1 0 0 + 1 ∧ adU σ a lo hi 2 0 0 = σ 2 0 0 ∧ adU σ a lo hi 3 0 0 = σ 3 0 0 := by
  unfold adU
  exact ⟨by simp [sup], by simp [sup], by simp [sup], by simp [sup]⟩
theorem yb_adF (σ : SG) (r po mo dy mv : Int) : adF σ r po mo dy mv 0 0 0 = σ 0 0 0 ∧ adF σ r po mo dy mv 1 0 0 = σ 1 0 0 ∧ adF σ r po mo dy mv 2 0 0 = σ 2 0 0 + 1 ∧ adF σ r po mo dy mv 3 0 0 = σ 3 0 0 := by
  unfold adF
  exact ⟨by simp [sup], by simp [sup], by simp [sup], by simp [sup]⟩
theorem yb_adS (σ : SG) (t u y p : Int) : adS σ t u y p 0 0 0 = σ 0 0 0 ∧ adS σ t u y p 1 0 0 = σ 1 0 0 ∧ adS σ t u y p 2 0 0 = σ 2 0 0 ∧ adS σ t u y p 3 0 0 = σ 3 0 0 + 1 := by
  unfold adS
  exact ⟨by simp [sup], by simp [sup], by simp [sup], by simp [sup]⟩
theorem yb_sup {c : Nat} (hc : 4 ≤ c) (σ : SG) (i k : Nat) (v : Int) : sup σ c i k v 0 0 0 = σ 0 0 0 ∧ sup σ c i k v 1 0 0 = σ 1 0 0 ∧ sup σ c i k v 2 0 0 = σ 2 0 0 ∧ sup σ c i k v 3 0 0 = σ 3 0 0 :=
  ⟨sup_n σ v (by omega), sup_n σ v (by omega), sup_n σ v (by omega), sup_n σ v (by omega)⟩
theorem yb_adL {c : Nat} (hc : 4 ≤ c) (σ : SG) (t : Nat) (m s : Int) : adL σ c t m s 0 0 0 = σ 0 0 0 ∧ adL σ c t m s 1 0 0 = σ 1 0 0 ∧ adL σ c t m s 2 0 0 = σ 2 0 0 ∧ adL σ c t m s 3 0 0 = σ 3 0 0 := by
  unfold adL
  have h1 := yb_sup (c := c + 1) (by omega) σ t (σ c t 0).toNat m
  have h2 := yb_sup (c := c + 2) (by omega) (sup σ (c + 1) t (σ c t 0).toNat m) t (σ c t 0).toNat s
  have h3 := yb_sup hc (sup (sup σ (c + 1) t (σ c t 0).toNat m) (c + 2) t (σ c t 0).toNat s) t 0 (σ c t 0 + 1)
  exact ⟨h3.1.trans (h2.1.trans h1.1), h3.2.1.trans (h2.2.1.trans h1.2.1), h3.2.2.1.trans (h2.2.2.1.trans h1.2.2.1), h3.2.2.2.trans (h2.2.2.2.trans h1.2.2.2)⟩
/-- the counts of one state are those of another -/
def yb_C (σ σ' : SG) : Prop := σ' 0 0 0 = σ 0 0 0 ∧ σ' 1 0 0 = σ 1 0 0 ∧ σ' 2 0 0 = σ 2 0 0 ∧ σ' 3 0 0 = σ 3 0 0
section Y6
variable {σ : SG} {a b c d t m s u y : Int}
theorem yb_text1 (ha : 1500 ≤ a ∧ a ≤ 2399) (hb : 0 ≤ b ∧ b ≤ 65535) (h : σ 0 0 0 < 12) : ya_act σ 0 a b c d = (σ 0 0 0, adT σ a b) := (ya_act0 σ a b c d).trans (by
  unfold oc_text
  rw [if_neg (not_not_intro ⟨ha, hb⟩), if_neg (by omega)]
  rfl)
theorem yb_text2 (ha : 1500 ≤ a ∧ a ≤ 2399) (hb : 0 ≤ b ∧ b ≤ 65535) (h : σ 0 0 0 = 12) : ya_act σ 0 a b c d = (-7000003, σ) := (ya_act0 σ a b c d).trans (by
  unfold oc_text
  rw [if_neg (not_not_intro ⟨ha, hb⟩), if_pos h]
  rfl)
theorem yb_tune1 (ha : 1500 ≤ a ∧ a ≤ 2399) (hb : (0 ≤ b ∧ b ≤ 40) ∧ b ≤ c ∧ c ≤ 40) (h : σ 1 0 0 < 12) : ya_act σ 2 a b c d = (σ 1 0 0, adU σ a b c) := (ya_act2 σ a b c d).trans (by
  unfold oc_tune
  rw [if_neg (not_not_intro ⟨ha, hb⟩), if_neg (by omega)]
  rfl)
theorem yb_tune2 (ha : 1500 ≤ a ∧ a ≤ 2399) (hb : (0 ≤ b ∧ b ≤ 40) ∧ b ≤ c ∧ c ≤ 40) (h : σ 1 0 0 = 12) : ya_act σ 2 a b c d = (-7000003, σ) := (ya_act2 σ a b c d).trans (by
  unfold oc_tune
  rw [if_neg (not_not_intro ⟨ha, hb⟩), if_pos h]
  rfl)
theorem yb_feast1 (ha : 1 ≤ a ∧ a ≤ 9) (hd : dayOK 2000 c d) (h : σ 2 0 0 < 20) : ya_act σ 14 a b c d = (σ 2 0 0, adF σ a (bZ (b = 1)) c d 0) := (ya_act14 σ a b c d).trans (by
  unfold oc_feast
  rw [if_neg (not_not_intro ⟨ha, hd⟩), if_neg (by omega)]
  rfl)
theorem yb_feast2 (ha : 1 ≤ a ∧ a ≤ 9) (hd : dayOK 2000 c d) (h : σ 2 0 0 = 20) : ya_act σ 14 a b c d = (-7000003, σ) := (ya_act14 σ a b c d).trans (by
  unfold oc_feast
  rw [if_neg (not_not_intro ⟨ha, hd⟩), if_pos h]
  rfl)
theorem yb_moving1 (ha : 1 ≤ a ∧ a ≤ 9) (hd : -60 ≤ c ∧ c ≤ 60) (h : σ 2 0 0 < 20) : ya_act σ 15 a b c d = (σ 2 0 0, adF σ a (bZ (b = 1)) 0 c 1) := (ya_act15 σ a b c d).trans (by
  unfold oc_moving
  rw [if_neg (not_not_intro ⟨ha, hd⟩), if_neg (by omega)]
  rfl)
theorem yb_moving2 (ha : 1 ≤ a ∧ a ≤ 9) (hd : -60 ≤ c ∧ c ≤ 60) (h : σ 2 0 0 = 20) : ya_act σ 15 a b c d = (-7000003, σ) := (ya_act15 σ a b c d).trans (by
  unfold oc_moving
  rw [if_neg (not_not_intro ⟨ha, hd⟩), if_pos h]
  rfl)
theorem yb_line (hV : SV σ) (ht : inN σ 0 t) (hm : 1 ≤ m ∧ m ≤ 12) (hs : 0 ≤ s ∧ s ≤ 2 ^ m.toNat - 1) : ∃ (v : Int) (σ' : SG), ya_act σ 1 t m s d = (v, σ') ∧ (1 ≤ v ∨ v = -7000003) ∧ inR v ∧ yb_C σ σ' := by
  have h9 := (hV.t t.toNat).2.2.2.1.1
  rw [ya_act1]
  unfold oc_row
  rw [if_neg (not_not_intro ht), if_neg (not_not_intro ⟨hm, hs⟩)]
  by_cases q : σ 13 t.toNat 0 = 8
  · rw [if_pos q]
    exact ⟨_, _, rfl, Or.inr rfl, ya_in rfl, rfl, rfl, rfl, rfl⟩
  · rw [if_neg q]
    exact ⟨σ 13 t.toNat 0 + 1, _, rfl, Or.inl (by omega), by constructor <;> omega, show yb_C σ (adL σ 13 t.toNat m s) from yb_adL (c := 13) (by decide) σ t.toNat m s⟩
theorem yb_phrase (hV : SV σ) (ht : inN σ 1 t) (hm : 1 ≤ m ∧ m ≤ 12) (hs : 0 ≤ s ∧ s ≤ 2 ^ m.toNat - 1) : ∃ (v : Int) (σ' : SG), ya_act σ 3 t m s d = (v, σ') ∧ (1 ≤ v ∨ v = -7000003) ∧ inR v ∧ yb_C σ σ' := by
  have h9 := (hV.u t.toNat).2.2.2.2.1.1
  rw [ya_act3]
  unfold oc_row
  rw [if_neg (not_not_intro ht), if_neg (not_not_intro ⟨hm, hs⟩)]
  by_cases q : σ 24 t.toNat 0 = 8
  · rw [if_pos q]
    exact ⟨_, _, rfl, Or.inr rfl, ya_in rfl, rfl, rfl, rfl, rfl⟩
  · rw [if_neg q]
    exact ⟨σ 24 t.toNat 0 + 1, _, rfl, Or.inl (by omega), by constructor <;> omega, show yb_C σ (adL σ 24 t.toNat m s) from yb_adL (c := 24) (by decide) σ t.toNat m s⟩
theorem yb_fits (ht : inN σ 0 t) (hu : inN σ 1 u) : oc_fits σ t u = (0, fitZ σ t.toNat u.toNat, σ) := if_neg (not_not_intro ⟨ht, hu⟩)
theorem yb_cl0 (ht : inN σ 0 t) (hu : inN σ 1 u) (h : fitZ σ t.toNat u.toNat = 0) : ya_act σ 5 t u c d = (-7000003, σ) := (ya_act5 σ t u c d).trans (by
  unfold oc_clashes
  rw [if_neg (not_not_intro ⟨ht, hu⟩), if_pos h]
  rfl)
theorem yb_cl1 (ht : inN σ 0 t) (hu : inN σ 1 u) (h : fitZ σ t.toNat u.toNat ≠ 0) : ya_act σ 5 t u c d = (clZ σ t.toNat u.toNat, σ) := (ya_act5 σ t u c d).trans (by
  unfold oc_clashes
  rw [if_neg (not_not_intro ⟨ht, hu⟩), if_neg h]
  rfl)
theorem yb_cl2 (ht : inN σ 0 t) (hu : inN σ 1 u) (h : fitZ σ t.toNat u.toNat ≠ 0) : oc_clashes σ t u = (0, clZ σ t.toNat u.toNat, σ) := by
  unfold oc_clashes
  rw [if_neg (not_not_intro ⟨ht, hu⟩), if_neg h]
theorem yb_best (ht : inN σ 0 t) : oc_best σ t = (0, bstZ σ t.toNat 0 0, σ) := if_neg (not_not_intro ht)
theorem yb_alike (ht : inN σ 1 t) : oc_alike σ t = (0, alkK σ t.toNat (σ 1 0 0).toNat, σ) := if_neg (not_not_intro ht)
theorem yb_bstK (σ : SG) (t : Nat) (y : Int) : ∀ (n u : Nat), u < n → fitZ σ t u ≠ 0 → bstK σ t 0 y n ≠ -100 ∧ clZ σ t (bstK σ t 0 y n).toNat ≤ clZ σ t u
  | 0, u, h, _ => absurd h (Nat.not_lt_zero u)
  | n + 1, u, h, hf => by
    have hr := bst_r σ t 0 y n
    unfold bstK
    by_cases e : u = n
    · subst e
      by_cases q : ((0 : Int) = 0 ∨ freeU σ u y) ∧ fitZ σ t u ≠ 0 ∧ (bstK σ t 0 y u = -100 ∨ clZ σ t u < clZ σ t (bstK σ t 0 y u).toNat)
      · rw [if_pos q]
        exact ⟨by omega, by rw [Int.toNat_natCast]; exact Int.le_refl _⟩
      · rw [if_neg q]
        have q1 : bstK σ t 0 y u ≠ -100 := fun z => q ⟨Or.inl rfl, hf, Or.inl z⟩
        have q2 : ¬ clZ σ t u < clZ σ t (bstK σ t 0 y u).toNat := fun z => q ⟨Or.inl rfl, hf, Or.inr z⟩
        exact ⟨q1, by omega⟩
    · obtain ⟨i1, i2⟩ := yb_bstK σ t y n u (by omega) hf
      by_cases q : ((0 : Int) = 0 ∨ freeU σ n y) ∧ fitZ σ t n ≠ 0 ∧ (bstK σ t 0 y n = -100 ∨ clZ σ t n < clZ σ t (bstK σ t 0 y n).toNat)
      · rw [if_pos q]
        have := q.2.2.resolve_left i1
        exact ⟨by omega, by rw [Int.toNat_natCast]; omega⟩
      · rw [if_neg q]
        exact ⟨i1, i2⟩
/-- the best tune of a text that a tune fits -/
theorem yb_min (hV : SV σ) (hu : inN σ 1 u) (t : Nat) (hf : fitZ σ t u.toNat ≠ 0) : inN σ 1 (bstZ σ t 0 0) ∧ fitZ σ t (bstZ σ t 0 0).toNat ≠ 0 ∧ clZ σ t (bstZ σ t 0 0).toNat ≤ clZ σ t u.toNat := by
  have h1 := yb_bstK σ t 0 (σ 1 0 0).toNat u.toNat (by have := hu.1; have := hu.2; omega) hf
  have h2 := (bstZ_r hV t 0 0).resolve_left h1.1
  exact ⟨⟨h2.1, h2.2.1⟩, h2.2.2, h1.2⟩
theorem yb_alk1 (σ : SG) (u : Nat) : ∀ n : Nat, u < n → 1 ≤ alkK σ u n
  | 0, h => absurd h (Nat.not_lt_zero u)
  | n + 1, h => by
    have hr := alkK_r σ u n
    have hb := bZ_le (alkZ σ n u)
    unfold alkK
    by_cases e : u = n
    · subst e
      rw [bZ_t (show alkZ σ u u from ⟨rfl, fun _ _ => rfl⟩)]
      omega
    · have := yb_alk1 σ u n (by omega)
      omega
theorem yb_met1 (σ : SG) : ∀ n : Nat, 0 < n → 1 ≤ metK σ n
  | 0, h => absurd h (Nat.lt_irrefl 0)
  | n + 1, h => by
    have hb := bZ_le (fstM σ n)
    unfold metK
    by_cases e : n = 0
    · subst e
      rw [bZ_t (show fstM σ 0 from fun m hm => absurd hm (Nat.not_lt_zero m))]
      have : metK σ 0 = 0 := rfl
      omega
    · have := yb_met1 σ n (by omega)
      omega
theorem yb_read (hV : SV σ) (ha : a = -2 ∨ inN σ 2 a) (hb : 0 ≤ b ∧ b ≤ 2) (hc : 0 ≤ c ∧ c ≤ 15) : ∃ (v : Int) (σ' : SG), oc_reading σ a b c = (0, v, σ') ∧ inR v ∧ yb_C σ σ' := by
  have h9 := hV.f.2.1 (rdI a) b.toNat
  unfold oc_reading
  rw [if_neg (not_not_intro ha), if_neg (not_not_intro ⟨hb, Or.inr hc⟩)]
  exact ⟨_, _, rfl, by constructor <;> omega, yb_sup (by decide) σ _ _ c⟩
theorem yb_sund (hV : SV σ) (ha : 0 ≤ a ∧ a ≤ 9) : ∃ (v : Int) (σ' : SG), oc_sundays σ a = (0, v, σ') ∧ (0 ≤ v ∧ v ≤ 9) ∧ yb_C σ σ' := by
  have h9 := hV.n.2.2.2.2
  unfold oc_sundays
  rw [if_neg (not_not_intro ha)]
  exact ⟨_, _, rfl, h9, yb_sup (by decide) σ _ _ a⟩
set_option maxRecDepth 100000 in
theorem yb_east9 : ∀ k : Nat, k < 800 → (322 ≤ eastMDZ (1600 + (k : Int)) ∧ eastMDZ (1600 + (k : Int)) ≤ 425) ∧ dayOK (1600 + (k : Int)) (eastMDZ (1600 + (k : Int)) / 100) (eastMDZ (1600 + (k : Int)) % 100) ∧ wdayZ (1600 + (k : Int)) (placeZ (1600 + (k : Int)) (eastMDZ (1600 + (k : Int)) / 100) (eastMDZ (1600 + (k : Int)) % 100)) = 0 := by decide +kernel
theorem yb_east (hy : 1600 ≤ y ∧ y ≤ 2399) : (322 ≤ eastMDZ y ∧ eastMDZ y ≤ 425) ∧ dayOK y (eastMDZ y / 100) (eastMDZ y % 100) ∧ wdayZ y (placeZ y (eastMDZ y / 100) (eastMDZ y % 100)) = 0 := by
  have h := yb_east9 (y - 1600).toNat (by omega)
  rw [show (1600 : Int) + (((y - 1600).toNat : Nat) : Int) = y by omega] at h
  exact h
theorem yb_eastc (σ : SG) (hy : 1600 ≤ y ∧ y ≤ 2399) : oc_easter σ y = (0, eastMDZ y, σ) := if_neg (not_not_intro hy)
theorem yb_wday (σ : SG) (h : dayOK y m d) : oc_weekday σ y m d = (0, wdayZ y (placeZ y m d), σ) := if_neg (not_not_intro h)
theorem yb_kept (σ : SG) (h : dayOK y m d) : oc_kept σ y m d = (0, keptZ σ y (placeZ y m d).toNat, σ) := if_neg (not_not_intro h)
theorem yb_theme (σ : SG) (h : dayOK y m d) : oc_theme σ y m d = (0, thZ σ y (placeZ y m d).toNat, σ) := if_neg (not_not_intro h)
theorem yb_when (hf : inN σ 2 a) (hy : 1600 ≤ y ∧ y ≤ 2399) : oc_when σ a y = (0, whenZ σ y a.toNat, σ) := by
  unfold oc_when
  rw [if_neg (not_not_intro hf), if_neg (not_not_intro hy)]
theorem yb_day (hy : 1600 ≤ y ∧ y ≤ 2399) (hm : 1 ≤ m ∧ m ≤ 12) (hd : 1 ≤ d ∧ d ≤ 28) : dayOK y m d := ⟨hy, hm, hd.1, by have := (mlen_r y m).1; omega⟩
theorem yb_S1 (hV : SV σ) (y : Int) (p : Nat) : (layZ σ y).1 p = -100 ∨ (0 ≤ (layZ σ y).1 p ∧ (layZ σ y).1 p < σ 2 0 0) := by
  have h := lyR_v (FF σ) y (σ 4 0 0) (σ 2 0 0).toNat 9 p
  have h2 := hV.n.2.2.1
  unfold layZ
  omega
/-- a feast that is kept on a day is kept then -/
theorem yb_keptwhen (hV : SV σ) (hd : dayOK y m d) (h : 0 ≤ keptZ σ y (placeZ y m d).toNat) : inN σ 2 (keptZ σ y (placeZ y m d).toNat) ∧ whenZ σ y (keptZ σ y (placeZ y m d).toNat).toNat = 100 * m + d := by
  obtain ⟨hy, hm, hd2⟩ := hd
  have hc := cal_d hm hd2
  have hk := kept_r hV y (placeZ y m d).toNat
  refine ⟨by unfold inN; omega, ?_⟩
  obtain ⟨f, hf⟩ : ∃ f : Nat, keptZ σ y (placeZ y m d).toNat = (f : Int) := ⟨(keptZ σ y (placeZ y m d).toNat).toNat, by omega⟩
  rw [hf, Int.toNat_natCast]
  have h1 : (layZ σ y).1 (placeZ y m d).toNat = (f : Int) := kept_f.mp hf
  have h2 := (hV.DU y (placeZ y m d).toNat f).mp h1
  unfold whenZ
  rw [h2, if_neg (by omega), show (((placeZ y m d).toNat : Nat) : Int) = placeZ y m d by omega]
  exact hc.1
theorem yb_keptno (hV : SV σ) (hd : dayOK y m d) (h : keptZ σ y (placeZ y m d).toNat < 0) : keptZ σ y (placeZ y m d).toNat = if wdayZ y (placeZ y m d) = 0 then -2 else -100 := by
  obtain ⟨hy, hm, hd2⟩ := hd
  have hc := cal_d hm hd2
  have h1 := yb_S1 hV y (placeZ y m d).toNat
  unfold keptZ keptS at h ⊢
  rw [show (((placeZ y m d).toNat : Nat) : Int) = placeZ y m d by omega] at h ⊢
  by_cases q : wdayZ y (placeZ y m d) = 0
  · by_cases e : (layZ σ y).1 (placeZ y m d).toNat = -100
    · rw [if_pos ⟨e, q⟩, if_pos q]
    · rw [if_neg (fun z => e z.1)] at h
      omega
  · rw [if_neg (fun z => q z.2)] at h ⊢
    rw [if_neg q]
    omega
theorem yb_whenkept (hV : SV σ) (hy : 1600 ≤ y ∧ y ≤ 2399) (f : Nat) (h : 0 < whenZ σ y f) : dayOK y (whenZ σ y f / 100) (whenZ σ y f % 100) ∧ keptZ σ y (placeZ y (whenZ σ y f / 100) (whenZ σ y f % 100)).toNat = (f : Int) := by
  have h1 := hV.day y f
  have e : (layZ σ y).2 f ≠ -100 := fun q => by unfold whenZ at h; rw [if_pos q] at h; omega
  have h2 := h1.resolve_left e
  have e2 : whenZ σ y f = dateZ y ((layZ σ y).2 f) := if_neg e
  obtain ⟨c1, c2, c3, c4⟩ := cal_p h2
  rw [e2]
  refine ⟨⟨hy, c1, c2, c3⟩, ?_⟩
  rw [c4]
  exact kept_f.mpr ((hV.DU y ((layZ σ y).2 f).toNat f).mpr (by omega))
theorem yb_whenr (hV : SV σ) (y : Int) (f : Nat) : whenZ σ y f = -100 ∨ (101 ≤ whenZ σ y f ∧ whenZ σ y f ≤ 1231) := by
  have h1 := hV.day y f
  unfold whenZ
  by_cases e : (layZ σ y).2 f = -100
  · rw [if_pos e]; exact Or.inl rfl
  · rw [if_neg e]
    obtain ⟨c1, c2, c3, c4⟩ := cal_p (h1.resolve_left e)
    have := (mlen_r y (dateZ y ((layZ σ y).2 f) / 100)).2
    exact Or.inr (by omega)
theorem yb_allowT (hV : SV σ) (ha : inN σ 0 a) : ∃ (v : Int) (σ' : SG), ya_act σ 8 a b c d = (v, σ') ∧ (0 ≤ v ∧ v ≤ 1) ∧ yb_C σ σ' := by
  have h9 := (hV.t a.toNat).2.2.1
  rw [ya_act8]
  unfold oc_allow
  rw [if_neg (not_not_intro ha)]
  exact ⟨_, _, rfl, by show 0 ≤ σ 12 a.toNat 0 ∧ σ 12 a.toNat 0 ≤ 1; omega, show yb_C σ (sup σ 12 a.toNat 0 (bZ (b = 1))) from yb_sup (c := 12) (by decide) σ _ _ _⟩
theorem yb_allowU (hV : SV σ) (ha : inN σ 1 a) : ∃ (v : Int) (σ' : SG), ya_act σ 9 a b c d = (v, σ') ∧ (0 ≤ v ∧ v ≤ 1) ∧ yb_C σ σ' := by
  have h9 := (hV.u a.toNat).2.2.2.1
  rw [ya_act9]
  unfold oc_allow
  rw [if_neg (not_not_intro ha)]
  exact ⟨_, _, rfl, by show 0 ≤ σ 23 a.toNat 0 ∧ σ 23 a.toNat 0 ≤ 1; omega, show yb_C σ (sup σ 23 a.toNat 0 (bZ (b = 1))) from yb_sup (c := 23) (by decide) σ _ _ _⟩
theorem yb_shift (hV : SV σ) (ha : inN σ 1 a) (hb : 0 ≤ b ∧ b ≤ 40) (hc : b ≤ c ∧ c ≤ 40) : ∃ v : Int, ya_act σ 10 a b c d = (v, σ) ∧ (-100 ≤ v ∧ v ≤ 40) := by
  have h9 := hV.u a.toNat
  rw [ya_act10]
  unfold oc_shift
  rw [if_neg (not_not_intro ha), if_neg (not_not_intro ⟨hb, hc⟩)]
  refine ⟨shfZ σ a.toNat b c, rfl, ?_⟩
  unfold shfZ
  split
  · omega
  · split
    · omega
    · split <;> omega
/-! services -/
theorem yb_why0 (ha : inN σ 0 a) (hd : dayOK y m d) (h : thZ σ y (placeZ y m d).toNat = -100) : ya_act σ 22 a y m d = (-7000003, σ) := (ya_act22 σ a y m d).trans (by
  unfold oc_why
  rw [if_neg (not_not_intro ha), if_neg (not_not_intro hd), if_pos h]
  rfl)
theorem yb_why1 (ha : inN σ 0 a) (hd : dayOK y m d) (h : thZ σ y (placeZ y m d).toNat ≠ -100) : ∃ v : Int, ya_act σ 22 a y m d = (v, σ) ∧ (0 ≤ v ∧ v ≤ 4) := by
  rw [ya_act22]
  unfold oc_why
  rw [if_neg (not_not_intro ha), if_neg (not_not_intro hd), if_neg h]
  exact ⟨_, rfl, rea_r _ _ _ _ _⟩
theorem yb_sing0 (hd : dayOK y m d) (h : thZ σ y (placeZ y m d).toNat = -100) : ya_act σ 23 y m d c = (-7000003, σ) := (ya_act23 σ y m d c).trans (by
  unfold oc_sing
  rw [if_neg (not_not_intro hd), if_pos (Or.inr (Or.inr (Or.inl h)))]
  rfl)
theorem yb_lyJ {F G9 : Nat → Nat → Int} (h : ∀ c i : Nat, c < 4 → F c i = G9 c i) (y su r : Int) (S : LY) : ∀ j, lyJ F y su r j S = lyJ G9 y su r j S
  | 0 => rfl
  | j + 1 => by
    rw [lyJ_s, lyJ_s, yb_lyJ h y su r S j, h 0 j (by decide), h 1 j (by decide), h 2 j (by decide), h 3 j (by decide)]
theorem yb_lyR {F G9 : Nat → Nat → Int} (h : ∀ c i : Nat, c < 4 → F c i = G9 c i) (y su : Int) (n : Nat) : ∀ t, lyR F y su n t = lyR G9 y su n t
  | 0 => rfl
  | t + 1 => by
    rw [lyR_s, lyR_s, yb_lyR h y su n t, yb_lyJ h]
/-- two states that differ in services alone -/
def yb_E (σ σ' : SG) : Prop := ∀ c i k : Nat, c < 40 → c ≠ 3 → σ' c i k = σ c i k
theorem yb_adSE (σ : SG) (t u y p : Int) : yb_E σ (adS σ t u y p) := by
  intro c i k h1 h2
  unfold adS
  rw [sup_n _ _ (by omega), sup_n _ _ (by omega), sup_n _ _ (by omega), sup_n _ _ (by omega), sup_n _ _ (by omega)]
end Y6
section Y7
variable {σ σ' : SG}
theorem yb_Elay (h : yb_E σ σ') (y : Int) : layZ σ' y = layZ σ y := by
  unfold layZ
  rw [h 4 0 0 (by decide) (by decide), h 2 0 0 (by decide) (by decide)]
  exact yb_lyR (fun c i hc => h (30 + c) i 0 (by omega) (by omega)) y _ _ 9
theorem yb_Eth (h : yb_E σ σ') (y : Int) (p : Nat) : thZ σ' y p = thZ σ y p := by
  unfold thZ keptZ
  rw [yb_Elay h]
  rw [h 35 _ _ (by decide) (by decide), h 35 _ _ (by decide) (by decide)]
theorem yb_Efit (h : yb_E σ σ') (t u : Nat) : fitZ σ' t u = fitZ σ t u := by
  have h24 := h 24 u 0 (by decide) (by decide)
  have h13 := h 13 t 0 (by decide) (by decide)
  have h14 : ∀ k, σ' 14 t k = σ 14 t k := fun k => h 14 t k (by decide) (by decide)
  have h25 : ∀ k, σ' 25 u k = σ 25 u k := fun k => h 25 u k (by decide) (by decide)
  unfold fitZ
  simp only [h24, h13, h14, h25]
theorem yb_EclK (h : yb_E σ σ') (t u : Nat) : ∀ k, clK σ' t u k = clK σ t u k
  | 0 => rfl
  | k + 1 => by
    unfold clK popX
    rw [yb_EclK h t u k, h 15 t k (by decide) (by decide), h 24 u 0 (by decide) (by decide), h 26 u _ (by decide) (by decide)]
theorem yb_Ecl (h : yb_E σ σ') (t u : Nat) : clZ σ' t u = clZ σ t u := by
  unfold clZ
  rw [yb_EclK h, h 13 t 0 (by decide) (by decide)]
theorem yb_EbstK (h : yb_E σ σ') (t : Nat) (of y : Int) : ∀ n, bstK σ' t of y n = bstK σ t of y n
  | 0 => rfl
  | n + 1 => by
    unfold bstK
    have h1 := h 23 n 0 (by decide) (by decide)
    have h2 := h 20 n 0 (by decide) (by decide)
    simp only [yb_EbstK h t of y n, yb_Efit h, yb_Ecl h, freeU, h1, h2]
theorem yb_Ebst (h : yb_E σ σ') (t : Nat) (of y : Int) : bstZ σ' t of y = bstZ σ t of y := by
  unfold bstZ
  rw [yb_EbstK h, h 1 0 0 (by decide) (by decide)]
end Y7
/-- a service that is held -/
theorem yb_sing {σ : SG} (hV : SV σ) {y m d : Int} (hd : dayOK y m d) (h : thZ σ y (placeZ y m d).toNat ≠ -100) : (∀ c, ya_act σ 23 y m d c = (-7000003, σ)) ∨ ∃ (g : Int) (σ' : SG), (∀ c, ya_act σ 23 y m d c = (g, σ')) ∧ inN σ 0 g ∧ σ' 0 0 0 = σ 0 0 0 ∧ σ' 1 0 0 = σ 1 0 0 ∧ σ' 2 0 0 = σ 2 0 0 ∧ σ' 3 0 0 = σ 3 0 0 + 1 ∧ oc_service σ' (σ 3 0 0) 0 = (0, g, σ') ∧ oc_service σ' (σ 3 0 0) 3 = (0, 100 * m + d, σ') ∧ oc_why σ' g y m d = (0, 4, σ') := by
  by_cases q : σ 3 0 0 = 60 ∨ ¬ latrZ σ (dnumZ y (placeZ y m d)) ∨ thZ σ y (placeZ y m d).toNat = -100 ∨ hymZ σ (thZ σ y (placeZ y m d).toNat) y (dnumZ y (placeZ y m d)) = -100
  · refine Or.inl (fun c => (ya_act23 σ y m d c).trans ?_)
    unfold oc_sing
    rw [if_neg (not_not_intro hd), if_pos q]
    rfl
  refine Or.inr ?_
  have hn := hV.n
  unfold SVn at hn
  have hn3 := hn.2.2.2.1
  generalize hth : thZ σ y (placeZ y m d).toNat = th at *
  have q4 : hymZ σ th y (dnumZ y (placeZ y m d)) ≠ -100 := fun z => q (Or.inr (Or.inr (Or.inr z)))
  obtain ⟨g, hg⟩ : ∃ g, hymZ σ th y (dnumZ y (placeZ y m d)) = g := ⟨_, rfl⟩
  have hr := (hym_r σ th y (dnumZ y (placeZ y m d)) (σ 0 0 0).toNat).resolve_left q4
  have hr0 : hymK σ th y (dnumZ y (placeZ y m d)) (σ 0 0 0).toNat = g := hg
  rw [hr0] at hr
  obtain ⟨g1, g2, g3⟩ := hr
  obtain ⟨u, hu⟩ : ∃ u, bstZ σ g.toNat 1 y = u := ⟨_, rfl⟩
  have hc := cal_d hd.2.1 hd.2.2
  have hct := yb_adS σ g u y (placeZ y m d)
  have hE := yb_adSE σ g u y (placeZ y m d)
  have i0 : (0 : Int) ≤ σ 3 0 0 ∧ σ 3 0 0 < adS σ g u y (placeZ y m d) 3 0 0 := by rw [hct.2.2.2]; omega
  have k40 : adS σ g u y (placeZ y m d) 40 (σ 3 0 0).toNat 0 = g := by simp [adS, sup]
  have k42 : adS σ g u y (placeZ y m d) 42 (σ 3 0 0).toNat 0 = y := by simp [adS, sup]
  have k43 : adS σ g u y (placeZ y m d) 43 (σ 3 0 0).toNat 0 = placeZ y m d := by simp [adS, sup]
  refine ⟨g, adS σ g u y (placeZ y m d), fun c => (ya_act23 σ y m d c).trans ?_, ⟨g1, by omega⟩, hct.1, hct.2.1, hct.2.2.1, hct.2.2.2, ?_, ?_, ?_⟩
  · unfold oc_sing
    rw [if_neg (not_not_intro hd), hth, if_neg q, hg, hu]
    rfl
  · unfold oc_service
    rw [if_neg (not_not_intro i0), if_neg (not_not_intro ⟨by decide, by decide⟩)]
    unfold svcZ
    rw [if_pos rfl, k40]
  · unfold oc_service
    rw [if_neg (not_not_intro i0), if_neg (not_not_intro ⟨by decide, by decide⟩)]
    unfold svcZ
    rw [if_neg (by decide), if_neg (by decide), if_neg (by decide), if_pos rfl, k42, k43, hc.1]
  · unfold oc_why
    have i1 : inN (adS σ g u y (placeZ y m d)) 0 g := ⟨g1, by rw [hct.1]; omega⟩
    rw [if_neg (not_not_intro i1), if_neg (not_not_intro hd), yb_Eth hE, hth, if_neg h]
    refine Prod.ext rfl (Prod.ext ?_ rfl)
    show reaZ (adS σ g u y (placeZ y m d)) g.toNat th y (dnumZ y (placeZ y m d)) = 4
    have e11 := hE 11 g.toNat 0 (by decide) (by decide)
    have e12 := hE 12 g.toNat 0 (by decide) (by decide)
    have e10 := hE 10 g.toNat 0 (by decide) (by decide)
    have hlat : latZ (adS σ g u y (placeZ y m d)) g.toNat (dnumZ y (placeZ y m d)) := fun z => z (σ 3 0 0).toNat (by rw [hct.2.2.2]; omega) ⟨by rw [k40]; omega, by rw [k42, k43]; omega, by rw [k42, k43]; omega⟩
    unfold reaZ at g3 ⊢
    split at g3
    · omega
    · rename_i r1
      split at g3
      · omega
      · rename_i r2
        split at g3
        · omega
        · rename_i r3
          rw [if_neg (by rw [e11]; exact r1), if_neg (by unfold freeT at r2 ⊢; rw [e12, e10]; exact r2), if_neg (by rw [yb_Ebst hE]; exact r3), if_pos hlat]
