/-! what each call answers, and what it leaves -/
abbrev OC : Type := Int × Int × SG
def res9 (E : Int → String) (o : OC) : Option Value ⊕ String := if o.1 = 0 then .inl (some (.int (iZ o.2.1))) else .inr (E o.1)
def E3 (a b c : String) : Int → String := fun k => if k = 1 then a else if k = 2 then b else c
def KO (aD h : Nat) (E : Int → String) (o : OC) (K : hK) : Prop := ∀ (A' : Nat → Nat → Nat) (ow' : Nat → Nat × Nat) (τ' : Nat → Nat → Int) (M' : hM) (s9 : Nat), HX aD h A' ow' o.2.2 τ' M' → SV o.2.2 → K (res9 E o) M' s9
theorem KX {aD h : Nat} {E : Int → String} {o : OC} {K : hK} (hK : KO aD h E o K) {c v : Int} {s : SG} (e : o = (c, v, s)) (hc : c ≠ 0) {S : String} (hE : E c = S) {A : Nat → Nat → Nat} {ow : Nat → Nat × Nat} {τ : Nat → Nat → Int} {M : hM} {s9 : Nat} (hH : HX aD h A ow s τ M) (hV : SV s) : K (.inr S) M s9 := by
  subst e
  have h1 := hK A ow τ M s9 hH hV
  unfold res9 at h1
  rw [if_neg hc] at h1
  rw [← hE]
  exact h1
theorem KV {aD h : Nat} {E : Int → String} {o : OC} {K : hK} (hK : KO aD h E o K) {v : Int} {s : SG} (e : o = (0, v, s)) {A : Nat → Nat → Nat} {ow : Nat → Nat × Nat} {τ : Nat → Nat → Int} {M : hM} {s9 : Nat} (hH : HX aD h A ow s τ M) (hV : SV s) : K (.inl (some (.int (iZ v)))) M s9 := by
  subst e
  exact hK A ow τ M s9 hH hV
def adT (σ : SG) (a b : Int) : SG := sup (sup (sup σ 10 (σ 0 0 0).toNat 0 a) 11 (σ 0 0 0).toNat 0 b) 0 0 0 (σ 0 0 0 + 1)
def adU (σ : SG) (a lo hi : Int) : SG := sup (sup (sup (sup σ 20 (σ 1 0 0).toNat 0 a) 21 (σ 1 0 0).toNat 0 lo) 22 (σ 1 0 0).toNat 0 hi) 1 0 0 (σ 1 0 0 + 1)
def adL (σ : SG) (c t : Nat) (m s : Int) : SG := sup (sup (sup σ (c + 1) t (σ c t 0).toNat m) (c + 2) t (σ c t 0).toNat s) c t 0 (σ c t 0 + 1)
def adF (σ : SG) (r po mo dy mv : Int) : SG := sup (sup (sup (sup (sup (sup σ 30 (σ 2 0 0).toNat 0 r) 31 (σ 2 0 0).toNat 0 po) 32 (σ 2 0 0).toNat 0 mo) 33 (σ 2 0 0).toNat 0 dy) 34 (σ 2 0 0).toNat 0 mv) 2 0 0 (σ 2 0 0 + 1)
def adS (σ : SG) (t u y p : Int) : SG := sup (sup (sup (sup (sup σ 40 (σ 3 0 0).toNat 0 t) 41 (σ 3 0 0).toNat 0 u) 42 (σ 3 0 0).toNat 0 y) 43 (σ 3 0 0).toNat 0 p) 3 0 0 (σ 3 0 0 + 1)
abbrev inN (σ : SG) (j : Nat) (i : Int) : Prop := 0 ≤ i ∧ i < σ j 0 0
def oc_text (σ : SG) (a b : Int) : OC := if ¬ ((1500 ≤ a ∧ a ≤ 2399) ∧ 0 ≤ b ∧ b ≤ 65535) then (1, 0, σ) else if σ 0 0 0 = 12 then (2, 0, σ) else (0, σ 0 0 0, adT σ a b)
def oc_row (j c : Nat) (σ : SG) (t m s : Int) : OC := if ¬ inN σ j t then (1, 0, σ) else if ¬ ((1 ≤ m ∧ m ≤ 12) ∧ 0 ≤ s ∧ s ≤ 2 ^ m.toNat - 1) then (2, 0, σ) else if σ c t.toNat 0 = 8 then (3, 0, σ) else (0, σ c t.toNat 0 + 1, adL σ c t.toNat m s)
def oc_tune (σ : SG) (a lo hi : Int) : OC := if ¬ ((1500 ≤ a ∧ a ≤ 2399) ∧ (0 ≤ lo ∧ lo ≤ 40) ∧ lo ≤ hi ∧ hi ≤ 40) then (1, 0, σ) else if σ 1 0 0 = 12 then (2, 0, σ) else (0, σ 1 0 0, adU σ a lo hi)
def oc_fits (σ : SG) (t u : Int) : OC := if ¬ (inN σ 0 t ∧ inN σ 1 u) then (1, 0, σ) else (0, fitZ σ t.toNat u.toNat, σ)
def oc_clashes (σ : SG) (t u : Int) : OC := if ¬ (inN σ 0 t ∧ inN σ 1 u) then (1, 0, σ) else if fitZ σ t.toNat u.toNat = 0 then (2, 0, σ) else (0, clZ σ t.toNat u.toNat, σ)
def oc_best (σ : SG) (t : Int) : OC := if ¬ inN σ 0 t then (1, 0, σ) else (0, bstZ σ t.toNat 0 0, σ)
def oc_alike (σ : SG) (u : Int) : OC := if ¬ inN σ 1 u then (1, 0, σ) else (0, alkK σ u.toNat (σ 1 0 0).toNat, σ)
def oc_metres (σ : SG) : OC := (0, metK σ (σ 1 0 0).toNat, σ)
def oc_allow (j c : Nat) (σ : SG) (t b : Int) : OC := if ¬ inN σ j t then (1, 0, σ) else (0, σ c t.toNat 0, sup σ c t.toNat 0 b)
def shfZ (σ : SG) (u : Nat) (lo hi : Int) : Int := if hi - σ 22 u 0 < lo - σ 21 u 0 then -100 else if 0 < lo - σ 21 u 0 then lo - σ 21 u 0 else if hi - σ 22 u 0 < 0 then hi - σ 22 u 0 else 0
def oc_shift (σ : SG) (u lo hi : Int) : OC := if ¬ inN σ 1 u then (1, 0, σ) else if ¬ ((0 ≤ lo ∧ lo ≤ 40) ∧ lo ≤ hi ∧ hi ≤ 40) then (2, 0, σ) else (0, shfZ σ u.toNat lo hi, σ)
def oc_easter (σ : SG) (y : Int) : OC := if ¬ (1600 ≤ y ∧ y ≤ 2399) then (1, 0, σ) else (0, eastMDZ y, σ)
def oc_weekday (σ : SG) (y m d : Int) : OC := if ¬ dayOK y m d then (1, 0, σ) else (0, wdayZ y (placeZ y m d), σ)
def oc_feast (σ : SG) (r po m d : Int) : OC := if ¬ ((1 ≤ r ∧ r ≤ 9) ∧ dayOK 2000 m d) then (1, 0, σ) else if σ 2 0 0 = 20 then (2, 0, σ) else (0, σ 2 0 0, adF σ r po m d 0)
def oc_moving (σ : SG) (r po d : Int) : OC := if ¬ ((1 ≤ r ∧ r ≤ 9) ∧ -60 ≤ d ∧ d ≤ 60) then (1, 0, σ) else if σ 2 0 0 = 20 then (2, 0, σ) else (0, σ 2 0 0, adF σ r po 0 d 1)
def oc_sundays (σ : SG) (r : Int) : OC := if ¬ (0 ≤ r ∧ r ≤ 9) then (1, 0, σ) else (0, σ 4 0 0, sup σ 4 0 0 r)
def rdI (f : Int) : Nat := if f = -2 then 20 else f.toNat
def oc_reading (σ : SG) (f c th : Int) : OC := if ¬ (f = -2 ∨ inN σ 2 f) then (1, 0, σ) else if ¬ ((0 ≤ c ∧ c ≤ 2) ∧ (th = -100 ∨ (0 ≤ th ∧ th ≤ 15))) then (2, 0, σ) else (0, σ 35 (rdI f) c.toNat, sup σ 35 (rdI f) c.toNat th)
def oc_kept (σ : SG) (y m d : Int) : OC := if ¬ dayOK y m d then (1, 0, σ) else (0, keptZ σ y (placeZ y m d).toNat, σ)
def whenZ (σ : SG) (y : Int) (f : Nat) : Int := if (layZ σ y).2 f = -100 then -100 else dateZ y ((layZ σ y).2 f)
def oc_when (σ : SG) (f y : Int) : OC := if ¬ inN σ 2 f then (1, 0, σ) else if ¬ (1600 ≤ y ∧ y ≤ 2399) then (2, 0, σ) else (0, whenZ σ y f.toNat, σ)
def oc_theme (σ : SG) (y m d : Int) : OC := if ¬ dayOK y m d then (1, 0, σ) else (0, thZ σ y (placeZ y m d).toNat, σ)
def oc_why (σ : SG) (t y m d : Int) : OC := if ¬ inN σ 0 t then (1, 0, σ) else if ¬ dayOK y m d then (2, 0, σ) else if thZ σ y (placeZ y m d).toNat = -100 then (3, 0, σ) else (0, reaZ σ t.toNat (thZ σ y (placeZ y m d).toNat) y (dnumZ y (placeZ y m d)), σ)
def oc_sing (σ : SG) (y m d : Int) : OC := if ¬ dayOK y m d then (1, 0, σ) else if σ 3 0 0 = 60 ∨ ¬ latrZ σ (dnumZ y (placeZ y m d)) ∨ thZ σ y (placeZ y m d).toNat = -100 ∨ hymZ σ (thZ σ y (placeZ y m d).toNat) y (dnumZ y (placeZ y m d)) = -100 then (2, 0, σ) else (0, hymZ σ (thZ σ y (placeZ y m d).toNat) y (dnumZ y (placeZ y m d)), adS σ (hymZ σ (thZ σ y (placeZ y m d).toNat) y (dnumZ y (placeZ y m d))) (bstZ σ (hymZ σ (thZ σ y (placeZ y m d).toNat) y (dnumZ y (placeZ y m d))).toNat 1 y) y (placeZ y m d))
def svcZ (σ : SG) (i : Nat) (w : Int) : Int := if w = 0 then σ 40 i 0 else if w = 1 then σ 41 i 0 else if w = 2 then σ 42 i 0 else if w = 3 then dateZ (σ 42 i 0) (σ 43 i 0) else if fitZ σ (σ 40 i 0).toNat (σ 41 i 0).toNat = 0 then -100 else clZ σ (σ 40 i 0).toNat (σ 41 i 0).toNat
def oc_service (σ : SG) (i w : Int) : OC := if ¬ inN σ 3 i then (1, 0, σ) else if ¬ (0 ≤ w ∧ w ≤ 4) then (2, 0, σ) else (0, svcZ σ i.toNat w, σ)
def oc_sung (σ : SG) (t : Int) : OC := if ¬ inN σ 0 t then (1, 0, σ) else (0, timZ σ t.toNat, σ)
theorem bst_any (σ : SG) (t : Nat) (y y2 : Int) : ∀ n, bstK σ t 0 y n = bstK σ t 0 y2 n
  | 0 => rfl
  | n + 1 => by
    unfold bstK
    rw [bst_any σ t y y2 n]
    simp
theorem sup_s (σ : SG) (c i k : Nat) (v : Int) : sup σ c i k v c i k = v := if_pos ⟨rfl, rfl, rfl⟩
theorem sup_n (σ : SG) {c i k c' i' k' : Nat} (v : Int) (h : ¬ (c' = c ∧ i' = i ∧ k' = k)) : sup σ c i k v c' i' k' = σ c' i' k' := if_neg h
