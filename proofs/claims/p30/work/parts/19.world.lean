/-! the system's world: each of its objects and rows, by a kind and a number; A: where; ow: whose -/
def VLD (σ : SG) (k i : Nat) : Prop := (2 ≤ k ∧ k ≤ 5 ∧ i = 0) ∨ (7 ≤ k ∧ k ≤ 11 ∧ (i : Int) < σ 0 0 0) ∨ (12 ≤ k ∧ k ≤ 16 ∧ (i : Int) < σ 1 0 0) ∨ (17 ≤ k ∧ k ≤ 19 ∧ (i : Int) < σ 2 0 0) ∨ (18 ≤ k ∧ k ≤ 19 ∧ i = 20) ∨ (k = 20 ∧ (i : Int) < σ 3 0 0)
def ia (f : Nat → Int) : (Nat → Int32) ⊕ ((Nat → Int64) ⊕ (Nat → Option Nat)) := .inl (fun k => iZ (f k))
def CELL (A : Nat → Nat → Nat) (σ : SG) (τ : Nat → Nat → Int) (k i : Nat) : hC := match k with
  | 2 => .inl (9, [.ref (A 0 0), .ref (A 0 1), .ref (A 0 2), .ref (A 0 3), .ref (A 18 20), .ref (A 3 0), .int (iZ (σ 4 0 0))])
  | 3 => .inl (8, [.ref (A 4 0), .ref (A 5 0), .int (iZ (τ 0 0)), .int (iZ (τ 1 0)), .int (iZ (τ 2 0))])
  | 4 => .inr (0, 366, ia (τ 3))
  | 5 => .inr (0, 20, ia (τ 4))
  | 7 => .inl (6, [.int (iZ (i : Int)), .int (iZ (σ 11 i 0)), .ref (A 8 i), .ref (A 9 i)])
  | 8 => .inl (3, [.int (iZ (σ 10 i 0)), .int (iZ (σ 12 i 0))])
  | 9 => .inl (4, [.ref (A 10 i), .ref (A 11 i), .int (iZ (σ 13 i 0))])
  | 10 => .inr (0, 8, ia (σ 14 i))
  | 11 => .inr (0, 8, ia (σ 15 i))
  | 12 => .inl (7, [.int (iZ (i : Int)), .int (iZ (σ 21 i 0)), .int (iZ (σ 22 i 0)), .ref (A 13 i), .ref (A 14 i)])
  | 13 => .inl (3, [.int (iZ (σ 20 i 0)), .int (iZ (σ 23 i 0))])
  | 14 => .inl (4, [.ref (A 15 i), .ref (A 16 i), .int (iZ (σ 24 i 0))])
  | 15 => .inr (0, 8, ia (σ 25 i))
  | 16 => .inr (0, 8, ia (σ 26 i))
  | 17 => .inl (1, [.int (iZ (σ 30 i 0)), .int (iZ (σ 31 i 0)), .int (iZ (σ 32 i 0)), .int (iZ (σ 33 i 0)), .ref (A 18 i)])
  | 18 => .inl (2, [.ref (A 19 i)])
  | 19 => .inr (0, 3, ia (σ 35 i))
  | _ => .inl (5, [.ref (A 7 (σ 40 i 0).toNat), .ref (A 12 (σ 41 i 0).toNat), .int (iZ (σ 42 i 0)), .int (iZ (dateZ (σ 42 i 0) (σ 43 i 0))), .int (iZ (dnumZ (σ 42 i 0) (σ 43 i 0)))])
def elk (j : Nat) : Nat := match j with
  | 0 => 7
  | 1 => 12
  | 2 => 17
  | _ => 20
def HX (aD h : Nat) (A : Nat → Nat → Nat) (ow : Nat → Nat × Nat) (σ : SG) (τ : Nat → Nat → Int) (M : hM) : Prop :=
  M aD = none ∧ A 2 0 = h ∧ (∀ k i, VLD σ k i → M (A k i) = some (CELL A σ τ k i) ∧ ow (A k i) = (k, i)) ∧
  ∀ j, j < 4 → LSt aD M (A 0 j) (A 1 j) (σ j 0 0).toNat (A (elk j)) ∧ ow (A 0 j) = (0, j) ∧ (A 1 j = aD ∨ ow (A 1 j) = (1, j))
section HXS
variable {aD h : Nat} {A : Nat → Nat → Nat} {ow : Nat → Nat × Nat} {σ : SG} {τ : Nat → Nat → Int} {M : hM}
theorem HX.ne (H : HX aD h A ow σ τ M) {k i k' i' : Nat} (h1 : VLD σ k i) (h2 : VLD σ k' i') (h3 : k ≠ k' ∨ i ≠ i') : A k i ≠ A k' i' := by
  intro e
  have e1 := (H.2.2.1 k i h1).2
  have e2 := (H.2.2.1 k' i' h2).2
  rw [e, e2] at e1
  rcases h3 with h3 | h3
  · exact h3 (congrArg Prod.fst e1).symm
  · exact h3 (congrArg Prod.snd e1).symm
theorem VLD.of {σ' : SG} (hct : ∀ j, j < 4 → σ' j 0 0 = σ j 0 0) {k i : Nat} (h1 : VLD σ' k i) : VLD σ k i := by
  have h0 := hct 0 (by decide)
  have h2 := hct 1 (by decide)
  have h3 := hct 2 (by decide)
  have h4 := hct 3 (by decide)
  unfold VLD at h1 ⊢
  omega
theorem VLD.k2 {k i : Nat} (h1 : VLD σ k i) : 2 ≤ k := by
  unfold VLD at h1
  omega
/-- some cells change, no new ones -/
theorem HX.upd (H : HX aD h A ow σ τ M) {σ' : SG} {τ' : Nat → Nat → Int} {M' : hM} (S : Nat → Nat → Prop) (hct : ∀ j, j < 4 → σ' j 0 0 = σ j 0 0) (hc : ∀ k i, VLD σ k i → ¬ S k i → CELL A σ' τ' k i = CELL A σ τ k i) (hM : ∀ q, (∀ k i, S k i → VLD σ k i → q ≠ A k i) → M' q = M q) (hn : ∀ k i, VLD σ k i → S k i → M' (A k i) = some (CELL A σ' τ' k i)) : HX aD h A ow σ' τ' M' := by
  obtain ⟨g1, g2, g3, g4⟩ := H
  have hD : M' aD = M aD := hM aD (fun k i hs hv e => by have := (g3 k i hv).1; rw [← e, g1] at this; cases this)
  refine ⟨hD.trans g1, g2, fun k i hv9 => ?_, fun j hj => ?_⟩
  · have hv := hv9.of hct
    refine ⟨?_, (g3 k i hv).2⟩
    by_cases hs : S k i
    · exact hn k i hv hs
    · rw [hM (A k i) (fun k' i' hs' hv' e => by
        have e1 := (g3 k i hv).2
        have e2 := (g3 k' i' hv').2
        rw [e, e2] at e1
        cases e1
        exact hs hs'), (g3 k i hv).1, hc k i hv hs]
  · obtain ⟨q1, q2, q3⟩ := g4 j hj
    refine ⟨?_, q2, q3⟩
    rw [hct j hj]
    refine q1.kept (hM _ (fun k i hs hv e => ?_)) ?_
    · have e2 := (g3 k i hv).2
      rw [← e, q2] at e2
      have := congrArg Prod.fst e2
      have := hv.k2
      simp at *
      omega
    · rcases q3 with q3 | q3
      · rw [q3]; exact hD
      · refine hM _ (fun k i hs hv e => ?_)
        have e2 := (g3 k i hv).2
        rw [← e, q3] at e2
        have := congrArg Prod.fst e2
        have := hv.k2
        simp at *
        omega
theorem HX.ob (H : HX aD h A ow σ τ M) : M h = some (.inl (9, [.ref (A 0 0), .ref (A 0 1), .ref (A 0 2), .ref (A 0 3), .ref (A 18 20), .ref (A 3 0), .int (iZ (σ 4 0 0))])) := by
  have h1 := (H.2.2.1 2 0 (Or.inl ⟨by decide, by decide, rfl⟩)).1
  rw [H.2.1] at h1
  exact h1
theorem HX.pl (H : HX aD h A ow σ τ M) : PLN M (A 3 0) (A 4 0) (A 5 0) (τ 0 0) (τ 1 0) (τ 2 0) (τ 3, τ 4) := ⟨(H.2.2.1 3 0 (Or.inl ⟨by decide, by decide, rfl⟩)).1, (H.2.2.1 4 0 (Or.inl ⟨by decide, by decide, rfl⟩)).1, (H.2.2.1 5 0 (Or.inl ⟨by decide, by decide, rfl⟩)).1⟩
theorem HX.p4 (H : HX aD h A ow σ τ M) : A 4 0 ≠ A 5 0 := H.ne (Or.inl ⟨by decide, by decide, rfl⟩) (Or.inl ⟨by decide, by decide, rfl⟩) (Or.inl (by decide))
theorem HX.v7 {k i : Nat} (h1 : 7 ≤ k ∧ k ≤ 11) (hi : (i : Int) < σ 0 0 0) : VLD σ k i := Or.inr (Or.inl ⟨h1.1, h1.2, hi⟩)
theorem HX.v12 {k i : Nat} (h1 : 12 ≤ k ∧ k ≤ 16) (hi : (i : Int) < σ 1 0 0) : VLD σ k i := Or.inr (Or.inr (Or.inl ⟨h1.1, h1.2, hi⟩))
theorem HX.v17 {k i : Nat} (h1 : 17 ≤ k ∧ k ≤ 19) (hi : (i : Int) < σ 2 0 0) : VLD σ k i := Or.inr (Or.inr (Or.inr (Or.inl ⟨h1.1, h1.2, hi⟩)))
theorem HX.v18 {k i : Nat} (h1 : 18 ≤ k ∧ k ≤ 19) (hi : (i : Int) < σ 2 0 0 ∨ i = 20) : VLD σ k i := by
  unfold VLD
  omega
theorem HX.v20 {i : Nat} (hi : (i : Int) < σ 3 0 0) : VLD σ 20 i := Or.inr (Or.inr (Or.inr (Or.inr (Or.inr ⟨rfl, hi⟩))))
theorem HX.tx (H : HX aD h A ow σ τ M) {i : Nat} (hi : (i : Int) < σ 0 0 0) : M (A 7 i) = some (.inl (6, [.int (iZ (i : Int)), .int (iZ (σ 11 i 0)), .ref (A 8 i), .ref (A 9 i)])) := (H.2.2.1 7 i (HX.v7 (by decide) hi)).1
theorem HX.tr (H : HX aD h A ow σ τ M) {i : Nat} (hi : (i : Int) < σ 0 0 0) : M (A 8 i) = some (.inl (3, [.int (iZ (σ 10 i 0)), .int (iZ (σ 12 i 0))])) := (H.2.2.1 8 i (HX.v7 (by decide) hi)).1
theorem HX.tw (H : HX aD h A ow σ τ M) {i : Nat} (hi : (i : Int) < σ 0 0 0) : RW M (A 9 i) (A 10 i) (A 11 i) (σ 13 i 0) (σ 14 i) (σ 15 i) := ⟨(H.2.2.1 9 i (HX.v7 (by decide) hi)).1, (H.2.2.1 10 i (HX.v7 (by decide) hi)).1, (H.2.2.1 11 i (HX.v7 (by decide) hi)).1⟩
theorem HX.ux (H : HX aD h A ow σ τ M) {i : Nat} (hi : (i : Int) < σ 1 0 0) : M (A 12 i) = some (.inl (7, [.int (iZ (i : Int)), .int (iZ (σ 21 i 0)), .int (iZ (σ 22 i 0)), .ref (A 13 i), .ref (A 14 i)])) := (H.2.2.1 12 i (HX.v12 (by decide) hi)).1
theorem HX.ur (H : HX aD h A ow σ τ M) {i : Nat} (hi : (i : Int) < σ 1 0 0) : M (A 13 i) = some (.inl (3, [.int (iZ (σ 20 i 0)), .int (iZ (σ 23 i 0))])) := (H.2.2.1 13 i (HX.v12 (by decide) hi)).1
theorem HX.uw (H : HX aD h A ow σ τ M) {i : Nat} (hi : (i : Int) < σ 1 0 0) : RW M (A 14 i) (A 15 i) (A 16 i) (σ 24 i 0) (σ 25 i) (σ 26 i) := ⟨(H.2.2.1 14 i (HX.v12 (by decide) hi)).1, (H.2.2.1 15 i (HX.v12 (by decide) hi)).1, (H.2.2.1 16 i (HX.v12 (by decide) hi)).1⟩
theorem HX.fx (H : HX aD h A ow σ τ M) {i : Nat} (hi : (i : Int) < σ 2 0 0) : M (A 17 i) = some (.inl (1, [.int (iZ (σ 30 i 0)), .int (iZ (σ 31 i 0)), .int (iZ (σ 32 i 0)), .int (iZ (σ 33 i 0)), .ref (A 18 i)])) := (H.2.2.1 17 i (HX.v17 (by decide) hi)).1
theorem HX.fr (H : HX aD h A ow σ τ M) {i : Nat} (hi : (i : Int) < σ 2 0 0 ∨ i = 20) : M (A 18 i) = some (.inl (2, [.ref (A 19 i)])) := (H.2.2.1 18 i (HX.v18 (by decide) hi)).1
theorem HX.fa (H : HX aD h A ow σ τ M) {i : Nat} (hi : (i : Int) < σ 2 0 0 ∨ i = 20) : M (A 19 i) = some (.inr (0, 3, .inl (fun k => iZ (σ 35 i k)))) := (H.2.2.1 19 i (HX.v18 (by decide) hi)).1
theorem HX.sx (H : HX aD h A ow σ τ M) {i : Nat} (hi : (i : Int) < σ 3 0 0) : M (A 20 i) = some (.inl (5, [.ref (A 7 (σ 40 i 0).toNat), .ref (A 12 (σ 41 i 0).toNat), .int (iZ (σ 42 i 0)), .int (iZ (dateZ (σ 42 i 0) (σ 43 i 0))), .int (iZ (dnumZ (σ 42 i 0) (σ 43 i 0)))])) := (H.2.2.1 20 i (HX.v20 hi)).1
theorem HX.l0 (H : HX aD h A ow σ τ M) {n : Nat} (e : σ 0 0 0 = (n : Int)) : LSt aD M (A 0 0) (A 1 0) n (A 7) := by
  have h1 := (H.2.2.2 0 (by decide)).1
  rw [e, Int.toNat_natCast] at h1
  exact h1
theorem HX.l1 (H : HX aD h A ow σ τ M) {n : Nat} (e : σ 1 0 0 = (n : Int)) : LSt aD M (A 0 1) (A 1 1) n (A 12) := by
  have h1 := (H.2.2.2 1 (by decide)).1
  rw [e, Int.toNat_natCast] at h1
  exact h1
theorem HX.l2 (H : HX aD h A ow σ τ M) {n : Nat} (e : σ 2 0 0 = (n : Int)) : LSt aD M (A 0 2) (A 1 2) n (A 17) := by
  have h1 := (H.2.2.2 2 (by decide)).1
  rw [e, Int.toNat_natCast] at h1
  exact h1
theorem HX.l3 (H : HX aD h A ow σ τ M) {n : Nat} (e : σ 3 0 0 = (n : Int)) : LSt aD M (A 0 3) (A 1 3) n (A 20) := by
  have h1 := (H.2.2.2 3 (by decide)).1
  rw [e, Int.toNat_natCast] at h1
  exact h1
theorem LSt.o {a ea n : Nat} {f : Nat → Nat} (h : LSt aD M a ea n f) : ∃ mod : Int, M a = some (.inl (0, [.int (iZ mod), .ref ea, .int (iZ (n : Int))])) := by
  obtain ⟨mod, h1, -⟩ := h
  exact ⟨mod, h1⟩
end HXS
abbrev dayOK (y m d : Int) : Prop := (1600 ≤ y ∧ y ≤ 2399) ∧ (1 ≤ m ∧ m ≤ 12) ∧ 1 ≤ d ∧ d ≤ mlenZ y m
abbrev tIAE : String := "java/lang/IllegalArgumentException"
abbrev tISE : String := "java/lang/IllegalStateException"
abbrev tIOB : String := "java/lang/IndexOutOfBoundsException"
