/-! what is added -/
theorem Cok.aD {X : hX} {d : hD} (hX : Cok X d) : X.2.2.2.2.2.2.2.2.2 < X.2.2.2.2.2.2.2.1 := by
  obtain ⟨⟨p, l, e, R, s, m, args, below⟩, meth, c, A, Q, g⟩ := X
  obtain ⟨hx, hb, hml, hown, hts, hKS, hAz, hAn, hst9, hlk, hrt, hnm, hR, hex⟩ := hX
  obtain ⟨h1, h2, h3, ⟨h4, h5, h6⟩, ⟨h7, h8, h9⟩, h10⟩ := hKS
  exact h9
def GK (σ σ' : SG) : Prop := σ' 4 0 0 = σ 4 0 0 ∧ (∀ c i : Nat, 10 ≤ c → c < 16 → (i : Int) < σ 0 0 0 → σ' c i = σ c i) ∧ (∀ c i : Nat, 20 ≤ c → c < 27 → (i : Int) < σ 1 0 0 → σ' c i = σ c i) ∧ (∀ c i : Nat, 30 ≤ c → c < 34 → (i : Int) < σ 2 0 0 → σ' c i = σ c i) ∧ σ' 35 = σ 35 ∧ (∀ c i : Nat, 40 ≤ c → c < 44 → (i : Int) < σ 3 0 0 → σ' c i = σ c i)
theorem VLD.el {σ : SG} {j k : Nat} (hj : j < 4) (hk : (k : Int) < σ j 0 0) : VLD σ (elk j) k := by
  rcases (show j = 0 ∨ j = 1 ∨ j = 2 ∨ j = 3 by omega) with rfl | rfl | rfl | rfl
  · exact HX.v7 (by decide) hk
  · exact HX.v12 (by decide) hk
  · exact HX.v17 (by decide) hk
  · exact HX.v20 hk

theorem CELL.keep {A A' : Nat → Nat → Nat} {σ σ' : SG} {τ : Nat → Nat → Int} (hV : SV σ) (hA0 : ∀ i, A' 0 i = A 0 i) (hA : ∀ k i, VLD σ k i → A' k i = A k i) (g : GK σ σ') {k i : Nat} (hv : VLD σ k i) : CELL A' σ' τ k i = CELL A σ τ k i := by
  obtain ⟨g4, gT, gU, gF, g35, gS⟩ := g
  rcases (show k = 2 ∨ k = 3 ∨ k = 4 ∨ k = 5 ∨ k = 7 ∨ k = 8 ∨ k = 9 ∨ k = 10 ∨ k = 11 ∨ k = 12 ∨ k = 13 ∨ k = 14 ∨ k = 15 ∨ k = 16 ∨ k = 17 ∨ k = 18 ∨ k = 19 ∨ k = 20 by unfold VLD at hv; omega) with rfl | rfl | rfl | rfl | rfl | rfl | rfl | rfl | rfl | rfl | rfl | rfl | rfl | rfl | rfl | rfl | rfl | rfl
  · unfold CELL
    obtain rfl : i = 0 := by unfold VLD at hv; omega
    simp only [hA0 0, hA0 1, hA0 2, hA0 3, hA 18 20 (HX.v18 (by decide) (Or.inr rfl)), hA 3 0 (Or.inl ⟨by decide, by decide, rfl⟩), g4]
  · unfold CELL
    simp only [hA 4 0 (Or.inl ⟨by decide, by decide, rfl⟩), hA 5 0 (Or.inl ⟨by decide, by decide, rfl⟩)]
  · rfl
  · rfl
  · unfold CELL
    have hi : (i : Int) < σ 0 0 0 := by unfold VLD at hv; omega
    simp only [gT 11 i (by decide) (by decide) hi, hA 8 i (HX.v7 (by decide) hi), hA 9 i (HX.v7 (by decide) hi)]
  · unfold CELL
    have hi : (i : Int) < σ 0 0 0 := by unfold VLD at hv; omega
    simp only [gT 10 i (by decide) (by decide) hi, gT 12 i (by decide) (by decide) hi]
  · unfold CELL
    have hi : (i : Int) < σ 0 0 0 := by unfold VLD at hv; omega
    simp only [gT 13 i (by decide) (by decide) hi, hA 10 i (HX.v7 (by decide) hi), hA 11 i (HX.v7 (by decide) hi)]
  · unfold CELL
    have hi : (i : Int) < σ 0 0 0 := by unfold VLD at hv; omega
    simp only [gT 14 i (by decide) (by decide) hi]
  · unfold CELL
    have hi : (i : Int) < σ 0 0 0 := by unfold VLD at hv; omega
    simp only [gT 15 i (by decide) (by decide) hi]
  · unfold CELL
    have hi : (i : Int) < σ 1 0 0 := by unfold VLD at hv; omega
    simp only [gU 21 i (by decide) (by decide) hi, gU 22 i (by decide) (by decide) hi, hA 13 i (HX.v12 (by decide) hi), hA 14 i (HX.v12 (by decide) hi)]
  · unfold CELL
    have hi : (i : Int) < σ 1 0 0 := by unfold VLD at hv; omega
    simp only [gU 20 i (by decide) (by decide) hi, gU 23 i (by decide) (by decide) hi]
  · unfold CELL
    have hi : (i : Int) < σ 1 0 0 := by unfold VLD at hv; omega
    simp only [gU 24 i (by decide) (by decide) hi, hA 15 i (HX.v12 (by decide) hi), hA 16 i (HX.v12 (by decide) hi)]
  · unfold CELL
    have hi : (i : Int) < σ 1 0 0 := by unfold VLD at hv; omega
    simp only [gU 25 i (by decide) (by decide) hi]
  · unfold CELL
    have hi : (i : Int) < σ 1 0 0 := by unfold VLD at hv; omega
    simp only [gU 26 i (by decide) (by decide) hi]
  · unfold CELL
    have hi : (i : Int) < σ 2 0 0 := by unfold VLD at hv; omega
    simp only [gF 30 i (by decide) (by decide) hi, gF 31 i (by decide) (by decide) hi, gF 32 i (by decide) (by decide) hi, gF 33 i (by decide) (by decide) hi, hA 18 i (HX.v17 (by decide) hi)]
  · unfold CELL
    simp only [hA 19 i (HX.v18 (by decide) (by unfold VLD at hv; omega))]
  · unfold CELL
    simp only [g35]
  · unfold CELL
    have hi : (i : Int) < σ 3 0 0 := by unfold VLD at hv; omega
    have hsi := hV.s i hi
    simp only [gS 40 i (by decide) (by decide) hi, gS 41 i (by decide) (by decide) hi, gS 42 i (by decide) (by decide) hi, gS 43 i (by decide) (by decide) hi, hA 7 (σ 40 i 0).toNat (HX.v7 (by decide) (by omega)), hA 12 (σ 41 i 0).toNat (HX.v12 (by decide) (by omega))]

theorem HX.low {aD h : Nat} {A : Nat → Nat → Nat} {ow : Nat → Nat × Nat} {σ : SG} {τ : Nat → Nat → Int} {M M' : hM} {sz : Nat} (H : HX aD h A ow σ τ M) (hd : ∀ q x, M q = some x → q < sz) (haD : aD < sz) (hk : ∀ q, q < sz → M' q = M q) : HX aD h A ow σ τ M' := by
  obtain ⟨g1, g2, g3, g4⟩ := H
  refine ⟨(hk _ haD).trans g1, g2, fun k i hv => ⟨(hk _ (hd _ _ (g3 k i hv).1)).trans (g3 k i hv).1, (g3 k i hv).2⟩, fun j hj => ⟨?_, (g4 j hj).2⟩⟩
  have hl := (g4 j hj).1
  obtain ⟨mod, h1, h2⟩ := hl
  refine (g4 j hj).1.kept (hk _ (hd _ _ h1)) (hk _ ?_)
  rcases h2 with h2 | ⟨len, f', h2, h3⟩
  · rw [h2.2]; exact haD
  · exact hd _ _ h2
theorem HX.bnd {aD h : Nat} {A : Nat → Nat → Nat} {ow : Nat → Nat × Nat} {σ : SG} {τ : Nat → Nat → Int} {M : hM} {sz : Nat} (H : HX aD h A ow σ τ M) (hd : ∀ q x, M q = some x → q < sz) (haD : aD < sz) : (∀ k i, VLD σ k i → A k i < sz) ∧ ∀ j, j < 4 → A 0 j < sz ∧ A 1 j < sz := by
  obtain ⟨g1, g2, g3, g4⟩ := H
  refine ⟨fun k i hv => hd _ _ (g3 k i hv).1, fun j hj => ?_⟩
  obtain ⟨mod, h1, h2⟩ := (g4 j hj).1
  refine ⟨hd _ _ h1, ?_⟩
  rcases h2 with h2 | ⟨len, f', h2, h3⟩
  · rw [h2.2]; exact haD
  · exact hd _ _ h2
def exA (A : Nat → Nat → Nat) (na : Nat → Nat) (ea' j lo hi n : Nat) : Nat → Nat → Nat := fun k i => if k = 1 ∧ i = j then ea' else if (lo ≤ k ∧ k ≤ hi) ∧ i = n then na k else A k i
theorem exA_o {A : Nat → Nat → Nat} {na : Nat → Nat} {ea' j lo hi n k i : Nat} (h1 : ¬ (k = 1 ∧ i = j)) (h2 : ¬ ((lo ≤ k ∧ k ≤ hi) ∧ i = n)) : exA A na ea' j lo hi n k i = A k i := by
  unfold exA
  rw [if_neg h1, if_neg h2]
theorem exA_n {A : Nat → Nat → Nat} {na : Nat → Nat} {ea' j lo hi n k : Nat} (h1 : k ≠ 1) (h2 : lo ≤ k ∧ k ≤ hi) : exA A na ea' j lo hi n k n = na k := by
  unfold exA
  rw [if_neg (fun q => h1 q.1), if_pos ⟨h2, rfl⟩]
theorem HX.ext {aD h : Nat} {A : Nat → Nat → Nat} {ow : Nat → Nat × Nat} {σ : SG} {τ : Nat → Nat → Int} {M : hM} (H : HX aD h A ow σ τ M) (hV : SV σ) {σ' : SG} {M' : hM} {sz ea' n : Nat} (j lo hi : Nat) (na kf : Nat → Nat) (hj : j < 4) (hb : (∀ k i, VLD σ k i → A k i < sz) ∧ ∀ j, j < 4 → A 0 j < sz ∧ A 1 j < sz) (haD : aD < sz) (hlo : 7 ≤ lo) (h18 : ¬ (18 ≤ hi ∧ n = 20 ∧ lo ≤ 19)) (hn : σ j 0 0 = (n : Int)) (hcnt : σ' j 0 0 = (n : Int) + 1) (hct : ∀ i, i < 4 → i ≠ j → σ' i 0 0 = σ i 0 0)
    (hVs : ∀ k i, VLD σ' k i → VLD σ k i ∨ ((lo ≤ k ∧ k ≤ hi) ∧ i = n)) (hVn : ∀ k, lo ≤ k → k ≤ hi → ¬ VLD σ k n) (hkf : ∀ k, lo ≤ k → k ≤ hi → kf (na k) = k ∧ sz ≤ na k ∧ na k ≠ ea') (hea : ea' = A 1 j ∨ sz ≤ ea') (hfr : ∀ q, q ≠ A 0 j → q ≠ A 1 j → q < sz → M' q = M q) (hdm : ∀ q x, M' q = some x → (∃ y, M q = some y) ∨ sz ≤ q) (hel : lo ≤ elk j ∧ elk j ≤ hi) (hL : LSt aD M' (A 0 j) ea' (n + 1) (fun k => if k = n then na (elk j) else A (elk j) k)) (hnew : ∀ k, lo ≤ k → k ≤ hi → M' (na k) = some (CELL (exA A na ea' j lo hi n) σ' τ k n)) (hg : GK σ σ') : ∃ ow', HX aD h (exA A na ea' j lo hi n) ow' σ' τ M' := by
  obtain ⟨g1, g2, g3, g4⟩ := H
  have hA0 : ∀ i, exA A na ea' j lo hi n 0 i = A 0 i := fun i => exA_o (by omega) (by omega)
  have hAo : ∀ k i, VLD σ k i → exA A na ea' j lo hi n k i = A k i := fun k i hv => by
    refine exA_o (fun q => by have := hv.k2; omega) (fun q => ?_)
    refine hVn k q.1.1 q.1.2 ?_
    rw [← q.2]
    exact hv
  have haN : M' aD = none := by
    cases e : M' aD with
    | none => rfl
    | some x =>
      rcases hdm _ _ e with ⟨y, hy⟩ | h9
      · rw [g1] at hy; cases hy
      · omega
  have hcl : ∀ k i, VLD σ k i → A k i ≠ A 0 j ∧ A k i ≠ A 1 j := fun k i hv => by
    have h2 := hv.k2
    refine ⟨fun e => ?_, fun e => ?_⟩
    · have e1 := (g3 k i hv).2
      rw [e, (g4 j hj).2.1] at e1
      have := congrArg Prod.fst e1
      simp at this
      omega
    · rcases (g4 j hj).2.2 with e2 | e2
      · have e1 := (g3 k i hv).1
        rw [e, e2, g1] at e1
        cases e1
      · have e1 := (g3 k i hv).2
        rw [e, e2] at e1
        have := congrArg Prod.fst e1
        simp at this
        omega
  refine ⟨fun q => if q < sz then ow q else if q = ea' then (1, j) else (kf q, n), haN, (exA_o (by omega) (by omega)).trans g2, fun k i hv => ?_, fun i hi4 => ?_⟩
  · rcases hVs k i hv with hv9 | ⟨hk, rfl⟩
    · rw [hAo k i hv9]
      have hlt := hb.1 k i hv9
      refine ⟨?_, ?_⟩
      · rw [hfr _ (hcl k i hv9).1 (hcl k i hv9).2 hlt, (g3 k i hv9).1, CELL.keep hV hA0 hAo hg hv9]
      · show (if A k i < sz then ow (A k i) else _) = _
        rw [if_pos hlt]
        exact (g3 k i hv9).2
    · obtain ⟨f1, f2, f3⟩ := hkf k hk.1 hk.2
      refine ⟨?_, ?_⟩
      · rw [show exA A na ea' j lo hi i k i = na k from exA_n (by omega) hk]
        exact hnew k hk.1 hk.2
      · rw [show exA A na ea' j lo hi i k i = na k from exA_n (by omega) hk]
        show (if na k < sz then ow (na k) else if na k = ea' then (1, j) else (kf (na k), i)) = _
        rw [if_neg (by omega), if_neg f3, f1]
  · have hq := g4 i hi4
    have hlt := hb.2 i hi4
    by_cases e : i = j
    · subst e
      rw [hA0, hcnt, show ((n : Int) + 1).toNat = n + 1 by omega]
      have e1 : exA A na ea' i lo hi n 1 i = ea' := if_pos ⟨rfl, rfl⟩
      rw [e1]
      refine ⟨hL.congr (fun k hk => ?_), ?_, ?_⟩
      · by_cases e2 : k = n
        · rw [if_pos e2, e2]; exact (exA_n (by omega) hel).symm
        · rw [if_neg e2]; exact (exA_o (by omega) (fun q => e2 q.2)).symm
      · show (if A 0 i < sz then ow (A 0 i) else _) = _
        rw [if_pos hlt.1]
        exact hq.2.1
      · by_cases e2 : ea' < sz
        · have e3 : ea' = A 1 i := hea.resolve_right (by omega)
          rcases hq.2.2 with e4 | e4
          · exact Or.inl (e3.trans e4)
          · refine Or.inr ?_
            show (if ea' < sz then ow ea' else _) = _
            rw [if_pos e2, e3]
            exact e4
        · refine Or.inr ?_
          show (if ea' < sz then ow ea' else if ea' = ea' then (1, i) else _) = _
          rw [if_neg e2, if_pos rfl]
    · rw [hA0, show exA A na ea' j lo hi n 1 i = A 1 i from exA_o (fun q => e q.2) (by omega), hct i hi4 e]
      have hne0 : A 0 i ≠ A 0 j := fun e1 => by
        have e2 := hq.2.1
        rw [e1, (g4 j hj).2.1] at e2
        exact e (congrArg Prod.snd e2).symm
      have hne1 : A 0 i ≠ A 1 j := fun e1 => by
        rcases (g4 j hj).2.2 with e3 | e3
        · obtain ⟨mod, h1, -⟩ := hq.1
          rw [e1, e3, g1] at h1
          cases h1
        · have e2 := hq.2.1
          rw [e1, e3] at e2
          have := congrArg Prod.fst e2
          simp at this
      refine ⟨(hq.1.kept (hfr _ hne0 hne1 hlt.1) ?_).congr (fun k hk => (hAo _ _ (VLD.el hi4 (by omega))).symm), ?_, ?_⟩
      · by_cases e1 : A 1 i = aD
        · rw [e1, haN, g1]
        · have e2 := hq.2.2.resolve_left e1
          refine hfr _ (fun e3 => ?_) (fun e3 => ?_) hlt.2
          · rw [e3, (g4 j hj).2.1] at e2
            have := congrArg Prod.fst e2
            simp at this
          · rcases (g4 j hj).2.2 with e4 | e4
            · exact e1 (e3.trans e4)
            · rw [e3, e4] at e2
              exact e (congrArg Prod.snd e2).symm
      · show (if A 0 i < sz then ow (A 0 i) else _) = _
        rw [if_pos hlt.1]
        exact hq.2.1
      · rcases hq.2.2 with e1 | e1
        · exact Or.inl e1
        · refine Or.inr ?_
          show (if A 1 i < sz then ow (A 1 i) else _) = _
          rw [if_pos hlt.2]
          exact e1
