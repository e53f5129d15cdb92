/-! the calls that change a row -/
section CH
variable {aD h : Nat} {A : Nat → Nat → Nat} {ow : Nat → Nat × Nat} {σ : SG} {τ : Nat → Nat → Int} {M : hM}
theorem HX.sun (H : HX aD h A ow σ τ M) (r : Int) : HX aD h A ow (sup σ 4 0 0 r) τ (hup M h (.inl (9, [.ref (A 0 0), .ref (A 0 1), .ref (A 0 2), .ref (A 0 3), .ref (A 18 20), .ref (A 3 0), .int (iZ r)]))) := by
  have v2 : VLD σ 2 0 := Or.inl ⟨by decide, by decide, rfl⟩
  refine H.upd (fun k i => k = 2 ∧ i = 0) (fun j hj => by rw [sup_c _ _ (show j ≠ 4 by omega)]) (fun k i hv hs => ?_) (fun q hq => hup_n _ _ (by have := hq 2 0 ⟨rfl, rfl⟩ v2; rw [H.2.1] at this; exact this)) (fun k i hv hs => ?_)
  · unfold CELL
    split
    · exfalso; unfold VLD at hv; omega
    all_goals simp only [sup_c σ r (show 10 ≠ 4 by decide), sup_c σ r (show 11 ≠ 4 by decide), sup_c σ r (show 12 ≠ 4 by decide), sup_c σ r (show 13 ≠ 4 by decide), sup_c σ r (show 14 ≠ 4 by decide), sup_c σ r (show 15 ≠ 4 by decide), sup_c σ r (show 20 ≠ 4 by decide), sup_c σ r (show 21 ≠ 4 by decide), sup_c σ r (show 22 ≠ 4 by decide), sup_c σ r (show 23 ≠ 4 by decide), sup_c σ r (show 24 ≠ 4 by decide), sup_c σ r (show 25 ≠ 4 by decide), sup_c σ r (show 26 ≠ 4 by decide), sup_c σ r (show 30 ≠ 4 by decide), sup_c σ r (show 31 ≠ 4 by decide), sup_c σ r (show 32 ≠ 4 by decide), sup_c σ r (show 33 ≠ 4 by decide), sup_c σ r (show 35 ≠ 4 by decide), sup_c σ r (show 40 ≠ 4 by decide), sup_c σ r (show 41 ≠ 4 by decide), sup_c σ r (show 42 ≠ 4 by decide), sup_c σ r (show 43 ≠ 4 by decide)]
  · obtain ⟨rfl, rfl⟩ := hs
    rw [H.2.1]
    refine (hup_s _ _ _).trans ?_
    unfold CELL
    simp only [sup_s]

theorem HX.alT (H : HX aD h A ow σ τ M) {t : Nat} (v : Int) (hi : (t : Int) < σ 0 0 0) : HX aD h A ow (sup σ 12 t 0 v) τ (hup M (A 8 t) (.inl (3, [.int (iZ (σ 10 t 0)), .int (iZ v)]))) := by
  have v2 : VLD σ 8 t := HX.v7 (by decide) hi
  refine H.upd (fun k i => k = 8 ∧ i = t) (fun j hj => by rw [sup_c _ _ (show j ≠ 12 by omega)]) (fun k i hv hs => ?_) (fun q hq => hup_n _ _ (hq 8 t ⟨rfl, rfl⟩ v2)) (fun k i hv hs => ?_)
  · by_cases e : k = 8
    · subst e
      have e9 : i ≠ t := fun e9 => hs ⟨rfl, e9⟩
      unfold CELL
      simp only [sup_i σ v e9]
    · unfold CELL
      split
      all_goals first | exact absurd rfl e | simp only [sup_c σ v (show 4 ≠ 12 by decide), sup_c σ v (show 10 ≠ 12 by decide), sup_c σ v (show 11 ≠ 12 by decide), sup_c σ v (show 13 ≠ 12 by decide), sup_c σ v (show 14 ≠ 12 by decide), sup_c σ v (show 15 ≠ 12 by decide), sup_c σ v (show 20 ≠ 12 by decide), sup_c σ v (show 21 ≠ 12 by decide), sup_c σ v (show 22 ≠ 12 by decide), sup_c σ v (show 23 ≠ 12 by decide), sup_c σ v (show 24 ≠ 12 by decide), sup_c σ v (show 25 ≠ 12 by decide), sup_c σ v (show 26 ≠ 12 by decide), sup_c σ v (show 30 ≠ 12 by decide), sup_c σ v (show 31 ≠ 12 by decide), sup_c σ v (show 32 ≠ 12 by decide), sup_c σ v (show 33 ≠ 12 by decide), sup_c σ v (show 35 ≠ 12 by decide), sup_c σ v (show 40 ≠ 12 by decide), sup_c σ v (show 41 ≠ 12 by decide), sup_c σ v (show 42 ≠ 12 by decide), sup_c σ v (show 43 ≠ 12 by decide)]
  · obtain ⟨rfl, rfl⟩ := hs
    refine (hup_s _ _ _).trans ?_
    unfold CELL
    simp only [sup_s, sup_c σ v (show 10 ≠ 12 by decide)]

theorem HX.alU (H : HX aD h A ow σ τ M) {t : Nat} (v : Int) (hi : (t : Int) < σ 1 0 0) : HX aD h A ow (sup σ 23 t 0 v) τ (hup M (A 13 t) (.inl (3, [.int (iZ (σ 20 t 0)), .int (iZ v)]))) := by
  have v2 : VLD σ 13 t := HX.v12 (by decide) hi
  refine H.upd (fun k i => k = 13 ∧ i = t) (fun j hj => by rw [sup_c _ _ (show j ≠ 23 by omega)]) (fun k i hv hs => ?_) (fun q hq => hup_n _ _ (hq 13 t ⟨rfl, rfl⟩ v2)) (fun k i hv hs => ?_)
  · by_cases e : k = 13
    · subst e
      have e9 : i ≠ t := fun e9 => hs ⟨rfl, e9⟩
      unfold CELL
      simp only [sup_i σ v e9]
    · unfold CELL
      split
      all_goals first | exact absurd rfl e | simp only [sup_c σ v (show 4 ≠ 23 by decide), sup_c σ v (show 10 ≠ 23 by decide), sup_c σ v (show 11 ≠ 23 by decide), sup_c σ v (show 12 ≠ 23 by decide), sup_c σ v (show 13 ≠ 23 by decide), sup_c σ v (show 14 ≠ 23 by decide), sup_c σ v (show 15 ≠ 23 by decide), sup_c σ v (show 20 ≠ 23 by decide), sup_c σ v (show 21 ≠ 23 by decide), sup_c σ v (show 22 ≠ 23 by decide), sup_c σ v (show 24 ≠ 23 by decide), sup_c σ v (show 25 ≠ 23 by decide), sup_c σ v (show 26 ≠ 23 by decide), sup_c σ v (show 30 ≠ 23 by decide), sup_c σ v (show 31 ≠ 23 by decide), sup_c σ v (show 32 ≠ 23 by decide), sup_c σ v (show 33 ≠ 23 by decide), sup_c σ v (show 35 ≠ 23 by decide), sup_c σ v (show 40 ≠ 23 by decide), sup_c σ v (show 41 ≠ 23 by decide), sup_c σ v (show 42 ≠ 23 by decide), sup_c σ v (show 43 ≠ 23 by decide)]
  · obtain ⟨rfl, rfl⟩ := hs
    refine (hup_s _ _ _).trans ?_
    unfold CELL
    simp only [sup_s, sup_c σ v (show 20 ≠ 23 by decide)]

theorem HX.rd (H : HX aD h A ow σ τ M) {t : Nat} {c : Nat} (v : Int) (hi : (t : Int) < σ 2 0 0 ∨ t = 20) : HX aD h A ow (sup σ 35 t c v) τ (hup M (A 19 t) (.inr (0, 3, ia (iu (σ 35 t) c v)))) := by
  have v2 : VLD σ 19 t := HX.v18 (by decide) hi
  refine H.upd (fun k i => k = 19 ∧ i = t) (fun j hj => by rw [sup_c _ _ (show j ≠ 35 by omega)]) (fun k i hv hs => ?_) (fun q hq => hup_n _ _ (hq 19 t ⟨rfl, rfl⟩ v2)) (fun k i hv hs => ?_)
  · by_cases e : k = 19
    · subst e
      have e9 : i ≠ t := fun e9 => hs ⟨rfl, e9⟩
      unfold CELL
      simp only [sup_i σ v e9]
    · unfold CELL
      split
      all_goals first | exact absurd rfl e | simp only [sup_c σ v (show 4 ≠ 35 by decide), sup_c σ v (show 10 ≠ 35 by decide), sup_c σ v (show 11 ≠ 35 by decide), sup_c σ v (show 12 ≠ 35 by decide), sup_c σ v (show 13 ≠ 35 by decide), sup_c σ v (show 14 ≠ 35 by decide), sup_c σ v (show 15 ≠ 35 by decide), sup_c σ v (show 20 ≠ 35 by decide), sup_c σ v (show 21 ≠ 35 by decide), sup_c σ v (show 22 ≠ 35 by decide), sup_c σ v (show 23 ≠ 35 by decide), sup_c σ v (show 24 ≠ 35 by decide), sup_c σ v (show 25 ≠ 35 by decide), sup_c σ v (show 26 ≠ 35 by decide), sup_c σ v (show 30 ≠ 35 by decide), sup_c σ v (show 31 ≠ 35 by decide), sup_c σ v (show 32 ≠ 35 by decide), sup_c σ v (show 33 ≠ 35 by decide), sup_c σ v (show 40 ≠ 35 by decide), sup_c σ v (show 41 ≠ 35 by decide), sup_c σ v (show 42 ≠ 35 by decide), sup_c σ v (show 43 ≠ 35 by decide)]
  · obtain ⟨rfl, rfl⟩ := hs
    refine (hup_s _ _ _).trans ?_
    unfold CELL
    simp only [sup_iu]

theorem HX.liT (H : HX aD h A ow σ τ M) {t : Nat} {m s : Int} (hi : (t : Int) < σ 0 0 0) {M' : hM} (g1 : M' (A 9 t) = some (.inl (4, [.ref (A 10 t), .ref (A 11 t), .int (iZ (σ 13 t 0 + 1))]))) (g2 : M' (A 10 t) = some (.inr (0, 8, ia (iu (σ 14 t) (σ 13 t 0).toNat m)))) (g3 : M' (A 11 t) = some (.inr (0, 8, ia (iu (σ 15 t) (σ 13 t 0).toNat s)))) (hfr : ∀ q, q ≠ A 9 t → q ≠ A 10 t → q ≠ A 11 t → M' q = M q) : HX aD h A ow (adL σ 13 t m s) τ M' := by
  have v2 : ∀ k, 9 ≤ k → k ≤ 11 → VLD σ k t := fun k z1 z2 => HX.v7 ⟨by omega, by omega⟩ hi
  have q13 : adL σ 13 t m s 13 t 0 = σ 13 t 0 + 1 := sup_s _ _ _ _ _
  have q14 : adL σ 13 t m s 14 t = iu (σ 14 t) (σ 13 t 0).toNat m := by
    unfold adL
    rw [sup_c _ _ (by decide), sup_c _ _ (by decide), sup_iu]
  have q15 : adL σ 13 t m s 15 t = iu (σ 15 t) (σ 13 t 0).toNat s := by
    unfold adL
    rw [sup_c _ _ (by decide), sup_iu, sup_c _ _ (by decide)]
  have qi : ∀ c i, i ≠ t → adL σ 13 t m s c i = σ c i := fun c i g => by unfold adL; rw [sup_i _ _ g, sup_i _ _ g, sup_i _ _ g]
  have qc : ∀ c, c ≠ 13 → c ≠ 14 → c ≠ 15 → adL σ 13 t m s c = σ c := fun c g1 g2 g3 => by unfold adL; rw [sup_c _ _ g1, sup_c _ _ (show c ≠ 13 + 2 by omega), sup_c _ _ (show c ≠ 13 + 1 by omega)]
  refine H.upd (fun k i => (9 ≤ k ∧ k ≤ 11) ∧ i = t) (fun j hj => by rw [qc j (by omega) (by omega) (by omega)]) (fun k i hv hs => ?_) (fun q hq => hfr q (hq 9 t ⟨by decide, rfl⟩ (v2 9 (by decide) (by decide))) (hq 10 t ⟨by decide, rfl⟩ (v2 10 (by decide) (by decide))) (hq 11 t ⟨by decide, rfl⟩ (v2 11 (by decide) (by decide)))) (fun k i hv hs => ?_)
  · by_cases e : 9 ≤ k ∧ k ≤ 11
    · have e9 : i ≠ t := fun e9 => hs ⟨e, e9⟩
      rcases (show k = 9 ∨ k = 10 ∨ k = 11 by omega) with rfl | rfl | rfl
      all_goals (unfold CELL; simp only [qi _ i e9])
    · unfold CELL
      split
      all_goals first | (exfalso; exact e (by decide)) | simp only [qc 4 (by decide) (by decide) (by decide), qc 10 (by decide) (by decide) (by decide), qc 11 (by decide) (by decide) (by decide), qc 12 (by decide) (by decide) (by decide), qc 20 (by decide) (by decide) (by decide), qc 21 (by decide) (by decide) (by decide), qc 22 (by decide) (by decide) (by decide), qc 23 (by decide) (by decide) (by decide), qc 24 (by decide) (by decide) (by decide), qc 25 (by decide) (by decide) (by decide), qc 26 (by decide) (by decide) (by decide), qc 30 (by decide) (by decide) (by decide), qc 31 (by decide) (by decide) (by decide), qc 32 (by decide) (by decide) (by decide), qc 33 (by decide) (by decide) (by decide), qc 35 (by decide) (by decide) (by decide), qc 40 (by decide) (by decide) (by decide), qc 41 (by decide) (by decide) (by decide), qc 42 (by decide) (by decide) (by decide), qc 43 (by decide) (by decide) (by decide)]
  · obtain ⟨hs1, rfl⟩ := hs
    rcases (show k = 9 ∨ k = 10 ∨ k = 11 by omega) with rfl | rfl | rfl
    · refine g1.trans ?_
      unfold CELL
      simp only [q13]
    · refine g2.trans ?_
      unfold CELL
      simp only [q14]
    · refine g3.trans ?_
      unfold CELL
      simp only [q15]

theorem HX.liU (H : HX aD h A ow σ τ M) {t : Nat} {m s : Int} (hi : (t : Int) < σ 1 0 0) {M' : hM} (g1 : M' (A 14 t) = some (.inl (4, [.ref (A 15 t), .ref (A 16 t), .int (iZ (σ 24 t 0 + 1))]))) (g2 : M' (A 15 t) = some (.inr (0, 8, ia (iu (σ 25 t) (σ 24 t 0).toNat m)))) (g3 : M' (A 16 t) = some (.inr (0, 8, ia (iu (σ 26 t) (σ 24 t 0).toNat s)))) (hfr : ∀ q, q ≠ A 14 t → q ≠ A 15 t → q ≠ A 16 t → M' q = M q) : HX aD h A ow (adL σ 24 t m s) τ M' := by
  have v2 : ∀ k, 14 ≤ k → k ≤ 16 → VLD σ k t := fun k z1 z2 => HX.v12 ⟨by omega, by omega⟩ hi
  have q13 : adL σ 24 t m s 24 t 0 = σ 24 t 0 + 1 := sup_s _ _ _ _ _
  have q14 : adL σ 24 t m s 25 t = iu (σ 25 t) (σ 24 t 0).toNat m := by
    unfold adL
    rw [sup_c _ _ (by decide), sup_c _ _ (by decide), sup_iu]
  have q15 : adL σ 24 t m s 26 t = iu (σ 26 t) (σ 24 t 0).toNat s := by
    unfold adL
    rw [sup_c _ _ (by decide), sup_iu, sup_c _ _ (by decide)]
  have qi : ∀ c i, i ≠ t → adL σ 24 t m s c i = σ c i := fun c i g => by unfold adL; rw [sup_i _ _ g, sup_i _ _ g, sup_i _ _ g]
  have qc : ∀ c, c ≠ 24 → c ≠ 25 → c ≠ 26 → adL σ 24 t m s c = σ c := fun c g1 g2 g3 => by unfold adL; rw [sup_c _ _ g1, sup_c _ _ (show c ≠ 24 + 2 by omega), sup_c _ _ (show c ≠ 24 + 1 by omega)]
  refine H.upd (fun k i => (14 ≤ k ∧ k ≤ 16) ∧ i = t) (fun j hj => by rw [qc j (by omega) (by omega) (by omega)]) (fun k i hv hs => ?_) (fun q hq => hfr q (hq 14 t ⟨by decide, rfl⟩ (v2 14 (by decide) (by decide))) (hq 15 t ⟨by decide, rfl⟩ (v2 15 (by decide) (by decide))) (hq 16 t ⟨by decide, rfl⟩ (v2 16 (by decide) (by decide)))) (fun k i hv hs => ?_)
  · by_cases e : 14 ≤ k ∧ k ≤ 16
    · have e9 : i ≠ t := fun e9 => hs ⟨e, e9⟩
      rcases (show k = 14 ∨ k = 15 ∨ k = 16 by omega) with rfl | rfl | rfl
      all_goals (unfold CELL; simp only [qi _ i e9])
    · unfold CELL
      split
      all_goals first | (exfalso; exact e (by decide)) | simp only [qc 4 (by decide) (by decide) (by decide), qc 10 (by decide) (by decide) (by decide), qc 11 (by decide) (by decide) (by decide), qc 12 (by decide) (by decide) (by decide), qc 13 (by decide) (by decide) (by decide), qc 14 (by decide) (by decide) (by decide), qc 15 (by decide) (by decide) (by decide), qc 20 (by decide) (by decide) (by decide), qc 21 (by decide) (by decide) (by decide), qc 22 (by decide) (by decide) (by decide), qc 23 (by decide) (by decide) (by decide), qc 30 (by decide) (by decide) (by decide), qc 31 (by decide) (by decide) (by decide), qc 32 (by decide) (by decide) (by decide), qc 33 (by decide) (by decide) (by decide), qc 35 (by decide) (by decide) (by decide), qc 40 (by decide) (by decide) (by decide), qc 41 (by decide) (by decide) (by decide), qc 42 (by decide) (by decide) (by decide), qc 43 (by decide) (by decide) (by decide)]
  · obtain ⟨hs1, rfl⟩ := hs
    rcases (show k = 14 ∨ k = 15 ∨ k = 16 by omega) with rfl | rfl | rfl
    · refine g1.trans ?_
      unfold CELL
      simp only [q13]
    · refine g2.trans ?_
      unfold CELL
      simp only [q14]
    · refine g3.trans ?_
      unfold CELL
      simp only [q15]

end CH

def sp_X9_sundays (g : hG) : hS := fun as M sz K => ∃ (h : Nat) (A : Nat → Nat → Nat) (ow : Nat → Nat × Nat) (σ : SG) (τ : Nat → Nat → Int) (r : Int), as = [.ref h, .int (iZ r)] ∧ HX g.2.2.2.2 h A ow σ τ M ∧ SV σ ∧ inR r ∧ KO g.2.2.2.2 h (E3 tIAE tIAE tIAE) (oc_sundays σ r) K
theorem s_X9_sundays {l : Launch} {g : hG} (hst : l.stackTraces = false) : Ctr l g mX9_sundays (sp_X9_sundays g) := by
  refine Ctr.mk9 hst (by decide) ?_ ?_
  · rintro as M sz K ⟨h, A, ow, σ, τ, r, rfl, hH, hV, hrr, hK⟩
    exact ⟨by simp [mX9_sundays], cat_ok rfl⟩
  rintro X as M sz K hX rfl rfl hR ⟨h, A, ow, σ, τ, r, rfl, hH, hV, hrr, hK⟩
  show G X 0 [.ref h, .int (iZ r), U9] [] M sz 0 0
  obtain ⟨n0, n1, n2, n3, ⟨e0, hn0⟩, ⟨e1, hn1⟩, ⟨e2, hn2⟩, ⟨e3, hn3⟩⟩ := hV.nat
  have hob := hH.ob
  have hl0 := hH.l0 e0
  obtain ⟨mo0, ho0⟩ := hl0.o
  have hl1 := hH.l1 e1
  obtain ⟨mo1, ho1⟩ := hl1.o
  have hl2 := hH.l2 e2
  obtain ⟨mo2, ho2⟩ := hl2.o
  have hl3 := hH.l3 e3
  obtain ⟨mo3, ho3⟩ := hl3.o
  refine g_iload hX dX9_sundays_0 rfl ?_
  refine g_const hX dX9_sundays_1 ?_
  refine g_const hX dX9_sundays_2 ?_
  refine g_cS3 (c2 := 1) (s2 := 6) hX (s_X9_requireRange hst) dX9_sundays_4 (by first | exact Nat.le_of_ble_eq_true rfl | simp [cat_rf, Value.category]) ⟨rfl, rfl, by decide, by decide⟩ ?_
  refine ⟨_, _, _, rfl, (by first | assumption | (constructor <;> omega)), (by first | assumption | (constructor <;> omega)), (by first | assumption | (constructor <;> omega)), fun q1 => Kc_v ?_, fun h9 s9 hs9 => Kc_x (gx_out hX hR rfl (by decide) (by decide) (KX hK (c := 1) (if_pos h9) (by decide) rfl hH hV))⟩
  refine g_aload hX dX9_sundays_7 rfl rfl ?_
  refine g_get hX dX9_sundays_8 (by first | exact hob | exact ho0 | exact ho1 | exact ho2 | exact ho3 | exact hH.tx (by omega) | exact hH.ux (by omega) | exact hH.fx (by omega) | exact hH.sx (by omega) | exact hH.tr (by omega) | exact hH.ur (by omega) | exact (hH.tw (by omega)).1 | exact (hH.uw (by omega)).1 | exact hH.fr (by omega) | exact hH.pl.1) rfl ?_
  refine g_istore hX dX9_sundays_11 ?_
  dsimp only [List.set]
  refine g_aload hX dX9_sundays_12 rfl rfl ?_
  refine g_iload hX dX9_sundays_13 rfl ?_
  refine g_put hX dX9_sundays_14 hob (by simp) rfl rfl ?_
  dsimp only [List.set]
  refine g_iload hX dX9_sundays_17 rfl ?_
  refine g_iret hX hR dX9_sundays_18 rfl rfl (by decide) (by decide) ?_
  exact KV hK (if_neg (fun q => q q1)) (hH.sun r) (SV_sun hV q1)

def sp_X9_allowText (g : hG) : hS := fun as M sz K => ∃ (h : Nat) (A : Nat → Nat → Nat) (ow : Nat → Nat × Nat) (σ : SG) (τ : Nat → Nat → Int) (a : Int) (b : Int), as = [.ref h, .int (iZ a), .int (iZ b)] ∧ HX g.2.2.2.2 h A ow σ τ M ∧ SV σ ∧ inR a ∧ (b = 0 ∨ b = 1) ∧ KO g.2.2.2.2 h (E3 tIOB tIOB tIOB) (oc_allow 0 12 σ a b) K
theorem s_X9_allowText {l : Launch} {g : hG} (hst : l.stackTraces = false) : Ctr l g mX9_allowText (sp_X9_allowText g) := by
  refine Ctr.mk9 hst (by decide) ?_ ?_
  · rintro as M sz K ⟨h, A, ow, σ, τ, a, b, rfl, hH, hV, hra, hrb, hK⟩
    exact ⟨by simp [mX9_allowText], cat_ok rfl⟩
  rintro X as M sz K hX rfl rfl hR ⟨h, A, ow, σ, τ, a, b, rfl, hH, hV, hra, hrb, hK⟩
  show G X 0 [.ref h, .int (iZ a), .int (iZ b)] [] M sz 0 0
  obtain ⟨n0, n1, n2, n3, ⟨e0, hn0⟩, ⟨e1, hn1⟩, ⟨e2, hn2⟩, ⟨e3, hn3⟩⟩ := hV.nat
  have hob := hH.ob
  have hl0 := hH.l0 e0
  obtain ⟨mo0, ho0⟩ := hl0.o
  have hl1 := hH.l1 e1
  obtain ⟨mo1, ho1⟩ := hl1.o
  have hl2 := hH.l2 e2
  obtain ⟨mo2, ho2⟩ := hl2.o
  have hl3 := hH.l3 e3
  obtain ⟨mo3, ho3⟩ := hl3.o
  refine g_aload hX dX9_allowText_0 rfl rfl ?_
  refine g_iload hX dX9_allowText_1 rfl ?_
  refine g_cV1 (c2 := 1) (s2 := 6) hX (s_X9_textAt hst) dX9_allowText_2 (by first | exact hob | exact ho0 | exact ho1 | exact ho2 | exact ho3 | exact hH.tx (by omega) | exact hH.ux (by omega) | exact hH.fx (by omega) | exact hH.sx (by omega) | exact hH.tr (by omega) | exact hH.ur (by omega) | exact (hH.tw (by omega)).1 | exact (hH.uw (by omega)).1 | exact hH.fr (by omega) | exact hH.pl.1) (by first | exact Nat.le_of_ble_eq_true rfl | simp [cat_rf, Value.category]) ⟨rfl, rfl, by decide, by decide⟩ ?_
  refine ⟨_, _, _, _, _, _, rfl, hH, hV, (by assumption), fun qa => Kc_i ?_, fun h9 s9 hs9 => Kc_x (gx_out hX hR rfl (by decide) (by decide) (KX hK (c := 1) (if_pos h9) (by decide) rfl hH hV))⟩
  obtain ⟨t, rfl⟩ : ∃ t : Nat, a = (t : Int) := ⟨a.toNat, by omega⟩
  simp only [Int.toNat_natCast]
  have hal9 := (hV.t t).2.2.1
  refine g_get hX dX9_allowText_5 (by first | exact hob | exact ho0 | exact ho1 | exact ho2 | exact ho3 | exact hH.tx (by omega) | exact hH.ux (by omega) | exact hH.fx (by omega) | exact hH.sx (by omega) | exact hH.tr (by omega) | exact hH.ur (by omega) | exact (hH.tw (by omega)).1 | exact (hH.uw (by omega)).1 | exact hH.fr (by omega) | exact hH.pl.1) rfl ?_
  refine g_iload hX dX9_allowText_8 rfl ?_
  refine g_cVN1 (c2 := 1) (s2 := 6) hX (s_X3_setAllowed hst) dX9_allowText_9 (by first | exact hob | exact ho0 | exact ho1 | exact ho2 | exact ho3 | exact hH.tx (by omega) | exact hH.ux (by omega) | exact hH.fx (by omega) | exact hH.sx (by omega) | exact hH.tr (by omega) | exact hH.ur (by omega) | exact (hH.tw (by omega)).1 | exact (hH.uw (by omega)).1 | exact hH.fr (by omega) | exact hH.pl.1) (by first | exact Nat.le_of_ble_eq_true rfl | simp [cat_rf, Value.category]) ⟨rfl, rfl, by decide, by decide⟩ ?_
  refine ⟨_, _, _, _, rfl, hH.tr (by omega), hrb, (hV.t t).2.2.1, Kc_i ?_⟩
  refine g_iret hX hR dX9_allowText_12 rfl (by first | rfl | exact nar_b _ | exact nar_01 (by omega)) (by decide) (by decide) ?_
  exact KV hK (if_neg (fun q => q qa)) (hH.alT b (by omega)) (SV_alT hV (by omega) hrb)

def sp_X9_allowTune (g : hG) : hS := fun as M sz K => ∃ (h : Nat) (A : Nat → Nat → Nat) (ow : Nat → Nat × Nat) (σ : SG) (τ : Nat → Nat → Int) (a : Int) (b : Int), as = [.ref h, .int (iZ a), .int (iZ b)] ∧ HX g.2.2.2.2 h A ow σ τ M ∧ SV σ ∧ inR a ∧ (b = 0 ∨ b = 1) ∧ KO g.2.2.2.2 h (E3 tIOB tIOB tIOB) (oc_allow 1 23 σ a b) K
theorem s_X9_allowTune {l : Launch} {g : hG} (hst : l.stackTraces = false) : Ctr l g mX9_allowTune (sp_X9_allowTune g) := by
  refine Ctr.mk9 hst (by decide) ?_ ?_
  · rintro as M sz K ⟨h, A, ow, σ, τ, a, b, rfl, hH, hV, hra, hrb, hK⟩
    exact ⟨by simp [mX9_allowTune], cat_ok rfl⟩
  rintro X as M sz K hX rfl rfl hR ⟨h, A, ow, σ, τ, a, b, rfl, hH, hV, hra, hrb, hK⟩
  show G X 0 [.ref h, .int (iZ a), .int (iZ b)] [] M sz 0 0
  obtain ⟨n0, n1, n2, n3, ⟨e0, hn0⟩, ⟨e1, hn1⟩, ⟨e2, hn2⟩, ⟨e3, hn3⟩⟩ := hV.nat
  have hob := hH.ob
  have hl0 := hH.l0 e0
  obtain ⟨mo0, ho0⟩ := hl0.o
  have hl1 := hH.l1 e1
  obtain ⟨mo1, ho1⟩ := hl1.o
  have hl2 := hH.l2 e2
  obtain ⟨mo2, ho2⟩ := hl2.o
  have hl3 := hH.l3 e3
  obtain ⟨mo3, ho3⟩ := hl3.o
  refine g_aload hX dX9_allowTune_0 rfl rfl ?_
  refine g_iload hX dX9_allowTune_1 rfl ?_
  refine g_cV1 (c2 := 1) (s2 := 6) hX (s_X9_tuneAt hst) dX9_allowTune_2 (by first | exact hob | exact ho0 | exact ho1 | exact ho2 | exact ho3 | exact hH.tx (by omega) | exact hH.ux (by omega) | exact hH.fx (by omega) | exact hH.sx (by omega) | exact hH.tr (by omega) | exact hH.ur (by omega) | exact (hH.tw (by omega)).1 | exact (hH.uw (by omega)).1 | exact hH.fr (by omega) | exact hH.pl.1) (by first | exact Nat.le_of_ble_eq_true rfl | simp [cat_rf, Value.category]) ⟨rfl, rfl, by decide, by decide⟩ ?_
  refine ⟨_, _, _, _, _, _, rfl, hH, hV, (by assumption), fun qa => Kc_i ?_, fun h9 s9 hs9 => Kc_x (gx_out hX hR rfl (by decide) (by decide) (KX hK (c := 1) (if_pos h9) (by decide) rfl hH hV))⟩
  obtain ⟨t, rfl⟩ : ∃ t : Nat, a = (t : Int) := ⟨a.toNat, by omega⟩
  simp only [Int.toNat_natCast]
  have hal9 := (hV.u t).2.2.2.1
  refine g_get hX dX9_allowTune_5 (by first | exact hob | exact ho0 | exact ho1 | exact ho2 | exact ho3 | exact hH.tx (by omega) | exact hH.ux (by omega) | exact hH.fx (by omega) | exact hH.sx (by omega) | exact hH.tr (by omega) | exact hH.ur (by omega) | exact (hH.tw (by omega)).1 | exact (hH.uw (by omega)).1 | exact hH.fr (by omega) | exact hH.pl.1) rfl ?_
  refine g_iload hX dX9_allowTune_8 rfl ?_
  refine g_cVN1 (c2 := 1) (s2 := 6) hX (s_X3_setAllowed hst) dX9_allowTune_9 (by first | exact hob | exact ho0 | exact ho1 | exact ho2 | exact ho3 | exact hH.tx (by omega) | exact hH.ux (by omega) | exact hH.fx (by omega) | exact hH.sx (by omega) | exact hH.tr (by omega) | exact hH.ur (by omega) | exact (hH.tw (by omega)).1 | exact (hH.uw (by omega)).1 | exact hH.fr (by omega) | exact hH.pl.1) (by first | exact Nat.le_of_ble_eq_true rfl | simp [cat_rf, Value.category]) ⟨rfl, rfl, by decide, by decide⟩ ?_
  refine ⟨_, _, _, _, rfl, hH.ur (by omega), hrb, (hV.u t).2.2.2.1, Kc_i ?_⟩
  refine g_iret hX hR dX9_allowTune_12 rfl (by first | rfl | exact nar_b _ | exact nar_01 (by omega)) (by decide) (by decide) ?_
  exact KV hK (if_neg (fun q => q qa)) (hH.alU b (by omega)) (SV_alU hV (by omega) hrb)

def sp_X9_reading (g : hG) : hS := fun as M sz K => ∃ (h : Nat) (A : Nat → Nat → Nat) (ow : Nat → Nat × Nat) (σ : SG) (τ : Nat → Nat → Int) (a : Int) (b : Int) (th : Int), as = [.ref h, .int (iZ a), .int (iZ b), .int (iZ th)] ∧ HX g.2.2.2.2 h A ow σ τ M ∧ SV σ ∧ inR a ∧ inR b ∧ inR th ∧ KO g.2.2.2.2 h (E3 tIOB tIAE tIAE) (oc_reading σ a b th) K
theorem s_X9_reading {l : Launch} {g : hG} (hst : l.stackTraces = false) : Ctr l g mX9_reading (sp_X9_reading g) := by
  refine Ctr.mk9 hst (by decide) ?_ ?_
  · rintro as M sz K ⟨h, A, ow, σ, τ, a, b, th, rfl, hH, hV, hra, hrb, hrth, hK⟩
    exact ⟨by simp [mX9_reading], cat_ok rfl⟩
  rintro X as M sz K hX rfl rfl hR ⟨h, A, ow, σ, τ, a, b, th, rfl, hH, hV, hra, hrb, hrth, hK⟩
  show G X 0 [.ref h, .int (iZ a), .int (iZ b), .int (iZ th), U9] [] M sz 0 0
  obtain ⟨n0, n1, n2, n3, ⟨e0, hn0⟩, ⟨e1, hn1⟩, ⟨e2, hn2⟩, ⟨e3, hn3⟩⟩ := hV.nat
  have hob := hH.ob
  have hl0 := hH.l0 e0
  obtain ⟨mo0, ho0⟩ := hl0.o
  have hl1 := hH.l1 e1
  obtain ⟨mo1, ho1⟩ := hl1.o
  have hl2 := hH.l2 e2
  obtain ⟨mo2, ho2⟩ := hl2.o
  have hl3 := hH.l3 e3
  obtain ⟨mo3, ho3⟩ := hl3.o
  refine g_iload hX dX9_reading_0 rfl ?_
  refine g_const hX dX9_reading_1 ?_
  refine z_icmp_ne hX dX9_reading_3 (by first | assumption | (constructor <;> omega)) (by first | assumption | (constructor <;> omega)) (fun c3 => ?_) (fun c3 => ?_)
  · refine g_aload hX dX9_reading_13 rfl rfl ?_
    refine g_iload hX dX9_reading_14 rfl ?_
    refine g_cV1 (c2 := 1) (s2 := 6) hX (s_X9_feastAt hst) dX9_reading_15 (by first | exact hob | exact ho0 | exact ho1 | exact ho2 | exact ho3 | exact hH.tx (by omega) | exact hH.ux (by omega) | exact hH.fx (by omega) | exact hH.sx (by omega) | exact hH.tr (by omega) | exact hH.ur (by omega) | exact (hH.tw (by omega)).1 | exact (hH.uw (by omega)).1 | exact hH.fr (by omega) | exact hH.pl.1) (by first | exact Nat.le_of_ble_eq_true rfl | simp [cat_rf, Value.category]) ⟨rfl, rfl, by decide, by decide⟩ ?_
    refine ⟨_, _, _, _, _, _, rfl, hH, hV, (by assumption), fun qf => Kc_i ?_, fun h9 s9 hs9 => Kc_x (gx_out hX hR rfl (by decide) (by decide) (KX hK (c := 1) (if_pos (fun q => q.elim c3 h9)) (by decide) rfl hH hV))⟩
    obtain ⟨f, rfl⟩ : ∃ f : Nat, a = (f : Int) := ⟨a.toNat, by omega⟩
    simp only [Int.toNat_natCast]
    refine g_get hX dX9_reading_18 (by first | exact hob | exact ho0 | exact ho1 | exact ho2 | exact ho3 | exact hH.tx (by omega) | exact hH.ux (by omega) | exact hH.fx (by omega) | exact hH.sx (by omega) | exact hH.tr (by omega) | exact hH.ur (by omega) | exact (hH.tw (by omega)).1 | exact (hH.uw (by omega)).1 | exact hH.fr (by omega) | exact hH.pl.1) rfl ?_
    refine g_astore hX dX9_reading_21 rfl ?_
    dsimp only [List.set]
    refine g_iload hX dX9_reading_23 rfl ?_
    refine g_const hX dX9_reading_24 ?_
    refine g_const hX dX9_reading_25 ?_
    refine g_cS3 (c2 := 2) (s2 := 12) hX (s_X9_requireRange hst) dX9_reading_26 (by first | exact Nat.le_of_ble_eq_true rfl | simp [cat_rf, Value.category]) ⟨rfl, rfl, by decide, by decide⟩ ?_
    refine ⟨_, _, _, rfl, (by first | assumption | (constructor <;> omega)), (by first | assumption | (constructor <;> omega)), (by first | assumption | (constructor <;> omega)), fun qc => Kc_v ?_, fun h9 s9 hs9 => Kc_x (gx_out hX hR rfl (by decide) (by decide) (KX hK (c := 2) ((if_neg (fun q => q (Or.inr qf))).trans (if_pos (fun q => h9 ⟨q.1.1, by omega⟩))) (by decide) rfl hH hV))⟩
    refine g_iload hX dX9_reading_29 rfl ?_
    refine g_const hX dX9_reading_30 ?_
    refine z_icmp_eq hX dX9_reading_32 (by first | assumption | (constructor <;> omega)) (by first | assumption | (constructor <;> omega)) (fun c32 => ?_) (fun c32 => ?_)
    · refine g_aload hX dX9_reading_42 rfl rfl ?_
      refine g_iload hX dX9_reading_44 rfl ?_
      refine g_iload hX dX9_reading_45 rfl ?_
      refine g_cVN2 (c2 := 2) (s2 := 12) hX (s_X2_replace hst) dX9_reading_46 (by first | exact hob | exact ho0 | exact ho1 | exact ho2 | exact ho3 | exact hH.tx (by omega) | exact hH.ux (by omega) | exact hH.fx (by omega) | exact hH.sx (by omega) | exact hH.tr (by omega) | exact hH.ur (by omega) | exact (hH.tw (by omega)).1 | exact (hH.uw (by omega)).1 | exact hH.fr (by omega) | exact hH.pl.1) (by first | exact Nat.le_of_ble_eq_true rfl | simp [cat_rf, Value.category]) ⟨rfl, rfl, by decide, by decide⟩ ?_
      obtain ⟨c, rfl⟩ : ∃ c : Nat, b = (c : Int) := ⟨b.toNat, by omega⟩
      refine ⟨_, _, _, _, _, rfl, hH.fr (by omega), hH.fa (by omega), by omega, Kc_i ?_⟩
      simp only [Int.toNat_natCast]
      rw [upd_iZ]
      refine g_iret hX hR dX9_reading_49 rfl rfl (by decide) (by decide) ?_
      exact KV hK (((if_neg (fun q => q (Or.inr qf))).trans (if_neg (fun q => q ⟨by omega, by omega⟩))).trans (by rw [show rdI (f : Int) = f from if_neg c3, Int.toNat_natCast])) (hH.rd th (by omega)) (SV_rd hV (by omega) (by omega))
    · refine g_iload hX dX9_reading_35 rfl ?_
      refine g_const hX dX9_reading_36 ?_
      refine g_const hX dX9_reading_37 ?_
      refine g_cS3 (c2 := 3) (s2 := 18) hX (s_X9_requireRange hst) dX9_reading_39 (by first | exact Nat.le_of_ble_eq_true rfl | simp [cat_rf, Value.category]) ⟨rfl, rfl, by decide, by decide⟩ ?_
      refine ⟨_, _, _, rfl, (by first | assumption | (constructor <;> omega)), (by first | assumption | (constructor <;> omega)), (by first | assumption | (constructor <;> omega)), fun qt => Kc_v ?_, fun h9 s9 hs9 => Kc_x (gx_out hX hR rfl (by decide) (by decide) (KX hK (c := 2) ((if_neg (fun q => q (Or.inr qf))).trans (if_pos (fun q => by have := q.2; omega))) (by decide) rfl hH hV))⟩
      refine g_aload hX dX9_reading_42 rfl rfl ?_
      refine g_iload hX dX9_reading_44 rfl ?_
      refine g_iload hX dX9_reading_45 rfl ?_
      refine g_cVN2 (c2 := 3) (s2 := 18) hX (s_X2_replace hst) dX9_reading_46 (by first | exact hob | exact ho0 | exact ho1 | exact ho2 | exact ho3 | exact hH.tx (by omega) | exact hH.ux (by omega) | exact hH.fx (by omega) | exact hH.sx (by omega) | exact hH.tr (by omega) | exact hH.ur (by omega) | exact (hH.tw (by omega)).1 | exact (hH.uw (by omega)).1 | exact hH.fr (by omega) | exact hH.pl.1) (by first | exact Nat.le_of_ble_eq_true rfl | simp [cat_rf, Value.category]) ⟨rfl, rfl, by decide, by decide⟩ ?_
      obtain ⟨c, rfl⟩ : ∃ c : Nat, b = (c : Int) := ⟨b.toNat, by omega⟩
      refine ⟨_, _, _, _, _, rfl, hH.fr (by omega), hH.fa (by omega), by omega, Kc_i ?_⟩
      simp only [Int.toNat_natCast]
      rw [upd_iZ]
      refine g_iret hX hR dX9_reading_49 rfl rfl (by decide) (by decide) ?_
      exact KV hK (((if_neg (fun q => q (Or.inr qf))).trans (if_neg (fun q => q ⟨by omega, by omega⟩))).trans (by rw [show rdI (f : Int) = f from if_neg c3, Int.toNat_natCast])) (hH.rd th (by omega)) (SV_rd hV (by omega) (by omega))
  · refine g_aload hX dX9_reading_6 rfl rfl ?_
    refine g_get hX dX9_reading_7 (by first | exact hob | exact ho0 | exact ho1 | exact ho2 | exact ho3 | exact hH.tx (by omega) | exact hH.ux (by omega) | exact hH.fx (by omega) | exact hH.sx (by omega) | exact hH.tr (by omega) | exact hH.ur (by omega) | exact (hH.tw (by omega)).1 | exact (hH.uw (by omega)).1 | exact hH.fr (by omega) | exact hH.pl.1) rfl ?_
    refine g_goto hX dX9_reading_10 ?_
    refine g_astore hX dX9_reading_21 rfl ?_
    dsimp only [List.set]
    refine g_iload hX dX9_reading_23 rfl ?_
    refine g_const hX dX9_reading_24 ?_
    refine g_const hX dX9_reading_25 ?_
    refine g_cS3 (c2 := 1) (s2 := 6) hX (s_X9_requireRange hst) dX9_reading_26 (by first | exact Nat.le_of_ble_eq_true rfl | simp [cat_rf, Value.category]) ⟨rfl, rfl, by decide, by decide⟩ ?_
    refine ⟨_, _, _, rfl, (by first | assumption | (constructor <;> omega)), (by first | assumption | (constructor <;> omega)), (by first | assumption | (constructor <;> omega)), fun qc => Kc_v ?_, fun h9 s9 hs9 => Kc_x (gx_out hX hR rfl (by decide) (by decide) (KX hK (c := 2) ((if_neg (fun q => q (Or.inl c3))).trans (if_pos (fun q => h9 ⟨q.1.1, by omega⟩))) (by decide) rfl hH hV))⟩
    refine g_iload hX dX9_reading_29 rfl ?_
    refine g_const hX dX9_reading_30 ?_
    refine z_icmp_eq hX dX9_reading_32 (by first | assumption | (constructor <;> omega)) (by first | assumption | (constructor <;> omega)) (fun c32 => ?_) (fun c32 => ?_)
    · refine g_aload hX dX9_reading_42 rfl rfl ?_
      refine g_iload hX dX9_reading_44 rfl ?_
      refine g_iload hX dX9_reading_45 rfl ?_
      refine g_cVN2 (c2 := 1) (s2 := 6) hX (s_X2_replace hst) dX9_reading_46 (by first | exact hob | exact ho0 | exact ho1 | exact ho2 | exact ho3 | exact hH.tx (by omega) | exact hH.ux (by omega) | exact hH.fx (by omega) | exact hH.sx (by omega) | exact hH.tr (by omega) | exact hH.ur (by omega) | exact (hH.tw (by omega)).1 | exact (hH.uw (by omega)).1 | exact hH.fr (by omega) | exact hH.pl.1) (by first | exact Nat.le_of_ble_eq_true rfl | simp [cat_rf, Value.category]) ⟨rfl, rfl, by decide, by decide⟩ ?_
      obtain ⟨c, rfl⟩ : ∃ c : Nat, b = (c : Int) := ⟨b.toNat, by omega⟩
      refine ⟨_, _, _, _, _, rfl, hH.fr (by omega), hH.fa (by omega), by omega, Kc_i ?_⟩
      simp only [Int.toNat_natCast]
      rw [upd_iZ]
      refine g_iret hX hR dX9_reading_49 rfl rfl (by decide) (by decide) ?_
      exact KV hK (((if_neg (fun q => q (Or.inl c3))).trans (if_neg (fun q => q ⟨by omega, by omega⟩))).trans (by rw [show rdI a = 20 from if_pos c3, Int.toNat_natCast])) (hH.rd th (by omega)) (SV_rd hV (by omega) (by omega))
    · refine g_iload hX dX9_reading_35 rfl ?_
      refine g_const hX dX9_reading_36 ?_
      refine g_const hX dX9_reading_37 ?_
      refine g_cS3 (c2 := 2) (s2 := 12) hX (s_X9_requireRange hst) dX9_reading_39 (by first | exact Nat.le_of_ble_eq_true rfl | simp [cat_rf, Value.category]) ⟨rfl, rfl, by decide, by decide⟩ ?_
      refine ⟨_, _, _, rfl, (by first | assumption | (constructor <;> omega)), (by first | assumption | (constructor <;> omega)), (by first | assumption | (constructor <;> omega)), fun qt => Kc_v ?_, fun h9 s9 hs9 => Kc_x (gx_out hX hR rfl (by decide) (by decide) (KX hK (c := 2) ((if_neg (fun q => q (Or.inl c3))).trans (if_pos (fun q => by have := q.2; omega))) (by decide) rfl hH hV))⟩
      refine g_aload hX dX9_reading_42 rfl rfl ?_
      refine g_iload hX dX9_reading_44 rfl ?_
      refine g_iload hX dX9_reading_45 rfl ?_
      refine g_cVN2 (c2 := 2) (s2 := 12) hX (s_X2_replace hst) dX9_reading_46 (by first | exact hob | exact ho0 | exact ho1 | exact ho2 | exact ho3 | exact hH.tx (by omega) | exact hH.ux (by omega) | exact hH.fx (by omega) | exact hH.sx (by omega) | exact hH.tr (by omega) | exact hH.ur (by omega) | exact (hH.tw (by omega)).1 | exact (hH.uw (by omega)).1 | exact hH.fr (by omega) | exact hH.pl.1) (by first | exact Nat.le_of_ble_eq_true rfl | simp [cat_rf, Value.category]) ⟨rfl, rfl, by decide, by decide⟩ ?_
      obtain ⟨c, rfl⟩ : ∃ c : Nat, b = (c : Int) := ⟨b.toNat, by omega⟩
      refine ⟨_, _, _, _, _, rfl, hH.fr (by omega), hH.fa (by omega), by omega, Kc_i ?_⟩
      simp only [Int.toNat_natCast]
      rw [upd_iZ]
      refine g_iret hX hR dX9_reading_49 rfl rfl (by decide) (by decide) ?_
      exact KV hK (((if_neg (fun q => q (Or.inl c3))).trans (if_neg (fun q => q ⟨by omega, by omega⟩))).trans (by rw [show rdI a = 20 from if_pos c3, Int.toNat_natCast])) (hH.rd th (by omega)) (SV_rd hV (by omega) (by omega))

theorem z_shl1 : ∀ m : Nat, m < 13 → iZ 1 <<< (iZ (m : Int) &&& 31) = iZ (2 ^ m) := by decide
theorem pow_r : ∀ m : Nat, m < 13 → (1 : Int) ≤ 2 ^ m ∧ (2 : Int) ^ m ≤ 4096 := by decide

def sp_X9_addRow : hS := fun as M sz K => ∃ (r a b : Nat) (n m s : Int) (len mk : Nat → Int), as = [.ref r, .int (iZ m), .int (iZ s)] ∧ RW M r a b n len mk ∧ a ≠ b ∧ (0 ≤ n ∧ n ≤ 8) ∧ inR m ∧ inR s ∧ (¬ ((1 ≤ m ∧ m ≤ 12) ∧ 0 ≤ s ∧ s ≤ 2 ^ m.toNat - 1) → ∀ s9, sz ≤ s9 → K (.inr tIAE) M s9) ∧ ((1 ≤ m ∧ m ≤ 12) ∧ 0 ≤ s ∧ s ≤ 2 ^ m.toNat - 1 → n = 8 → ∀ s9, sz ≤ s9 → K (.inr tISE) M s9) ∧ ((1 ≤ m ∧ m ≤ 12) ∧ 0 ≤ s ∧ s ≤ 2 ^ m.toNat - 1 → n ≠ 8 → K (.inl (some (.int (iZ (n + 1))))) (hup (hup (hup M a (.inr (0, 8, ia (iu len n.toNat m)))) b (.inr (0, 8, ia (iu mk n.toNat s)))) r (.inl (4, [.ref a, .ref b, .int (iZ (n + 1))]))) sz)
theorem s_X9_addRow {l : Launch} {g : hG} (hst : l.stackTraces = false) : Ctr l g mX9_addRow sp_X9_addRow := by
  refine Ctr.mk9 hst (by decide) ?_ ?_
  · rintro as M sz K ⟨r, a, b, n, m, s, len, mk, rfl, ⟨hr, ha, hb⟩, hab, hn, hm1, hs1, hK2, hK3, hK⟩
    exact ⟨by simp [mX9_addRow], cat_ok rfl⟩
  rintro X as M sz K hX rfl rfl hR ⟨r, a, b, n, m, s, len, mk, rfl, ⟨hr, ha, hb⟩, hab, hn, hm1, hs1, hK2, hK3, hK⟩
  show G X 0 [.ref r, .int (iZ m), .int (iZ s)] [] M sz 0 0
  refine g_iload hX dX9_addRow_0 rfl ?_
  refine g_const hX dX9_addRow_1 ?_
  refine g_const hX dX9_addRow_2 ?_
  refine g_cS3 (c2 := 1) (s2 := 6) hX (s_X9_requireRange hst) dX9_addRow_4 (by first | exact Nat.le_of_ble_eq_true rfl | simp [cat_rf, Value.category]) ⟨rfl, rfl, by decide, by decide⟩ ?_
  refine ⟨_, _, _, rfl, hm1, (by constructor <;> omega), (by constructor <;> omega), fun q1 => Kc_v ?_, fun h9 s9 hs9 => Kc_x (gx_out hX hR rfl (by decide) (by decide) (hK2 (fun q => h9 q.1) _ hs9))⟩
  obtain ⟨mm, rfl⟩ : ∃ mm : Nat, m = (mm : Int) := ⟨m.toNat, by omega⟩
  simp only [Int.toNat_natCast] at hK2 hK3 hK
  have hpw := pow_r mm (by omega)
  refine g_iload hX dX9_addRow_7 rfl ?_
  refine g_const hX dX9_addRow_8 ?_
  refine g_const hX dX9_addRow_9 ?_
  refine g_iload hX dX9_addRow_10 rfl ?_
  refine g_ishl hX dX9_addRow_11 ?_
  rw [z_shl1 mm (by omega)]
  refine g_const hX dX9_addRow_12 ?_
  refine z_isub hX dX9_addRow_13 ?_
  refine g_cS3 (c2 := 2) (s2 := 12) hX (s_X9_requireRange hst) dX9_addRow_14 (by first | exact Nat.le_of_ble_eq_true rfl | simp [cat_rf, Value.category]) ⟨rfl, rfl, by decide, by decide⟩ ?_
  refine ⟨_, _, _, rfl, hs1, (by constructor <;> omega), (by constructor <;> omega), fun q2 => Kc_v ?_, fun h9 s9 hs9 => Kc_x (gx_out hX hR rfl (by decide) (by decide) (hK2 (fun q => h9 q.2) _ hs9))⟩
  refine g_aload hX dX9_addRow_17 rfl rfl ?_
  refine g_get hX dX9_addRow_18 (by first | assumption | exact hup_s _ _ _) rfl ?_
  refine g_const hX dX9_addRow_21 ?_
  refine z_icmp_lt hX dX9_addRow_23 (by first | assumption | (constructor <;> omega)) (by first | assumption | (constructor <;> omega)) (fun c23 => ?_) (fun c23 => ?_)
  · refine g_aload hX dX9_addRow_37 rfl rfl ?_
    refine g_iload hX dX9_addRow_38 rfl ?_
    refine g_iload hX dX9_addRow_39 rfl ?_
    refine g_cVN2 (c2 := 2) (s2 := 12) hX (s_X4_append hst) dX9_addRow_40 (by first | assumption | exact hup_s _ _ _) (by first | exact Nat.le_of_ble_eq_true rfl | simp [cat_rf, Value.category]) ⟨rfl, rfl, by decide, by decide⟩ ?_
    refine ⟨_, _, _, _, _, _, _, _, rfl, ⟨hr, ha, hb⟩, hab, by omega, Kc_v ?_⟩
    rw [upd_iZ, upd_iZ]
    refine g_aload hX dX9_addRow_43 rfl rfl ?_
    refine g_get hX dX9_addRow_44 (by first | assumption | exact hup_s _ _ _) rfl ?_
    refine g_iret hX hR dX9_addRow_47 rfl rfl (by decide) (by decide) ?_
    exact hK ⟨q1, q2⟩ (by omega)
  · refine g_throw hX hR dX9_addRow_26 (by decide) (by decide) (fun sz9 hsz9 => ?_)
    exact hK3 ⟨q1, q2⟩ (by omega) _ hsz9

def sp_X9_line (g : hG) : hS := fun as M sz K => ∃ (h : Nat) (A : Nat → Nat → Nat) (ow : Nat → Nat × Nat) (σ : SG) (τ : Nat → Nat → Int) (a : Int) (m : Int) (s : Int), as = [.ref h, .int (iZ a), .int (iZ m), .int (iZ s)] ∧ HX g.2.2.2.2 h A ow σ τ M ∧ SV σ ∧ inR a ∧ inR m ∧ inR s ∧ KO g.2.2.2.2 h (E3 tIOB tIAE tISE) (oc_row 0 13 σ a m s) K
theorem s_X9_line {l : Launch} {g : hG} (hst : l.stackTraces = false) : Ctr l g mX9_line (sp_X9_line g) := by
  refine Ctr.mk9 hst (by decide) ?_ ?_
  · rintro as M sz K ⟨h, A, ow, σ, τ, a, m, s, rfl, hH, hV, hra, hrm, hrs, hK⟩
    exact ⟨by simp [mX9_line], cat_ok rfl⟩
  rintro X as M sz K hX rfl rfl hR ⟨h, A, ow, σ, τ, a, m, s, rfl, hH, hV, hra, hrm, hrs, hK⟩
  show G X 0 [.ref h, .int (iZ a), .int (iZ m), .int (iZ s)] [] M sz 0 0
  obtain ⟨n0, n1, n2, n3, ⟨e0, hn0⟩, ⟨e1, hn1⟩, ⟨e2, hn2⟩, ⟨e3, hn3⟩⟩ := hV.nat
  have hob := hH.ob
  have hl0 := hH.l0 e0
  obtain ⟨mo0, ho0⟩ := hl0.o
  have hl1 := hH.l1 e1
  obtain ⟨mo1, ho1⟩ := hl1.o
  have hl2 := hH.l2 e2
  obtain ⟨mo2, ho2⟩ := hl2.o
  have hl3 := hH.l3 e3
  obtain ⟨mo3, ho3⟩ := hl3.o
  refine g_aload hX dX9_line_0 rfl rfl ?_
  refine g_iload hX dX9_line_1 rfl ?_
  refine g_cV1 (c2 := 1) (s2 := 6) hX (s_X9_textAt hst) dX9_line_2 (by first | exact hob | exact hH.tx (by omega) | exact hH.ux (by omega)) (by first | exact Nat.le_of_ble_eq_true rfl | simp [cat_rf, Value.category]) ⟨rfl, rfl, by decide, by decide⟩ ?_
  refine ⟨_, _, _, _, _, _, rfl, hH, hV, (by assumption), fun qa => Kc_i ?_, fun h9 s9 hs9 => Kc_x (gx_out hX hR rfl (by decide) (by decide) (KX hK (c := 1) (if_pos h9) (by decide) rfl hH hV))⟩
  obtain ⟨t, rfl⟩ : ∃ t : Nat, a = (t : Int) := ⟨a.toNat, by omega⟩
  simp only [Int.toNat_natCast]
  refine g_get hX dX9_line_5 (by first | exact hob | exact hH.tx (by omega) | exact hH.ux (by omega)) rfl ?_
  refine g_iload hX dX9_line_8 rfl ?_
  refine g_iload hX dX9_line_9 rfl ?_
  refine g_cS3 (c2 := 4) (s2 := 24) hX (s_X9_addRow hst) dX9_line_10 (by first | exact Nat.le_of_ble_eq_true rfl | simp [cat_rf, Value.category]) ⟨rfl, rfl, by decide, by decide⟩ ?_
  refine ⟨_, _, _, _, _, _, _, _, rfl, hH.tw (by omega), hH.ne (HX.v7 (by decide) (by omega)) (HX.v7 (by decide) (by omega)) (Or.inl (by decide)), (hV.t t).2.2.2.1.1, (by assumption), (by assumption), fun h9 s9 hs9 => Kc_x (gx_out hX hR rfl (by decide) (by decide) (KX hK (c := 2) ((if_neg (fun q => q qa)).trans (if_pos h9)) (by decide) rfl hH hV)), fun h8 h9 s9 hs9 => Kc_x (gx_out hX hR rfl (by decide) (by decide) (KX hK (c := 3) ((if_neg (fun q => q qa)).trans ((if_neg (fun q => q h8)).trans (if_pos h9))) (by decide) rfl hH hV)), fun h8 h9 => Kc_i ?_⟩
  have hpw := pow_r m.toNat (by omega)
  have hne1 := hH.ne (k := 10) (i := t) (k' := 9) (i' := t) (HX.v7 (by decide) (by omega)) (HX.v7 (by decide) (by omega)) (Or.inl (by decide))
  have hne2 := hH.ne (k := 11) (i := t) (k' := 9) (i' := t) (HX.v7 (by decide) (by omega)) (HX.v7 (by decide) (by omega)) (Or.inl (by decide))
  have hne3 := hH.ne (k := 10) (i := t) (k' := 11) (i' := t) (HX.v7 (by decide) (by omega)) (HX.v7 (by decide) (by omega)) (Or.inl (by decide))
  refine g_iret hX hR dX9_line_13 rfl rfl (by decide) (by decide) ?_
  exact KV hK ((if_neg (fun q => q qa)).trans ((if_neg (fun q => q h8)).trans (if_neg h9))) (hH.liT (by omega) (hup_s _ _ _) ((hup_n _ _ hne1).trans ((hup_n _ _ hne3).trans (hup_s _ _ _))) ((hup_n _ _ hne2).trans (hup_s _ _ _)) (fun q z1 z2 z3 => (hup_n _ _ z1).trans ((hup_n _ _ z3).trans (hup_n _ _ z2)))) (SV_liT hV (by omega) h9 h8.1 ⟨h8.2.1, by omega⟩)

def sp_X9_phrase (g : hG) : hS := fun as M sz K => ∃ (h : Nat) (A : Nat → Nat → Nat) (ow : Nat → Nat × Nat) (σ : SG) (τ : Nat → Nat → Int) (a : Int) (m : Int) (s : Int), as = [.ref h, .int (iZ a), .int (iZ m), .int (iZ s)] ∧ HX g.2.2.2.2 h A ow σ τ M ∧ SV σ ∧ inR a ∧ inR m ∧ inR s ∧ KO g.2.2.2.2 h (E3 tIOB tIAE tISE) (oc_row 1 24 σ a m s) K
theorem s_X9_phrase {l : Launch} {g : hG} (hst : l.stackTraces = false) : Ctr l g mX9_phrase (sp_X9_phrase g) := by
  refine Ctr.mk9 hst (by decide) ?_ ?_
  · rintro as M sz K ⟨h, A, ow, σ, τ, a, m, s, rfl, hH, hV, hra, hrm, hrs, hK⟩
    exact ⟨by simp [mX9_phrase], cat_ok rfl⟩
  rintro X as M sz K hX rfl rfl hR ⟨h, A, ow, σ, τ, a, m, s, rfl, hH, hV, hra, hrm, hrs, hK⟩
  show G X 0 [.ref h, .int (iZ a), .int (iZ m), .int (iZ s)] [] M sz 0 0
  obtain ⟨n0, n1, n2, n3, ⟨e0, hn0⟩, ⟨e1, hn1⟩, ⟨e2, hn2⟩, ⟨e3, hn3⟩⟩ := hV.nat
  have hob := hH.ob
  have hl0 := hH.l0 e0
  obtain ⟨mo0, ho0⟩ := hl0.o
  have hl1 := hH.l1 e1
  obtain ⟨mo1, ho1⟩ := hl1.o
  have hl2 := hH.l2 e2
  obtain ⟨mo2, ho2⟩ := hl2.o
  have hl3 := hH.l3 e3
  obtain ⟨mo3, ho3⟩ := hl3.o
  refine g_aload hX dX9_phrase_0 rfl rfl ?_
  refine g_iload hX dX9_phrase_1 rfl ?_
  refine g_cV1 (c2 := 1) (s2 := 6) hX (s_X9_tuneAt hst) dX9_phrase_2 (by first | exact hob | exact hH.tx (by omega) | exact hH.ux (by omega)) (by first | exact Nat.le_of_ble_eq_true rfl | simp [cat_rf, Value.category]) ⟨rfl, rfl, by decide, by decide⟩ ?_
  refine ⟨_, _, _, _, _, _, rfl, hH, hV, (by assumption), fun qa => Kc_i ?_, fun h9 s9 hs9 => Kc_x (gx_out hX hR rfl (by decide) (by decide) (KX hK (c := 1) (if_pos h9) (by decide) rfl hH hV))⟩
  obtain ⟨t, rfl⟩ : ∃ t : Nat, a = (t : Int) := ⟨a.toNat, by omega⟩
  simp only [Int.toNat_natCast]
  refine g_get hX dX9_phrase_5 (by first | exact hob | exact hH.tx (by omega) | exact hH.ux (by omega)) rfl ?_
  refine g_iload hX dX9_phrase_8 rfl ?_
  refine g_iload hX dX9_phrase_9 rfl ?_
  refine g_cS3 (c2 := 4) (s2 := 24) hX (s_X9_addRow hst) dX9_phrase_10 (by first | exact Nat.le_of_ble_eq_true rfl | simp [cat_rf, Value.category]) ⟨rfl, rfl, by decide, by decide⟩ ?_
  refine ⟨_, _, _, _, _, _, _, _, rfl, hH.uw (by omega), hH.ne (HX.v12 (by decide) (by omega)) (HX.v12 (by decide) (by omega)) (Or.inl (by decide)), (hV.u t).2.2.2.2.1.1, (by assumption), (by assumption), fun h9 s9 hs9 => Kc_x (gx_out hX hR rfl (by decide) (by decide) (KX hK (c := 2) ((if_neg (fun q => q qa)).trans (if_pos h9)) (by decide) rfl hH hV)), fun h8 h9 s9 hs9 => Kc_x (gx_out hX hR rfl (by decide) (by decide) (KX hK (c := 3) ((if_neg (fun q => q qa)).trans ((if_neg (fun q => q h8)).trans (if_pos h9))) (by decide) rfl hH hV)), fun h8 h9 => Kc_i ?_⟩
  have hpw := pow_r m.toNat (by omega)
  have hne1 := hH.ne (k := 15) (i := t) (k' := 14) (i' := t) (HX.v12 (by decide) (by omega)) (HX.v12 (by decide) (by omega)) (Or.inl (by decide))
  have hne2 := hH.ne (k := 16) (i := t) (k' := 14) (i' := t) (HX.v12 (by decide) (by omega)) (HX.v12 (by decide) (by omega)) (Or.inl (by decide))
  have hne3 := hH.ne (k := 15) (i := t) (k' := 16) (i' := t) (HX.v12 (by decide) (by omega)) (HX.v12 (by decide) (by omega)) (Or.inl (by decide))
  refine g_iret hX hR dX9_phrase_13 rfl rfl (by decide) (by decide) ?_
  exact KV hK ((if_neg (fun q => q qa)).trans ((if_neg (fun q => q h8)).trans (if_neg h9))) (hH.liU (by omega) (hup_s _ _ _) ((hup_n _ _ hne1).trans ((hup_n _ _ hne3).trans (hup_s _ _ _))) ((hup_n _ _ hne2).trans (hup_s _ _ _)) (fun q z1 z2 z3 => (hup_n _ _ z1).trans ((hup_n _ _ z3).trans (hup_n _ _ z2)))) (SV_liU hV (by omega) h9 h8.1 ⟨h8.2.1, by omega⟩)
