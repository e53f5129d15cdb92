/-! the state's numbers after a call keep what they keep -/
theorem sup_c (σ : SG) {c i k c' : Nat} (v : Int) (h : c' ≠ c) : sup σ c i k v c' = σ c' := by
  funext i' k'
  exact if_neg (fun q => h q.1)
theorem sup_i (σ : SG) {c i k c' i' : Nat} (v : Int) (h : i' ≠ i) : sup σ c i k v c' i' = σ c' i' := by
  funext k'
  exact if_neg (fun q => h q.2.1)
theorem sup_k (σ : SG) {c i k c' i' k' : Nat} (v : Int) (h : k' ≠ k) : sup σ c i k v c' i' k' = σ c' i' k' := if_neg (fun q => h q.2.2)
theorem sup_iu (σ : SG) (c i k : Nat) (v : Int) : sup σ c i k v c i = iu (σ c i) k v := by
  funext k'
  unfold sup iu
  simp
theorem SVn.congr {σ σ' : SG} (e : ∀ c, c < 5 → σ' c = σ c) (h : SVn σ) : SVn σ' := by
  unfold SVn at *
  rw [e 0 (by decide), e 1 (by decide), e 2 (by decide), e 3 (by decide), e 4 (by decide)]
  exact h
theorem SVt.congr {σ σ' : SG} (e0 : σ' 0 = σ 0) (e : ∀ c, 10 ≤ c → c < 16 → σ' c = σ c) (h : SVt σ) : SVt σ' := by
  unfold SVt at *
  rw [e0, e 10 (by decide) (by decide), e 11 (by decide) (by decide), e 12 (by decide) (by decide), e 13 (by decide) (by decide), e 14 (by decide) (by decide), e 15 (by decide) (by decide)]
  exact h
theorem SVu.congr {σ σ' : SG} (e0 : σ' 1 = σ 1) (e : ∀ c, 20 ≤ c → c < 27 → σ' c = σ c) (h : SVu σ) : SVu σ' := by
  unfold SVu at *
  rw [e0, e 20 (by decide) (by decide), e 21 (by decide) (by decide), e 22 (by decide) (by decide), e 23 (by decide) (by decide), e 24 (by decide) (by decide), e 25 (by decide) (by decide), e 26 (by decide) (by decide)]
  exact h
theorem SVf.congr {σ σ' : SG} (e0 : σ' 2 = σ 2) (e : ∀ c, 30 ≤ c → c < 36 → σ' c = σ c) (h : SVf σ) : SVf σ' := by
  unfold SVf at *
  rw [e0, e 30 (by decide) (by decide), e 31 (by decide) (by decide), e 32 (by decide) (by decide), e 33 (by decide) (by decide), e 34 (by decide) (by decide), e 35 (by decide) (by decide)]
  exact h
theorem SVs.congr {σ σ' : SG} (h0 : σ 0 0 0 ≤ σ' 0 0 0) (h1 : σ 1 0 0 ≤ σ' 1 0 0) (e0 : σ' 3 = σ 3) (e : ∀ c, 40 ≤ c → c < 44 → σ' c = σ c) (h : SVs σ) : SVs σ' := by
  unfold SVs at *
  rw [e0, e 40 (by decide) (by decide), e 41 (by decide) (by decide), e 42 (by decide) (by decide), e 43 (by decide) (by decide)]
  intro i hi
  have := h i hi
  exact ⟨by omega, by omega, this.2.2⟩

theorem SV_alT {σ : SG} (hV : SV σ) {t : Nat} {b : Int} (ht : (t : Int) < σ 0 0 0) (hb : b = 0 ∨ b = 1) : SV (sup σ 12 t 0 b) := by
  refine ⟨(SVn.congr (fun c h1 => sup_c _ _ (by omega)) hV.n), ?_, (SVu.congr (sup_c _ _ (by decide)) (fun c h1 h2 => sup_c _ _ (by omega)) hV.2.2.1), (SVf.congr (sup_c _ _ (by decide)) (fun c h1 h2 => sup_c _ _ (by omega)) hV.f), (SVs.congr (Int.le_of_eq (congrFun (congrFun (show (sup σ 12 t 0 b) 0 = σ 0 from (sup_c _ _ (by decide))) 0) 0).symm) (Int.le_of_eq (congrFun (congrFun (show (sup σ 12 t 0 b) 1 = σ 1 from (sup_c _ _ (by decide))) 0) 0).symm) (sup_c _ _ (by decide)) (fun c h1 h2 => sup_c _ _ (by omega)) hV.s)⟩
  · intro i
    obtain ⟨h1, h2, h3, h4, h5⟩ := hV.t i
    rw [sup_c σ b (show 10 ≠ 12 by decide), sup_c σ b (show 11 ≠ 12 by decide), sup_c σ b (show 13 ≠ 12 by decide), sup_c σ b (show 14 ≠ 12 by decide), sup_c σ b (show 15 ≠ 12 by decide), sup_c σ b (show 0 ≠ 12 by decide)]
    refine ⟨h1, h2, ?_, h4, fun h9 => ⟨?_, (h5 h9).2⟩⟩
    · by_cases e : i = t
      · rw [e, sup_s]; exact hb
      · rw [sup_i _ _ e]; exact h3
    · rw [sup_i _ _ (by omega)]; exact (h5 h9).1

theorem SV_alU {σ : SG} (hV : SV σ) {t : Nat} {b : Int} (ht : (t : Int) < σ 1 0 0) (hb : b = 0 ∨ b = 1) : SV (sup σ 23 t 0 b) := by
  refine ⟨(SVn.congr (fun c h1 => sup_c _ _ (by omega)) hV.n), (SVt.congr (sup_c _ _ (by decide)) (fun c h1 h2 => sup_c _ _ (by omega)) hV.2.1), ?_, (SVf.congr (sup_c _ _ (by decide)) (fun c h1 h2 => sup_c _ _ (by omega)) hV.f), (SVs.congr (Int.le_of_eq (congrFun (congrFun (show (sup σ 23 t 0 b) 0 = σ 0 from (sup_c _ _ (by decide))) 0) 0).symm) (Int.le_of_eq (congrFun (congrFun (show (sup σ 23 t 0 b) 1 = σ 1 from (sup_c _ _ (by decide))) 0) 0).symm) (sup_c _ _ (by decide)) (fun c h1 h2 => sup_c _ _ (by omega)) hV.s)⟩
  · intro i
    obtain ⟨h1, h2, h3, h4, h5, h6⟩ := hV.u i
    rw [sup_c σ b (show 20 ≠ 23 by decide), sup_c σ b (show 21 ≠ 23 by decide), sup_c σ b (show 22 ≠ 23 by decide), sup_c σ b (show 24 ≠ 23 by decide), sup_c σ b (show 25 ≠ 23 by decide), sup_c σ b (show 26 ≠ 23 by decide), sup_c σ b (show 1 ≠ 23 by decide)]
    refine ⟨h1, h2, h3, ?_, h5, fun h9 => ⟨?_, (h6 h9).2⟩⟩
    · by_cases e : i = t
      · rw [e, sup_s]; exact hb
      · rw [sup_i _ _ e]; exact h4
    · rw [sup_i _ _ (by omega)]; exact (h6 h9).1

theorem SV_sun {σ : SG} (hV : SV σ) {r : Int} (hr : 0 ≤ r ∧ r ≤ 9) : SV (sup σ 4 0 0 r) := by
  refine ⟨?_, (SVt.congr (sup_c _ _ (by decide)) (fun c h1 h2 => sup_c _ _ (by omega)) hV.2.1), (SVu.congr (sup_c _ _ (by decide)) (fun c h1 h2 => sup_c _ _ (by omega)) hV.2.2.1), (SVf.congr (sup_c _ _ (by decide)) (fun c h1 h2 => sup_c _ _ (by omega)) hV.f), (SVs.congr (Int.le_of_eq (congrFun (congrFun (show (sup σ 4 0 0 r) 0 = σ 0 from (sup_c _ _ (by decide))) 0) 0).symm) (Int.le_of_eq (congrFun (congrFun (show (sup σ 4 0 0 r) 1 = σ 1 from (sup_c _ _ (by decide))) 0) 0).symm) (sup_c _ _ (by decide)) (fun c h1 h2 => sup_c _ _ (by omega)) hV.s)⟩
  · obtain ⟨h0, h1, h2, h3, h4⟩ := hV.n
    unfold SVn
    rw [sup_c σ r (show 0 ≠ 4 by decide), sup_c σ r (show 1 ≠ 4 by decide), sup_c σ r (show 2 ≠ 4 by decide), sup_c σ r (show 3 ≠ 4 by decide), sup_s]
    exact ⟨h0, h1, h2, h3, hr⟩

theorem SV_rd {σ : SG} (hV : SV σ) {j k : Nat} {v : Int} (hj : (j : Int) < σ 2 0 0 ∨ j = 20) (hv : v = -100 ∨ (0 ≤ v ∧ v ≤ 15)) : SV (sup σ 35 j k v) := by
  refine ⟨(SVn.congr (fun c h1 => sup_c _ _ (by omega)) hV.n), (SVt.congr (sup_c _ _ (by decide)) (fun c h1 h2 => sup_c _ _ (by omega)) hV.2.1), (SVu.congr (sup_c _ _ (by decide)) (fun c h1 h2 => sup_c _ _ (by omega)) hV.2.2.1), ?_, (SVs.congr (Int.le_of_eq (congrFun (congrFun (show (sup σ 35 j k v) 0 = σ 0 from (sup_c _ _ (by decide))) 0) 0).symm) (Int.le_of_eq (congrFun (congrFun (show (sup σ 35 j k v) 1 = σ 1 from (sup_c _ _ (by decide))) 0) 0).symm) (sup_c _ _ (by decide)) (fun c h1 h2 => sup_c _ _ (by omega)) hV.s)⟩
  · obtain ⟨h1, h2, h3⟩ := hV.f
    unfold SVf
    rw [sup_c σ v (show 30 ≠ 35 by decide), sup_c σ v (show 31 ≠ 35 by decide), sup_c σ v (show 32 ≠ 35 by decide), sup_c σ v (show 33 ≠ 35 by decide), sup_c σ v (show 34 ≠ 35 by decide), sup_c σ v (show 2 ≠ 35 by decide)]
    refine ⟨h1, fun i k2 => ?_, fun i k2 q1 q2 => ?_⟩
    · by_cases e : i = j
      · subst e
        rw [sup_iu]
        unfold iu
        split
        · exact hv
        · exact h2 i k2
      · rw [sup_i _ _ e]; exact h2 i k2
    · rw [sup_i _ _ (by omega)]; exact h3 i k2 q1 q2

theorem SV_adT {σ : SG} (hV : SV σ) {a b : Int} (ha : 0 ≤ a ∧ a ≤ 2399) (hb : 0 ≤ b ∧ b ≤ 65535) (hn : σ 0 0 0 ≠ 12) : SV (adT σ a b) := by
  have q0 : adT σ a b 0 0 0 = σ 0 0 0 + 1 := sup_s _ _ _ _ _
  have qc : ∀ c, c ≠ 0 → c ≠ 10 → c ≠ 11 → adT σ a b c = σ c := fun c g1 g2 g3 => by unfold adT; rw [sup_c _ _ g1, sup_c _ _ g3, sup_c _ _ g2]
  have q10 : ∀ i, 0 ≤ adT σ a b 10 i 0 ∧ adT σ a b 10 i 0 ≤ 2399 := fun i => by
    have := (hV.t i).1
    unfold adT
    rw [sup_c _ _ (by decide), sup_c _ _ (by decide)]
    by_cases e : i = (σ 0 0 0).toNat
    · rw [e, sup_s]; exact ha
    · rw [sup_i _ _ e]; exact this
  have q11 : ∀ i, 0 ≤ adT σ a b 11 i 0 ∧ adT σ a b 11 i 0 ≤ 65535 := fun i => by
    have := (hV.t i).2.1
    unfold adT
    rw [sup_c _ _ (by decide)]
    by_cases e : i = (σ 0 0 0).toNat
    · rw [e, sup_s]; exact hb
    · rw [sup_i _ _ e, sup_c _ _ (by decide)]; exact this
  refine ⟨?_, ?_, ?_, ?_, ?_⟩
  · obtain ⟨h0, h1, h2, h3, h4⟩ := hV.n
    unfold SVn
    rw [q0, qc 1 (by decide) (by decide) (by decide), qc 2 (by decide) (by decide) (by decide), qc 3 (by decide) (by decide) (by decide), qc 4 (by decide) (by decide) (by decide)]
    exact ⟨by omega, h1, h2, h3, h4⟩
  · intro i
    obtain ⟨h1, h2, h3, h4, h5⟩ := hV.t i
    rw [q0, qc 12 (by decide) (by decide) (by decide), qc 13 (by decide) (by decide) (by decide), qc 14 (by decide) (by decide) (by decide), qc 15 (by decide) (by decide) (by decide)]
    exact ⟨q10 i, q11 i, h3, h4, fun h9 => h5 (by omega)⟩
  · exact SVu.congr (qc 1 (by decide) (by decide) (by decide)) (fun c h1 h2 => qc c (by omega) (by omega) (by omega)) hV.2.2.1
  · exact SVf.congr (qc 2 (by decide) (by decide) (by decide)) (fun c h1 h2 => qc c (by omega) (by omega) (by omega)) hV.f
  · exact SVs.congr (by omega) (by rw [qc 1 (by decide) (by decide) (by decide)]; exact Int.le_refl _) (qc 3 (by decide) (by decide) (by decide)) (fun c h1 h2 => qc c (by omega) (by omega) (by omega)) hV.s

theorem SV_adU {σ : SG} (hV : SV σ) {a lo hi : Int} (ha : 0 ≤ a ∧ a ≤ 2399) (hlo : 0 ≤ lo ∧ lo ≤ 40) (hhi : 0 ≤ hi ∧ hi ≤ 40) (hn : σ 1 0 0 ≠ 12) : SV (adU σ a lo hi) := by
  have q0 : adU σ a lo hi 1 0 0 = σ 1 0 0 + 1 := sup_s _ _ _ _ _
  have qc : ∀ c, c ≠ 1 → c ≠ 20 → c ≠ 21 → c ≠ 22 → adU σ a lo hi c = σ c := fun c g1 g2 g3 g4 => by unfold adU; rw [sup_c _ _ g1, sup_c _ _ g4, sup_c _ _ g3, sup_c _ _ g2]
  have q10 : ∀ i, 0 ≤ adU σ a lo hi 20 i 0 ∧ adU σ a lo hi 20 i 0 ≤ 2399 := fun i => by
    have := (hV.u i).1
    unfold adU
    rw [sup_c _ _ (by decide), sup_c _ _ (by decide), sup_c _ _ (by decide)]
    by_cases e : i = (σ 1 0 0).toNat
    · rw [e, sup_s]; exact ha
    · rw [sup_i _ _ e]; exact this
  have q11 : ∀ i, 0 ≤ adU σ a lo hi 21 i 0 ∧ adU σ a lo hi 21 i 0 ≤ 40 := fun i => by
    have := (hV.u i).2.1
    unfold adU
    rw [sup_c _ _ (by decide), sup_c _ _ (by decide)]
    by_cases e : i = (σ 1 0 0).toNat
    · rw [e, sup_s]; exact hlo
    · rw [sup_i _ _ e, sup_c _ _ (by decide)]; exact this
  have q12 : ∀ i, 0 ≤ adU σ a lo hi 22 i 0 ∧ adU σ a lo hi 22 i 0 ≤ 40 := fun i => by
    have := (hV.u i).2.2.1
    unfold adU
    rw [sup_c _ _ (by decide)]
    by_cases e : i = (σ 1 0 0).toNat
    · rw [e, sup_s]; exact hhi
    · rw [sup_i _ _ e, sup_c _ _ (by decide), sup_c _ _ (by decide)]; exact this
  refine ⟨?_, ?_, ?_, ?_, ?_⟩
  · obtain ⟨h0, h1, h2, h3, h4⟩ := hV.n
    unfold SVn
    rw [q0, qc 0 (by decide) (by decide) (by decide) (by decide), qc 2 (by decide) (by decide) (by decide) (by decide), qc 3 (by decide) (by decide) (by decide) (by decide), qc 4 (by decide) (by decide) (by decide) (by decide)]
    exact ⟨h0, by omega, h2, h3, h4⟩
  · exact SVt.congr (qc 0 (by decide) (by decide) (by decide) (by decide)) (fun c h1 h2 => qc c (by omega) (by omega) (by omega) (by omega)) hV.2.1
  · intro i
    obtain ⟨h1, h2, h3, h4, h5, h6⟩ := hV.u i
    rw [q0, qc 23 (by decide) (by decide) (by decide) (by decide), qc 24 (by decide) (by decide) (by decide) (by decide), qc 25 (by decide) (by decide) (by decide) (by decide), qc 26 (by decide) (by decide) (by decide) (by decide)]
    exact ⟨q10 i, q11 i, q12 i, h4, h5, fun h9 => h6 (by omega)⟩
  · exact SVf.congr (qc 2 (by decide) (by decide) (by decide) (by decide)) (fun c h1 h2 => qc c (by omega) (by omega) (by omega) (by omega)) hV.f
  · exact SVs.congr (by rw [qc 0 (by decide) (by decide) (by decide) (by decide)]; exact Int.le_refl _) (by omega) (qc 3 (by decide) (by decide) (by decide) (by decide)) (fun c h1 h2 => qc c (by omega) (by omega) (by omega) (by omega)) hV.s

theorem RR_app {n m s : Int} {len mk : Nat → Int} (h : RR n len mk) (hn : n < 8) (hm : 1 ≤ m ∧ m ≤ 12) (hs : 0 ≤ s ∧ s ≤ 4095) : RR (n + 1) (iu len n.toNat m) (iu mk n.toNat s) := by
  obtain ⟨h1, h2⟩ := h
  refine ⟨by omega, fun k => ?_⟩
  obtain ⟨g1, g2, g3, g4⟩ := h2 k
  by_cases e : k = n.toNat
  · subst e
    rw [iu_s, iu_s]
    exact ⟨by omega, by omega, fun h9 => by omega, fun h9 => by omega⟩
  · rw [iu_n _ _ e, iu_n _ _ e]
    exact ⟨g1, g2, fun h9 => g3 (by omega), fun h9 => g4 (by omega)⟩

theorem SV_liT {σ : SG} (hV : SV σ) {t : Nat} {m s : Int} (ht : (t : Int) < σ 0 0 0) (hn : σ 13 t 0 ≠ 8) (hm : 1 ≤ m ∧ m ≤ 12) (hs : 0 ≤ s ∧ s ≤ 4095) : SV (adL σ 13 t m s) := by
  have q13 : adL σ 13 t m s 13 t 0 = σ 13 t 0 + 1 := sup_s _ _ _ _ _
  have q14 : adL σ 13 t m s 14 t = iu (σ 14 t) (σ 13 t 0).toNat m := by
    unfold adL
    rw [sup_c _ _ (by decide), sup_c _ _ (by decide), sup_iu]
  have q15 : adL σ 13 t m s 15 t = iu (σ 15 t) (σ 13 t 0).toNat s := by
    unfold adL
    rw [sup_c _ _ (by decide), sup_iu, sup_c _ _ (by decide)]
  have qi : ∀ c i, i ≠ t → adL σ 13 t m s c i = σ c i := fun c i g => by unfold adL; rw [sup_i _ _ g, sup_i _ _ g, sup_i _ _ g]
  have qc : ∀ c, c ≠ 13 → c ≠ 14 → c ≠ 15 → adL σ 13 t m s c = σ c := fun c g1 g2 g3 => by unfold adL; rw [sup_c _ _ g1, sup_c _ _ (show c ≠ 13 + 2 by omega), sup_c _ _ (show c ≠ 13 + 1 by omega)]
  refine ⟨?_, ?_, ?_, ?_, ?_⟩
  · exact SVn.congr (fun c h1 => qc c (by omega) (by omega) (by omega)) hV.n
  · intro i
    obtain ⟨h1, h2, h3, h4, h5⟩ := hV.t i
    rw [qc 10 (by decide) (by decide) (by decide), qc 11 (by decide) (by decide) (by decide), qc 12 (by decide) (by decide) (by decide), qc 0 (by decide) (by decide) (by decide)]
    by_cases e : i = t
    · subst e
      rw [q13, q14, q15]
      exact ⟨h1, h2, h3, RR_app h4 (by have := h4.1; omega) hm hs, fun h9 => by omega⟩
    · rw [qi 13 i e, qi 14 i e, qi 15 i e]
      exact ⟨h1, h2, h3, h4, h5⟩
  · exact SVu.congr (qc 1 (by decide) (by decide) (by decide)) (fun c h1 h2 => qc c (by omega) (by omega) (by omega)) hV.2.2.1
  · exact SVf.congr (qc 2 (by decide) (by decide) (by decide)) (fun c h1 h2 => qc c (by omega) (by omega) (by omega)) hV.f
  · exact SVs.congr (by rw [qc 0 (by decide) (by decide) (by decide)]; exact Int.le_refl _) (by rw [qc 1 (by decide) (by decide) (by decide)]; exact Int.le_refl _) (qc 3 (by decide) (by decide) (by decide)) (fun c h1 h2 => qc c (by omega) (by omega) (by omega)) hV.s

theorem SV_liU {σ : SG} (hV : SV σ) {t : Nat} {m s : Int} (ht : (t : Int) < σ 1 0 0) (hn : σ 24 t 0 ≠ 8) (hm : 1 ≤ m ∧ m ≤ 12) (hs : 0 ≤ s ∧ s ≤ 4095) : SV (adL σ 24 t m s) := by
  have q13 : adL σ 24 t m s 24 t 0 = σ 24 t 0 + 1 := sup_s _ _ _ _ _
  have q14 : adL σ 24 t m s 25 t = iu (σ 25 t) (σ 24 t 0).toNat m := by
    unfold adL
    rw [sup_c _ _ (by decide), sup_c _ _ (by decide), sup_iu]
  have q15 : adL σ 24 t m s 26 t = iu (σ 26 t) (σ 24 t 0).toNat s := by
    unfold adL
    rw [sup_c _ _ (by decide), sup_iu, sup_c _ _ (by decide)]
  have qi : ∀ c i, i ≠ t → adL σ 24 t m s c i = σ c i := fun c i g => by unfold adL; rw [sup_i _ _ g, sup_i _ _ g, sup_i _ _ g]
  have qc : ∀ c, c ≠ 24 → c ≠ 25 → c ≠ 26 → adL σ 24 t m s c = σ c := fun c g1 g2 g3 => by unfold adL; rw [sup_c _ _ g1, sup_c _ _ (show c ≠ 24 + 2 by omega), sup_c _ _ (show c ≠ 24 + 1 by omega)]
  refine ⟨?_, ?_, ?_, ?_, ?_⟩
  · exact SVn.congr (fun c h1 => qc c (by omega) (by omega) (by omega)) hV.n
  · exact SVt.congr (qc 0 (by decide) (by decide) (by decide)) (fun c h1 h2 => qc c (by omega) (by omega) (by omega)) hV.2.1
  · intro i
    obtain ⟨h1, h2, h3, h4, h5, h6⟩ := hV.u i
    rw [qc 20 (by decide) (by decide) (by decide), qc 21 (by decide) (by decide) (by decide), qc 22 (by decide) (by decide) (by decide), qc 23 (by decide) (by decide) (by decide), qc 1 (by decide) (by decide) (by decide)]
    by_cases e : i = t
    · subst e
      rw [q13, q14, q15]
      exact ⟨h1, h2, h3, h4, RR_app h5 (by have := h5.1; omega) hm hs, fun h9 => by omega⟩
    · rw [qi 24 i e, qi 25 i e, qi 26 i e]
      exact ⟨h1, h2, h3, h4, h5, h6⟩
  · exact SVf.congr (qc 2 (by decide) (by decide) (by decide)) (fun c h1 h2 => qc c (by omega) (by omega) (by omega)) hV.f
  · exact SVs.congr (by rw [qc 0 (by decide) (by decide) (by decide)]; exact Int.le_refl _) (by rw [qc 1 (by decide) (by decide) (by decide)]; exact Int.le_refl _) (qc 3 (by decide) (by decide) (by decide)) (fun c h1 h2 => qc c (by omega) (by omega) (by omega)) hV.s

theorem adF_c {σ : SG} {r po mo dy mv : Int} (c : Nat) (g1 : c ≠ 2) (g2 : c ≠ 30) (g3 : c ≠ 31) (g4 : c ≠ 32) (g5 : c ≠ 33) (g6 : c ≠ 34) : adF σ r po mo dy mv c = σ c := by
  unfold adF
  rw [sup_c _ _ g1, sup_c _ _ g6, sup_c _ _ g5, sup_c _ _ g4, sup_c _ _ g3, sup_c _ _ g2]
theorem adF_i {σ : SG} {r po mo dy mv : Int} {c i : Nat} (hc : c ≠ 2) (hi : i ≠ (σ 2 0 0).toNat) : adF σ r po mo dy mv c i = σ c i := by
  unfold adF
  rw [sup_c _ _ hc, sup_i _ _ hi, sup_i _ _ hi, sup_i _ _ hi, sup_i _ _ hi, sup_i _ _ hi]
theorem adF_v {σ : SG} {r po mo dy mv : Int} : adF σ r po mo dy mv 30 (σ 2 0 0).toNat 0 = r ∧ adF σ r po mo dy mv 31 (σ 2 0 0).toNat 0 = po ∧ adF σ r po mo dy mv 32 (σ 2 0 0).toNat 0 = mo ∧ adF σ r po mo dy mv 33 (σ 2 0 0).toNat 0 = dy ∧ adF σ r po mo dy mv 34 (σ 2 0 0).toNat 0 = mv ∧ adF σ r po mo dy mv 2 0 0 = σ 2 0 0 + 1 := by
  unfold adF
  refine ⟨?_, ?_, ?_, ?_, ?_, sup_s _ _ _ _ _⟩
  · rw [sup_c _ _ (by decide), sup_c _ _ (by decide), sup_c _ _ (by decide), sup_c _ _ (by decide), sup_c _ _ (by decide), sup_s]
  · rw [sup_c _ _ (by decide), sup_c _ _ (by decide), sup_c _ _ (by decide), sup_c _ _ (by decide), sup_s]
  · rw [sup_c _ _ (by decide), sup_c _ _ (by decide), sup_c _ _ (by decide), sup_s]
  · rw [sup_c _ _ (by decide), sup_c _ _ (by decide), sup_s]
  · rw [sup_c _ _ (by decide), sup_s]
theorem adS_c {σ : SG} {t u y p : Int} (c : Nat) (g1 : c ≠ 3) (g2 : c ≠ 40) (g3 : c ≠ 41) (g4 : c ≠ 42) (g5 : c ≠ 43) : adS σ t u y p c = σ c := by
  unfold adS
  rw [sup_c _ _ g1, sup_c _ _ g5, sup_c _ _ g4, sup_c _ _ g3, sup_c _ _ g2]
theorem adS_i {σ : SG} {t u y p : Int} {c i : Nat} (hc : c ≠ 3) (hi : i ≠ (σ 3 0 0).toNat) : adS σ t u y p c i = σ c i := by
  unfold adS
  rw [sup_c _ _ hc, sup_i _ _ hi, sup_i _ _ hi, sup_i _ _ hi, sup_i _ _ hi]
theorem adS_v {σ : SG} {t u y p : Int} : adS σ t u y p 40 (σ 3 0 0).toNat 0 = t ∧ adS σ t u y p 41 (σ 3 0 0).toNat 0 = u ∧ adS σ t u y p 42 (σ 3 0 0).toNat 0 = y ∧ adS σ t u y p 43 (σ 3 0 0).toNat 0 = p ∧ adS σ t u y p 3 0 0 = σ 3 0 0 + 1 := by
  unfold adS
  refine ⟨?_, ?_, ?_, ?_, sup_s _ _ _ _ _⟩
  · rw [sup_c _ _ (by decide), sup_c _ _ (by decide), sup_c _ _ (by decide), sup_c _ _ (by decide), sup_s]
  · rw [sup_c _ _ (by decide), sup_c _ _ (by decide), sup_c _ _ (by decide), sup_s]
  · rw [sup_c _ _ (by decide), sup_c _ _ (by decide), sup_s]
  · rw [sup_c _ _ (by decide), sup_s]

theorem SV_adF {σ : SG} (hV : SV σ) {r po mo dy mv : Int} (hF : FR r po mo dy) (hm : mv = bZ (mo = 0)) (hn : σ 2 0 0 ≠ 20) : SV (adF σ r po mo dy mv) := by
  have hn2 := hV.n.2.2.1
  refine ⟨?_, ?_, ?_, ?_, ?_⟩
  · obtain ⟨h0, h1, h2, h3, h4⟩ := hV.n
    unfold SVn
    rw [adF_v.2.2.2.2.2, adF_c 0 (by decide) (by decide) (by decide) (by decide) (by decide) (by decide), adF_c 1 (by decide) (by decide) (by decide) (by decide) (by decide) (by decide), adF_c 3 (by decide) (by decide) (by decide) (by decide) (by decide) (by decide), adF_c 4 (by decide) (by decide) (by decide) (by decide) (by decide) (by decide)]
    exact ⟨h0, h1, by omega, h3, h4⟩
  · exact SVt.congr (adF_c 0 (by decide) (by decide) (by decide) (by decide) (by decide) (by decide)) (fun c h1 h2 => adF_c c (by omega) (by omega) (by omega) (by omega) (by omega) (by omega)) hV.2.1
  · exact SVu.congr (adF_c 1 (by decide) (by decide) (by decide) (by decide) (by decide) (by decide)) (fun c h1 h2 => adF_c c (by omega) (by omega) (by omega) (by omega) (by omega) (by omega)) hV.2.2.1
  · obtain ⟨h1, h2, h3⟩ := hV.f
    unfold SVf
    rw [adF_v.2.2.2.2.2, adF_c 35 (by decide) (by decide) (by decide) (by decide) (by decide) (by decide)]
    refine ⟨fun i hi => ?_, h2, fun i k q1 q2 => h3 i k (by omega) q2⟩
    by_cases e : i = (σ 2 0 0).toNat
    · rw [e, adF_v.1, adF_v.2.1, adF_v.2.2.1, adF_v.2.2.2.1, adF_v.2.2.2.2.1]
      exact ⟨hF, hm⟩
    · rw [adF_i (by decide) e, adF_i (by decide) e, adF_i (by decide) e, adF_i (by decide) e, adF_i (by decide) e]
      exact h1 i (by omega)
  · exact SVs.congr (by rw [adF_c 0 (by decide) (by decide) (by decide) (by decide) (by decide) (by decide)]; exact Int.le_refl _) (by rw [adF_c 1 (by decide) (by decide) (by decide) (by decide) (by decide) (by decide)]; exact Int.le_refl _) (adF_c 3 (by decide) (by decide) (by decide) (by decide) (by decide) (by decide)) (fun c h1 h2 => adF_c c (by omega) (by omega) (by omega) (by omega) (by omega) (by omega)) hV.s

theorem SV_adS {σ : SG} (hV : SV σ) {t u y p : Int} (ht : 0 ≤ t ∧ t < σ 0 0 0) (hu : 0 ≤ u ∧ u < σ 1 0 0) (hy : 1600 ≤ y ∧ y ≤ 2399) (hp : 0 ≤ p ∧ p < ylenZ y) (hn : σ 3 0 0 ≠ 60) : SV (adS σ t u y p) := by
  have hn2 := hV.n.2.2.2.1
  refine ⟨?_, ?_, ?_, ?_, ?_⟩
  · obtain ⟨h0, h1, h2, h3, h4⟩ := hV.n
    unfold SVn
    rw [adS_v.2.2.2.2, adS_c 0 (by decide) (by decide) (by decide) (by decide) (by decide), adS_c 1 (by decide) (by decide) (by decide) (by decide) (by decide), adS_c 2 (by decide) (by decide) (by decide) (by decide) (by decide), adS_c 4 (by decide) (by decide) (by decide) (by decide) (by decide)]
    exact ⟨h0, h1, h2, by omega, h4⟩
  · exact SVt.congr (adS_c 0 (by decide) (by decide) (by decide) (by decide) (by decide)) (fun c h1 h2 => adS_c c (by omega) (by omega) (by omega) (by omega) (by omega)) hV.2.1
  · exact SVu.congr (adS_c 1 (by decide) (by decide) (by decide) (by decide) (by decide)) (fun c h1 h2 => adS_c c (by omega) (by omega) (by omega) (by omega) (by omega)) hV.2.2.1
  · exact SVf.congr (adS_c 2 (by decide) (by decide) (by decide) (by decide) (by decide)) (fun c h1 h2 => adS_c c (by omega) (by omega) (by omega) (by omega) (by omega)) hV.f
  · intro i hi
    rw [adS_v.2.2.2.2] at hi
    rw [adS_c 0 (by decide) (by decide) (by decide) (by decide) (by decide), adS_c 1 (by decide) (by decide) (by decide) (by decide) (by decide)]
    by_cases e : i = (σ 3 0 0).toNat
    · rw [e, adS_v.1, adS_v.2.1, adS_v.2.2.1, adS_v.2.2.2.1]
      exact ⟨ht, hu, hy, hp⟩
    · rw [adS_i (by decide) e, adS_i (by decide) e, adS_i (by decide) e, adS_i (by decide) e]
      exact hV.s i (by omega)
