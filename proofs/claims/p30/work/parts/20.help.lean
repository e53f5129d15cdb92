/-! the system's own helpers -/
theorem fit0a {σ : SG} (hV : SV σ) (t u : Nat) (h : σ 13 t 0 = 0) : fitZ σ t u = 0 := by
  unfold fitZ
  split
  · rfl
  · split
    · omega
    · split
      · omega
      · rfl
theorem fit0b {σ : SG} (t u : Nat) (h : ¬ ∀ k : Nat, k < (σ 24 u 0).toNat → σ 14 t k = σ 25 u k) : fitZ σ t u = 0 := by
  unfold fitZ
  split
  · rfl
  · split
    · rename_i h1; exact absurd h1.2 h
    · split
      · rename_i h1; exact absurd (fun k hk => (h1.2 k hk).1) h
      · rfl
theorem fit1 {σ : SG} (t u : Nat) (h : ∀ k : Nat, k < (σ 24 u 0).toNat → σ 14 t k = σ 25 u k) (h1 : σ 13 t 0 = σ 24 u 0) (h2 : 0 < σ 24 u 0) : fitZ σ t u = 1 := by
  unfold fitZ
  rw [if_neg (by omega), if_pos ⟨h1, h⟩]
theorem fit2 {σ : SG} (t u : Nat) (h : ∀ k : Nat, k < (σ 24 u 0).toNat → σ 14 t k = σ 25 u k) (h1 : σ 13 t 0 = 2 * σ 24 u 0) (h2 : 0 < σ 24 u 0) (h3 : ∀ k : Nat, k < (σ 24 u 0).toNat → σ 14 t (k + (σ 24 u 0).toNat) = σ 25 u k) : fitZ σ t u = 2 := by
  unfold fitZ
  rw [if_neg (by omega), if_neg (by omega), if_pos ⟨h1, fun k hk => ⟨h k hk, h3 k hk⟩⟩]
theorem fit0c {σ : SG} (t u : Nat) (h : ¬ σ 13 t 0 = σ 24 u 0) (h1 : ¬ (σ 13 t 0 = 2 * σ 24 u 0 ∧ ∀ k : Nat, k < (σ 24 u 0).toNat → σ 14 t (k + (σ 24 u 0).toNat) = σ 25 u k)) : fitZ σ t u = 0 := by
  unfold fitZ
  split
  · rfl
  · rw [if_neg (fun h9 => h h9.1), if_neg (fun h9 => h1 ⟨h9.1, fun k hk => (h9.2 k hk).2⟩)]

def sp_X9_requireRange : hS := fun as M sz K => ∃ (v lo hi : Int), as = [.int (iZ v), .int (iZ lo), .int (iZ hi)] ∧ inR v ∧ inR lo ∧ inR hi ∧ (lo ≤ v ∧ v ≤ hi → K (.inl none) M sz) ∧ (¬ (lo ≤ v ∧ v ≤ hi) → ∀ s9, sz ≤ s9 → K (.inr tIAE) M s9)
theorem s_X9_requireRange {l : Launch} {g : hG} (hst : l.stackTraces = false) : Ctr l g mX9_requireRange sp_X9_requireRange := by
  refine Ctr.mk9 hst (by decide) ?_ ?_
  · rintro as M sz K ⟨v, lo, hi, rfl, h1, h2, h3, hK, hKx⟩
    exact ⟨by simp [mX9_requireRange], cat_ok rfl⟩
  rintro X as M sz K hX rfl rfl hR ⟨v, lo, hi, rfl, h1, h2, h3, hK, hKx⟩
  show G X 0 [.int (iZ v), .int (iZ lo), .int (iZ hi)] [] M sz 0 0
  refine g_iload hX dX9_requireRange_0 rfl ?_
  refine g_iload hX dX9_requireRange_1 rfl ?_
  refine z_icmp_lt hX dX9_requireRange_2 (by assumption) (by assumption) (fun c2 => ?_) (fun c2 => ?_)
  · refine g_throw hX hR dX9_requireRange_10 (by decide) (by decide) (fun sz9 hsz9 => ?_)
    exact hKx (by omega) _ hsz9
  · refine g_iload hX dX9_requireRange_5 rfl ?_
    refine g_iload hX dX9_requireRange_6 rfl ?_
    refine z_icmp_le hX dX9_requireRange_7 (by assumption) (by assumption) (fun c7 => ?_) (fun c7 => ?_)
    · refine g_vret hX hR dX9_requireRange_21 rfl (by decide) (by decide) ?_
      exact hK (by omega)
    · refine g_throw hX hR dX9_requireRange_10 (by decide) (by decide) (fun sz9 hsz9 => ?_)
      exact hKx (by omega) _ hsz9

def sp_X9_requireIndex : hS := fun as M sz K => ∃ (v n : Int), as = [.int (iZ v), .int (iZ n)] ∧ inR v ∧ (0 ≤ n ∧ n ≤ 1000) ∧ (0 ≤ v ∧ v < n → K (.inl none) M sz) ∧ (¬ (0 ≤ v ∧ v < n) → ∀ s9, sz ≤ s9 → K (.inr tIOB) M s9)
theorem s_X9_requireIndex {l : Launch} {g : hG} (hst : l.stackTraces = false) : Ctr l g mX9_requireIndex sp_X9_requireIndex := by
  refine Ctr.mk9 hst (by decide) ?_ ?_
  · rintro as M sz K ⟨v, n, rfl, h1, h2, hK, hKx⟩
    exact ⟨by simp [mX9_requireIndex], cat_ok rfl⟩
  rintro X as M sz K hX rfl rfl hR ⟨v, n, rfl, h1, h2, hK, hKx⟩
  show G X 0 [.int (iZ v), .int (iZ n)] [] M sz 0 0
  refine g_iload hX dX9_requireIndex_0 rfl ?_
  refine z_if_lt hX dX9_requireIndex_1 (by first | assumption | (constructor <;> omega)) (fun c1 => ?_) (fun c1 => ?_)
  · refine g_throw hX hR dX9_requireIndex_9 (by decide) (by decide) (fun sz9 hsz9 => ?_)
    exact hKx (by omega) _ hsz9
  · refine g_iload hX dX9_requireIndex_4 rfl ?_
    refine g_iload hX dX9_requireIndex_5 rfl ?_
    refine z_icmp_lt hX dX9_requireIndex_6 (by first | assumption | (constructor <;> omega)) (by first | assumption | (constructor <;> omega)) (fun c6 => ?_) (fun c6 => ?_)
    · refine g_vret hX hR dX9_requireIndex_20 rfl (by decide) (by decide) ?_
      exact hK (by omega)
    · refine g_throw hX hR dX9_requireIndex_9 (by decide) (by decide) (fun sz9 hsz9 => ?_)
      exact hKx (by omega) _ hsz9

def sp_X9_requireDay : hS := fun as M sz K => ∃ (y m d : Int), as = [.int (iZ y), .int (iZ m), .int (iZ d)] ∧ inR y ∧ inR m ∧ inR d ∧ (dayOK y m d → K (.inl none) M sz) ∧ (¬ dayOK y m d → ∀ s9, sz ≤ s9 → K (.inr tIAE) M s9)
theorem s_X9_requireDay {l : Launch} {g : hG} (hst : l.stackTraces = false) : Ctr l g mX9_requireDay sp_X9_requireDay := by
  refine Ctr.mk9 hst (by decide) ?_ ?_
  · rintro as M sz K ⟨y, m, d, rfl, h1, h2, h3, hK, hKx⟩
    exact ⟨by simp [mX9_requireDay], cat_ok rfl⟩
  rintro X as M sz K hX rfl rfl hR ⟨y, m, d, rfl, h1, h2, h3, hK, hKx⟩
  show G X 0 [.int (iZ y), .int (iZ m), .int (iZ d)] [] M sz 0 0
  refine g_iload hX dX9_requireDay_0 rfl ?_
  refine g_const hX dX9_requireDay_1 ?_
  refine g_const hX dX9_requireDay_4 ?_
  refine g_cS3 (c2 := 1) (s2 := 6) hX (s_X9_requireRange hst) dX9_requireDay_7 (by first | exact Nat.le_of_ble_eq_true rfl | simp [cat_rf, Value.category]) ⟨rfl, rfl, by decide, by decide⟩ ?_
  refine ⟨_, _, _, rfl, h1, by constructor <;> omega, by constructor <;> omega, fun q1 => Kc_v ?_, fun h9 s9 hs9 => Kc_x (gx_out hX hR rfl (by decide) (by decide) (hKx (fun g9 => h9 g9.1) _ hs9))⟩
  refine g_iload hX dX9_requireDay_10 rfl ?_
  refine g_const hX dX9_requireDay_11 ?_
  refine g_const hX dX9_requireDay_12 ?_
  refine g_cS3 (c2 := 2) (s2 := 12) hX (s_X9_requireRange hst) dX9_requireDay_14 (by first | exact Nat.le_of_ble_eq_true rfl | simp [cat_rf, Value.category]) ⟨rfl, rfl, by decide, by decide⟩ ?_
  refine ⟨_, _, _, rfl, h2, by constructor <;> omega, by constructor <;> omega, fun q2 => Kc_v ?_, fun h9 s9 hs9 => Kc_x (gx_out hX hR rfl (by decide) (by decide) (hKx (fun g9 => h9 g9.2.1) _ hs9))⟩
  refine g_iload hX dX9_requireDay_17 rfl ?_
  refine g_const hX dX9_requireDay_18 ?_
  refine g_iload hX dX9_requireDay_19 rfl ?_
  refine g_iload hX dX9_requireDay_20 rfl ?_
  refine g_cSN2 (c2 := 2) (s2 := 12) hX (s_X0_monthLength hst) dX9_requireDay_21 (by first | exact Nat.le_of_ble_eq_true rfl | simp [cat_rf, Value.category]) ⟨rfl, rfl, by decide, by decide⟩ ?_
  refine ⟨_, _, rfl, by omega, by constructor <;> omega, Kc_i ?_⟩
  have hml := mlen_r y m
  refine g_cS3 (c2 := 3) (s2 := 18) hX (s_X9_requireRange hst) dX9_requireDay_24 (by first | exact Nat.le_of_ble_eq_true rfl | simp [cat_rf, Value.category]) ⟨rfl, rfl, by decide, by decide⟩ ?_
  refine ⟨_, _, _, rfl, h3, by constructor <;> omega, by constructor <;> omega, fun q3 => Kc_v ?_, fun h9 s9 hs9 => Kc_x (gx_out hX hR rfl (by decide) (by decide) (hKx (fun g9 => h9 g9.2.2) _ hs9))⟩
  refine g_vret hX hR dX9_requireDay_27 rfl (by decide) (by decide) ?_
  exact hK ⟨q1, q2, q3⟩

def sp_X9_textAt (g : hG) : hS := fun as M sz K => ∃ (h : Nat) (A : Nat → Nat → Nat) (ow : Nat → Nat × Nat) (σ : SG) (τ : Nat → Nat → Int) (i : Int), as = [.ref h, .int (iZ i)] ∧ HX g.2.2.2.2 h A ow σ τ M ∧ SV σ ∧ inR i ∧ (0 ≤ i ∧ i < σ 0 0 0 → K (.inl (some (.ref (A 7 i.toNat)))) M sz) ∧ (¬ (0 ≤ i ∧ i < σ 0 0 0) → ∀ s9, sz ≤ s9 → K (.inr tIOB) M s9)
theorem s_X9_textAt {l : Launch} {g : hG} (hst : l.stackTraces = false) : Ctr l g mX9_textAt (sp_X9_textAt g) := by
  refine Ctr.mk9 hst (by decide) ?_ ?_
  · rintro as M sz K ⟨h, A, ow, σ, τ, i, rfl, hH, hV, hi, hK, hKx⟩
    exact ⟨by simp [mX9_textAt], cat_ok rfl⟩
  rintro X as M sz K hX rfl rfl hR ⟨h, A, ow, σ, τ, i, rfl, hH, hV, hi, hK, hKx⟩
  show G X 0 [.ref h, .int (iZ i)] [] M sz 0 0
  obtain ⟨n0, n1, n2, n3, ⟨e0, hn0⟩, ⟨e1, hn1⟩, ⟨e2, hn2⟩, ⟨e3, hn3⟩⟩ := hV.nat
  have hob := hH.ob
  have hl0 := hH.l0 e0
  obtain ⟨mo0, ho0⟩ := hl0.o
  have hl1 := hH.l1 e1
  obtain ⟨mo1, ho1⟩ := hl1.o
  have hl2 := hH.l2 e2
  obtain ⟨mo2, ho2⟩ := hl2.o
  have hl3 := hH.l3 e3
  obtain ⟨mo3, ho3⟩ := hl3.o
  refine g_iload hX dX9_textAt_0 rfl ?_
  refine g_aload hX dX9_textAt_1 rfl rfl ?_
  refine g_get hX dX9_textAt_2 (by first | exact hob | exact ho0 | exact ho1 | exact ho2 | exact ho3 | exact hH.tx (by omega) | exact hH.ux (by omega) | exact hH.fx (by omega) | exact hH.sx (by omega) | exact hH.tr (by omega) | exact hH.ur (by omega) | exact (hH.tw (by omega)).1 | exact (hH.uw (by omega)).1 | exact hH.fr (by omega) | exact hH.pl.1) rfl ?_
  refine g_cV0 (c2 := 0) (s2 := 0) hX (s_Jx4a65c_size_8abf5 hst) dX9_textAt_5 (by first | exact hob | exact ho0 | exact ho1 | exact ho2 | exact ho3 | exact hH.tx (by omega) | exact hH.ux (by omega) | exact hH.fx (by omega) | exact hH.sx (by omega) | exact hH.tr (by omega) | exact hH.ur (by omega) | exact (hH.tw (by omega)).1 | exact (hH.uw (by omega)).1 | exact hH.fr (by omega) | exact hH.pl.1) (by first | exact Nat.le_of_ble_eq_true rfl | simp [cat_rf, Value.category]) ⟨rfl, rfl, by decide, by decide⟩ ?_
  refine ⟨_, _, _, _, _, rfl, hl0, Kc_i ?_⟩
  refine g_cS2 (c2 := 1) (s2 := 6) hX (s_X9_requireIndex hst) dX9_textAt_8 (by first | exact Nat.le_of_ble_eq_true rfl | simp [cat_rf, Value.category]) ⟨rfl, rfl, by decide, by decide⟩ ?_
  refine ⟨_, _, rfl, hi, by omega, fun q1 => Kc_v ?_, fun h9 s9 hs9 => Kc_x (gx_out hX hR rfl (by decide) (by decide) (hKx (by omega) _ hs9))⟩
  refine g_aload hX dX9_textAt_11 rfl rfl ?_
  refine g_get hX dX9_textAt_12 (by first | exact hob | exact ho0 | exact ho1 | exact ho2 | exact ho3 | exact hH.tx (by omega) | exact hH.ux (by omega) | exact hH.fx (by omega) | exact hH.sx (by omega) | exact hH.tr (by omega) | exact hH.ur (by omega) | exact (hH.tw (by omega)).1 | exact (hH.uw (by omega)).1 | exact hH.fr (by omega) | exact hH.pl.1) rfl ?_
  refine g_iload hX dX9_textAt_15 rfl ?_
  refine g_cV1 (c2 := 1) (s2 := 6) hX (s_Jx4a65c_get_915e3 hst) dX9_textAt_16 (by first | exact hob | exact ho0 | exact ho1 | exact ho2 | exact ho3 | exact hH.tx (by omega) | exact hH.ux (by omega) | exact hH.fx (by omega) | exact hH.sx (by omega) | exact hH.tr (by omega) | exact hH.ur (by omega) | exact (hH.tw (by omega)).1 | exact (hH.uw (by omega)).1 | exact hH.fr (by omega) | exact hH.pl.1) (by first | exact Nat.le_of_ble_eq_true rfl | simp [cat_rf, Value.category]) ⟨rfl, rfl, by decide, by decide⟩ ?_
  refine ⟨_, _, _, _, _, _, rfl, hl0, by omega, Kc_i ?_⟩
  refine g_cast hX dX9_textAt_19 (by first | exact hob | exact ho0 | exact ho1 | exact ho2 | exact ho3 | exact hH.tx (by omega) | exact hH.ux (by omega) | exact hH.fx (by omega) | exact hH.sx (by omega) | exact hH.tr (by omega) | exact hH.ur (by omega) | exact (hH.tw (by omega)).1 | exact (hH.uw (by omega)).1 | exact hH.fr (by omega) | exact hH.pl.1) ?_
  refine g_aret hX hR dX9_textAt_22 rfl (by first | exact Or.inl ⟨_, rfl⟩ | exact Or.inr ⟨_, rfl⟩) (by first | rfl | exact isRefV_rf _) (by decide) (by decide) ?_
  exact hK (by omega)

def sp_X9_tuneAt (g : hG) : hS := fun as M sz K => ∃ (h : Nat) (A : Nat → Nat → Nat) (ow : Nat → Nat × Nat) (σ : SG) (τ : Nat → Nat → Int) (i : Int), as = [.ref h, .int (iZ i)] ∧ HX g.2.2.2.2 h A ow σ τ M ∧ SV σ ∧ inR i ∧ (0 ≤ i ∧ i < σ 1 0 0 → K (.inl (some (.ref (A 12 i.toNat)))) M sz) ∧ (¬ (0 ≤ i ∧ i < σ 1 0 0) → ∀ s9, sz ≤ s9 → K (.inr tIOB) M s9)
theorem s_X9_tuneAt {l : Launch} {g : hG} (hst : l.stackTraces = false) : Ctr l g mX9_tuneAt (sp_X9_tuneAt g) := by
  refine Ctr.mk9 hst (by decide) ?_ ?_
  · rintro as M sz K ⟨h, A, ow, σ, τ, i, rfl, hH, hV, hi, hK, hKx⟩
    exact ⟨by simp [mX9_tuneAt], cat_ok rfl⟩
  rintro X as M sz K hX rfl rfl hR ⟨h, A, ow, σ, τ, i, rfl, hH, hV, hi, hK, hKx⟩
  show G X 0 [.ref h, .int (iZ i)] [] M sz 0 0
  obtain ⟨n0, n1, n2, n3, ⟨e0, hn0⟩, ⟨e1, hn1⟩, ⟨e2, hn2⟩, ⟨e3, hn3⟩⟩ := hV.nat
  have hob := hH.ob
  have hl0 := hH.l0 e0
  obtain ⟨mo0, ho0⟩ := hl0.o
  have hl1 := hH.l1 e1
  obtain ⟨mo1, ho1⟩ := hl1.o
  have hl2 := hH.l2 e2
  obtain ⟨mo2, ho2⟩ := hl2.o
  have hl3 := hH.l3 e3
  obtain ⟨mo3, ho3⟩ := hl3.o
  refine g_iload hX dX9_tuneAt_0 rfl ?_
  refine g_aload hX dX9_tuneAt_1 rfl rfl ?_
  refine g_get hX dX9_tuneAt_2 (by first | exact hob | exact ho0 | exact ho1 | exact ho2 | exact ho3 | exact hH.tx (by omega) | exact hH.ux (by omega) | exact hH.fx (by omega) | exact hH.sx (by omega) | exact hH.tr (by omega) | exact hH.ur (by omega) | exact (hH.tw (by omega)).1 | exact (hH.uw (by omega)).1 | exact hH.fr (by omega) | exact hH.pl.1) rfl ?_
  refine g_cV0 (c2 := 0) (s2 := 0) hX (s_Jx4a65c_size_8abf5 hst) dX9_tuneAt_5 (by first | exact hob | exact ho0 | exact ho1 | exact ho2 | exact ho3 | exact hH.tx (by omega) | exact hH.ux (by omega) | exact hH.fx (by omega) | exact hH.sx (by omega) | exact hH.tr (by omega) | exact hH.ur (by omega) | exact (hH.tw (by omega)).1 | exact (hH.uw (by omega)).1 | exact hH.fr (by omega) | exact hH.pl.1) (by first | exact Nat.le_of_ble_eq_true rfl | simp [cat_rf, Value.category]) ⟨rfl, rfl, by decide, by decide⟩ ?_
  refine ⟨_, _, _, _, _, rfl, hl1, Kc_i ?_⟩
  refine g_cS2 (c2 := 1) (s2 := 6) hX (s_X9_requireIndex hst) dX9_tuneAt_8 (by first | exact Nat.le_of_ble_eq_true rfl | simp [cat_rf, Value.category]) ⟨rfl, rfl, by decide, by decide⟩ ?_
  refine ⟨_, _, rfl, hi, by omega, fun q1 => Kc_v ?_, fun h9 s9 hs9 => Kc_x (gx_out hX hR rfl (by decide) (by decide) (hKx (by omega) _ hs9))⟩
  refine g_aload hX dX9_tuneAt_11 rfl rfl ?_
  refine g_get hX dX9_tuneAt_12 (by first | exact hob | exact ho0 | exact ho1 | exact ho2 | exact ho3 | exact hH.tx (by omega) | exact hH.ux (by omega) | exact hH.fx (by omega) | exact hH.sx (by omega) | exact hH.tr (by omega) | exact hH.ur (by omega) | exact (hH.tw (by omega)).1 | exact (hH.uw (by omega)).1 | exact hH.fr (by omega) | exact hH.pl.1) rfl ?_
  refine g_iload hX dX9_tuneAt_15 rfl ?_
  refine g_cV1 (c2 := 1) (s2 := 6) hX (s_Jx4a65c_get_915e3 hst) dX9_tuneAt_16 (by first | exact hob | exact ho0 | exact ho1 | exact ho2 | exact ho3 | exact hH.tx (by omega) | exact hH.ux (by omega) | exact hH.fx (by omega) | exact hH.sx (by omega) | exact hH.tr (by omega) | exact hH.ur (by omega) | exact (hH.tw (by omega)).1 | exact (hH.uw (by omega)).1 | exact hH.fr (by omega) | exact hH.pl.1) (by first | exact Nat.le_of_ble_eq_true rfl | simp [cat_rf, Value.category]) ⟨rfl, rfl, by decide, by decide⟩ ?_
  refine ⟨_, _, _, _, _, _, rfl, hl1, by omega, Kc_i ?_⟩
  refine g_cast hX dX9_tuneAt_19 (by first | exact hob | exact ho0 | exact ho1 | exact ho2 | exact ho3 | exact hH.tx (by omega) | exact hH.ux (by omega) | exact hH.fx (by omega) | exact hH.sx (by omega) | exact hH.tr (by omega) | exact hH.ur (by omega) | exact (hH.tw (by omega)).1 | exact (hH.uw (by omega)).1 | exact hH.fr (by omega) | exact hH.pl.1) ?_
  refine g_aret hX hR dX9_tuneAt_22 rfl (by first | exact Or.inl ⟨_, rfl⟩ | exact Or.inr ⟨_, rfl⟩) (by first | rfl | exact isRefV_rf _) (by decide) (by decide) ?_
  exact hK (by omega)

def sp_X9_feastAt (g : hG) : hS := fun as M sz K => ∃ (h : Nat) (A : Nat → Nat → Nat) (ow : Nat → Nat × Nat) (σ : SG) (τ : Nat → Nat → Int) (i : Int), as = [.ref h, .int (iZ i)] ∧ HX g.2.2.2.2 h A ow σ τ M ∧ SV σ ∧ inR i ∧ (0 ≤ i ∧ i < σ 2 0 0 → K (.inl (some (.ref (A 17 i.toNat)))) M sz) ∧ (¬ (0 ≤ i ∧ i < σ 2 0 0) → ∀ s9, sz ≤ s9 → K (.inr tIOB) M s9)
theorem s_X9_feastAt {l : Launch} {g : hG} (hst : l.stackTraces = false) : Ctr l g mX9_feastAt (sp_X9_feastAt g) := by
  refine Ctr.mk9 hst (by decide) ?_ ?_
  · rintro as M sz K ⟨h, A, ow, σ, τ, i, rfl, hH, hV, hi, hK, hKx⟩
    exact ⟨by simp [mX9_feastAt], cat_ok rfl⟩
  rintro X as M sz K hX rfl rfl hR ⟨h, A, ow, σ, τ, i, rfl, hH, hV, hi, hK, hKx⟩
  show G X 0 [.ref h, .int (iZ i)] [] M sz 0 0
  obtain ⟨n0, n1, n2, n3, ⟨e0, hn0⟩, ⟨e1, hn1⟩, ⟨e2, hn2⟩, ⟨e3, hn3⟩⟩ := hV.nat
  have hob := hH.ob
  have hl0 := hH.l0 e0
  obtain ⟨mo0, ho0⟩ := hl0.o
  have hl1 := hH.l1 e1
  obtain ⟨mo1, ho1⟩ := hl1.o
  have hl2 := hH.l2 e2
  obtain ⟨mo2, ho2⟩ := hl2.o
  have hl3 := hH.l3 e3
  obtain ⟨mo3, ho3⟩ := hl3.o
  refine g_iload hX dX9_feastAt_0 rfl ?_
  refine g_aload hX dX9_feastAt_1 rfl rfl ?_
  refine g_get hX dX9_feastAt_2 (by first | exact hob | exact ho0 | exact ho1 | exact ho2 | exact ho3 | exact hH.tx (by omega) | exact hH.ux (by omega) | exact hH.fx (by omega) | exact hH.sx (by omega) | exact hH.tr (by omega) | exact hH.ur (by omega) | exact (hH.tw (by omega)).1 | exact (hH.uw (by omega)).1 | exact hH.fr (by omega) | exact hH.pl.1) rfl ?_
  refine g_cV0 (c2 := 0) (s2 := 0) hX (s_Jx4a65c_size_8abf5 hst) dX9_feastAt_5 (by first | exact hob | exact ho0 | exact ho1 | exact ho2 | exact ho3 | exact hH.tx (by omega) | exact hH.ux (by omega) | exact hH.fx (by omega) | exact hH.sx (by omega) | exact hH.tr (by omega) | exact hH.ur (by omega) | exact (hH.tw (by omega)).1 | exact (hH.uw (by omega)).1 | exact hH.fr (by omega) | exact hH.pl.1) (by first | exact Nat.le_of_ble_eq_true rfl | simp [cat_rf, Value.category]) ⟨rfl, rfl, by decide, by decide⟩ ?_
  refine ⟨_, _, _, _, _, rfl, hl2, Kc_i ?_⟩
  refine g_cS2 (c2 := 1) (s2 := 6) hX (s_X9_requireIndex hst) dX9_feastAt_8 (by first | exact Nat.le_of_ble_eq_true rfl | simp [cat_rf, Value.category]) ⟨rfl, rfl, by decide, by decide⟩ ?_
  refine ⟨_, _, rfl, hi, by omega, fun q1 => Kc_v ?_, fun h9 s9 hs9 => Kc_x (gx_out hX hR rfl (by decide) (by decide) (hKx (by omega) _ hs9))⟩
  refine g_aload hX dX9_feastAt_11 rfl rfl ?_
  refine g_get hX dX9_feastAt_12 (by first | exact hob | exact ho0 | exact ho1 | exact ho2 | exact ho3 | exact hH.tx (by omega) | exact hH.ux (by omega) | exact hH.fx (by omega) | exact hH.sx (by omega) | exact hH.tr (by omega) | exact hH.ur (by omega) | exact (hH.tw (by omega)).1 | exact (hH.uw (by omega)).1 | exact hH.fr (by omega) | exact hH.pl.1) rfl ?_
  refine g_iload hX dX9_feastAt_15 rfl ?_
  refine g_cV1 (c2 := 1) (s2 := 6) hX (s_Jx4a65c_get_915e3 hst) dX9_feastAt_16 (by first | exact hob | exact ho0 | exact ho1 | exact ho2 | exact ho3 | exact hH.tx (by omega) | exact hH.ux (by omega) | exact hH.fx (by omega) | exact hH.sx (by omega) | exact hH.tr (by omega) | exact hH.ur (by omega) | exact (hH.tw (by omega)).1 | exact (hH.uw (by omega)).1 | exact hH.fr (by omega) | exact hH.pl.1) (by first | exact Nat.le_of_ble_eq_true rfl | simp [cat_rf, Value.category]) ⟨rfl, rfl, by decide, by decide⟩ ?_
  refine ⟨_, _, _, _, _, _, rfl, hl2, by omega, Kc_i ?_⟩
  refine g_cast hX dX9_feastAt_19 (by first | exact hob | exact ho0 | exact ho1 | exact ho2 | exact ho3 | exact hH.tx (by omega) | exact hH.ux (by omega) | exact hH.fx (by omega) | exact hH.sx (by omega) | exact hH.tr (by omega) | exact hH.ur (by omega) | exact (hH.tw (by omega)).1 | exact (hH.uw (by omega)).1 | exact hH.fr (by omega) | exact hH.pl.1) ?_
  refine g_aret hX hR dX9_feastAt_22 rfl (by first | exact Or.inl ⟨_, rfl⟩ | exact Or.inr ⟨_, rfl⟩) (by first | rfl | exact isRefV_rf _) (by decide) (by decide) ?_
  exact hK (by omega)

def sp_X9_timesThrough (g : hG) : hS := fun as M sz K => ∃ (h : Nat) (A : Nat → Nat → Nat) (ow : Nat → Nat × Nat) (σ : SG) (τ : Nat → Nat → Int) (t u : Nat), as = [.ref (A 7 t), .ref (A 12 u)] ∧ HX g.2.2.2.2 h A ow σ τ M ∧ SV σ ∧ (t : Int) < σ 0 0 0 ∧ (u : Int) < σ 1 0 0 ∧ K (.inl (some (.int (iZ (fitZ σ t u))))) M sz
theorem s_X9_timesThrough {l : Launch} {g : hG} (hst : l.stackTraces = false) : Ctr l g mX9_timesThrough (sp_X9_timesThrough g) := by
  refine Ctr.mk9 hst (by decide) ?_ ?_
  · rintro as M sz K ⟨h, A, ow, σ, τ, t, u, rfl, hH, hV, ht, hu, hK⟩
    exact ⟨by simp [mX9_timesThrough], cat_ok rfl⟩
  rintro X as M sz K hX rfl rfl hR ⟨h, A, ow, σ, τ, t, u, rfl, hH, hV, ht, hu, hK⟩
  show G X 0 [.ref (A 7 t), .ref (A 12 u), U9, U9, U9] [] M sz 0 0
  obtain ⟨n0, n1, n2, n3, ⟨e0, hn0⟩, ⟨e1, hn1⟩, ⟨e2, hn2⟩, ⟨e3, hn3⟩⟩ := hV.nat
  have hob := hH.ob
  have hl0 := hH.l0 e0
  obtain ⟨mo0, ho0⟩ := hl0.o
  have hl1 := hH.l1 e1
  obtain ⟨mo1, ho1⟩ := hl1.o
  have hl2 := hH.l2 e2
  obtain ⟨mo2, ho2⟩ := hl2.o
  have hl3 := hH.l3 e3
  obtain ⟨mo3, ho3⟩ := hl3.o
  have hRt := (hV.t t).2.2.2.1
  have hRu := (hV.u u).2.2.2.2.1
  have ht1 := hRt.1
  have hu1 := hRu.1
  refine g_aload hX dX9_timesThrough_0 rfl rfl ?_
  refine g_get hX dX9_timesThrough_1 (by first | exact hob | exact ho0 | exact ho1 | exact ho2 | exact ho3 | exact hH.tx (by omega) | exact hH.ux (by omega) | exact hH.fx (by omega) | exact hH.sx (by omega) | exact hH.tr (by omega) | exact hH.ur (by omega) | exact (hH.tw (by omega)).1 | exact (hH.uw (by omega)).1 | exact hH.fr (by omega) | exact hH.pl.1) rfl ?_
  refine g_astore hX dX9_timesThrough_4 rfl ?_
  dsimp only [List.set]
  refine g_aload hX dX9_timesThrough_5 rfl rfl ?_
  refine g_get hX dX9_timesThrough_6 (by first | exact hob | exact ho0 | exact ho1 | exact ho2 | exact ho3 | exact hH.tx (by omega) | exact hH.ux (by omega) | exact hH.fx (by omega) | exact hH.sx (by omega) | exact hH.tr (by omega) | exact hH.ur (by omega) | exact (hH.tw (by omega)).1 | exact (hH.uw (by omega)).1 | exact hH.fr (by omega) | exact hH.pl.1) rfl ?_
  refine g_astore hX dX9_timesThrough_9 rfl ?_
  dsimp only [List.set]
  refine g_aload hX dX9_timesThrough_10 rfl rfl ?_
  refine g_get hX dX9_timesThrough_11 (by first | exact hob | exact ho0 | exact ho1 | exact ho2 | exact ho3 | exact hH.tx (by omega) | exact hH.ux (by omega) | exact hH.fx (by omega) | exact hH.sx (by omega) | exact hH.tr (by omega) | exact hH.ur (by omega) | exact (hH.tw (by omega)).1 | exact (hH.uw (by omega)).1 | exact hH.fr (by omega) | exact hH.pl.1) rfl ?_
  refine z_if_eq hX dX9_timesThrough_14 (by first | assumption | (constructor <;> omega)) (fun c14 => ?_) (fun c14 => ?_)
  · refine g_const hX dX9_timesThrough_26 ?_
    refine g_iret hX hR dX9_timesThrough_27 rfl rfl (by decide) (by decide) ?_
    exact kint hK (fit0a hV t u (by omega))
  · refine g_aload hX dX9_timesThrough_17 rfl rfl ?_
    refine g_const hX dX9_timesThrough_18 ?_
    refine g_aload hX dX9_timesThrough_19 rfl rfl ?_
    refine g_cVN2 (c2 := 0) (s2 := 0) hX (s_X4_hasMetreFrom hst) dX9_timesThrough_20 (by first | exact hob | exact ho0 | exact ho1 | exact ho2 | exact ho3 | exact hH.tx (by omega) | exact hH.ux (by omega) | exact hH.fx (by omega) | exact hH.sx (by omega) | exact hH.tr (by omega) | exact hH.ur (by omega) | exact (hH.tw (by omega)).1 | exact (hH.uw (by omega)).1 | exact hH.fr (by omega) | exact hH.pl.1) (by first | exact Nat.le_of_ble_eq_true rfl | simp [cat_rf, Value.category]) ⟨rfl, rfl, by decide, by decide⟩ ?_
    refine ⟨_, _, _, _, _, _, _, _, _, _, _, _, _, rfl, hH.tw (by omega), hH.uw (by omega), hRt, hRu, by omega, Kc_i ?_⟩
    refine z_ifb_ne hX dX9_timesThrough_23 (fun c23 => ?_) (fun c23 => ?_)
    · refine g_aload hX dX9_timesThrough_28 rfl rfl ?_
      refine g_get hX dX9_timesThrough_29 (by first | exact hob | exact ho0 | exact ho1 | exact ho2 | exact ho3 | exact hH.tx (by omega) | exact hH.ux (by omega) | exact hH.fx (by omega) | exact hH.sx (by omega) | exact hH.tr (by omega) | exact hH.ur (by omega) | exact (hH.tw (by omega)).1 | exact (hH.uw (by omega)).1 | exact hH.fr (by omega) | exact hH.pl.1) rfl ?_
      refine g_aload hX dX9_timesThrough_32 rfl rfl ?_
      refine g_get hX dX9_timesThrough_33 (by first | exact hob | exact ho0 | exact ho1 | exact ho2 | exact ho3 | exact hH.tx (by omega) | exact hH.ux (by omega) | exact hH.fx (by omega) | exact hH.sx (by omega) | exact hH.tr (by omega) | exact hH.ur (by omega) | exact (hH.tw (by omega)).1 | exact (hH.uw (by omega)).1 | exact hH.fr (by omega) | exact hH.pl.1) rfl ?_
      refine z_icmp_ne hX dX9_timesThrough_36 (by first | assumption | (constructor <;> omega)) (by first | assumption | (constructor <;> omega)) (fun c36 => ?_) (fun c36 => ?_)
      · refine g_aload hX dX9_timesThrough_41 rfl rfl ?_
        refine g_get hX dX9_timesThrough_42 (by first | exact hob | exact ho0 | exact ho1 | exact ho2 | exact ho3 | exact hH.tx (by omega) | exact hH.ux (by omega) | exact hH.fx (by omega) | exact hH.sx (by omega) | exact hH.tr (by omega) | exact hH.ur (by omega) | exact (hH.tw (by omega)).1 | exact (hH.uw (by omega)).1 | exact hH.fr (by omega) | exact hH.pl.1) rfl ?_
        refine g_const hX dX9_timesThrough_45 ?_
        refine g_aload hX dX9_timesThrough_46 rfl rfl ?_
        refine g_get hX dX9_timesThrough_47 (by first | exact hob | exact ho0 | exact ho1 | exact ho2 | exact ho3 | exact hH.tx (by omega) | exact hH.ux (by omega) | exact hH.fx (by omega) | exact hH.sx (by omega) | exact hH.tr (by omega) | exact hH.ur (by omega) | exact (hH.tw (by omega)).1 | exact (hH.uw (by omega)).1 | exact hH.fr (by omega) | exact hH.pl.1) rfl ?_
        refine z_imul hX dX9_timesThrough_50 ?_
        refine z_icmp_ne hX dX9_timesThrough_51 (by first | assumption | (constructor <;> omega)) (by first | assumption | (constructor <;> omega)) (fun c51 => ?_) (fun c51 => ?_)
        · refine g_const hX dX9_timesThrough_70 ?_
          refine g_istore hX dX9_timesThrough_71 ?_
          dsimp only [List.set]
          refine g_iload hX dX9_timesThrough_73 rfl ?_
          refine z_if_eq hX dX9_timesThrough_75 (by first | assumption | (constructor <;> omega)) (fun c75 => ?_) (fun c75 => ?_)
          · refine g_const hX dX9_timesThrough_82 ?_
            refine g_iret hX hR dX9_timesThrough_83 rfl rfl (by decide) (by decide) ?_
            exact kint hK (fit0c t u (by omega) (fun h9 => absurd h9.1 (by omega)))
          · refine g_const hX dX9_timesThrough_78 ?_
            refine g_goto hX dX9_timesThrough_79 ?_
            refine g_iret hX hR dX9_timesThrough_83 rfl rfl (by decide) (by decide) ?_
            exfalso; omega
        · refine g_aload hX dX9_timesThrough_54 rfl rfl ?_
          refine g_aload hX dX9_timesThrough_55 rfl rfl ?_
          refine g_get hX dX9_timesThrough_56 (by first | exact hob | exact ho0 | exact ho1 | exact ho2 | exact ho3 | exact hH.tx (by omega) | exact hH.ux (by omega) | exact hH.fx (by omega) | exact hH.sx (by omega) | exact hH.tr (by omega) | exact hH.ur (by omega) | exact (hH.tw (by omega)).1 | exact (hH.uw (by omega)).1 | exact hH.fr (by omega) | exact hH.pl.1) rfl ?_
          refine g_aload hX dX9_timesThrough_59 rfl rfl ?_
          refine g_cVN2 (c2 := 0) (s2 := 0) hX (s_X4_hasMetreFrom hst) dX9_timesThrough_60 (by first | exact hob | exact ho0 | exact ho1 | exact ho2 | exact ho3 | exact hH.tx (by omega) | exact hH.ux (by omega) | exact hH.fx (by omega) | exact hH.sx (by omega) | exact hH.tr (by omega) | exact hH.ur (by omega) | exact (hH.tw (by omega)).1 | exact (hH.uw (by omega)).1 | exact hH.fr (by omega) | exact hH.pl.1) (by first | exact Nat.le_of_ble_eq_true rfl | simp [cat_rf, Value.category]) ⟨rfl, rfl, by decide, by decide⟩ ?_
          refine ⟨_, _, _, _, _, _, _, _, _, _, _, _, _, rfl, hH.tw (by omega), hH.uw (by omega), hRt, hRu, by omega, Kc_i ?_⟩
          refine z_ifb_eq hX dX9_timesThrough_63 (fun c63 => ?_) (fun c63 => ?_)
          · refine g_const hX dX9_timesThrough_70 ?_
            refine g_istore hX dX9_timesThrough_71 ?_
            dsimp only [List.set]
            refine g_iload hX dX9_timesThrough_73 rfl ?_
            refine z_if_eq hX dX9_timesThrough_75 (by first | assumption | (constructor <;> omega)) (fun c75 => ?_) (fun c75 => ?_)
            · refine g_const hX dX9_timesThrough_82 ?_
              refine g_iret hX hR dX9_timesThrough_83 rfl rfl (by decide) (by decide) ?_
              exact kint hK (fit0c t u (by omega) (fun h9 => c63 (fun k hk => by rw [show (σ 24 u 0 + (k : Int)).toNat = k + (σ 24 u 0).toNat by omega]; exact h9.2 k hk)))
            · refine g_const hX dX9_timesThrough_78 ?_
              refine g_goto hX dX9_timesThrough_79 ?_
              refine g_iret hX hR dX9_timesThrough_83 rfl rfl (by decide) (by decide) ?_
              exfalso; omega
          · refine g_const hX dX9_timesThrough_66 ?_
            refine g_goto hX dX9_timesThrough_67 ?_
            refine g_istore hX dX9_timesThrough_71 ?_
            dsimp only [List.set]
            refine g_iload hX dX9_timesThrough_73 rfl ?_
            refine z_if_eq hX dX9_timesThrough_75 (by first | assumption | (constructor <;> omega)) (fun c75 => ?_) (fun c75 => ?_)
            · refine g_const hX dX9_timesThrough_82 ?_
              refine g_iret hX hR dX9_timesThrough_83 rfl rfl (by decide) (by decide) ?_
              exfalso; omega
            · refine g_const hX dX9_timesThrough_78 ?_
              refine g_goto hX dX9_timesThrough_79 ?_
              refine g_iret hX hR dX9_timesThrough_83 rfl rfl (by decide) (by decide) ?_
              have hP : ∀ k : Nat, k < (σ 24 u 0).toNat → σ 14 t k = σ 25 u k := fun k hk => by
                have := c23 k hk
                rw [show (0 + (k : Int)).toNat = k by omega] at this
                exact this
              exact kint hK (fit2 t u hP (by omega) (by omega) (fun k hk => by
                have := c63 k hk
                rw [show (σ 24 u 0 + (k : Int)).toNat = k + (σ 24 u 0).toNat by omega] at this
                exact this))
      · refine g_const hX dX9_timesThrough_39 ?_
        refine g_iret hX hR dX9_timesThrough_40 rfl rfl (by decide) (by decide) ?_
        have hP : ∀ k : Nat, k < (σ 24 u 0).toNat → σ 14 t k = σ 25 u k := fun k hk => by
          have := c23 k hk
          rw [show (0 + (k : Int)).toNat = k by omega] at this
          exact this
        exact kint hK (fit1 t u hP (by omega) (by omega))
    · refine g_const hX dX9_timesThrough_26 ?_
      refine g_iret hX hR dX9_timesThrough_27 rfl rfl (by decide) (by decide) ?_
      exact kint hK (fit0b t u (fun h9 => c23 (fun k hk => by rw [show (0 + (k : Int)).toNat = k by omega]; exact h9 k hk)))

def sp_X9_countClashes (g : hG) : hS := fun as M sz K => ∃ (h : Nat) (A : Nat → Nat → Nat) (ow : Nat → Nat × Nat) (σ : SG) (τ : Nat → Nat → Int) (t u : Nat), as = [.ref (A 7 t), .ref (A 12 u)] ∧ HX g.2.2.2.2 h A ow σ τ M ∧ SV σ ∧ (t : Int) < σ 0 0 0 ∧ (u : Int) < σ 1 0 0 ∧ fitZ σ t u ≠ 0 ∧ K (.inl (some (.int (iZ (clZ σ t u))))) M sz
theorem s_X9_countClashes {l : Launch} {g : hG} (hst : l.stackTraces = false) : Ctr l g mX9_countClashes (sp_X9_countClashes g) := by
  refine Ctr.mk9 hst (by decide) ?_ ?_
  · rintro as M sz K ⟨h, A, ow, σ, τ, t, u, rfl, hH, hV, ht, hu, hft, hK⟩
    exact ⟨by simp [mX9_countClashes], cat_ok rfl⟩
  rintro X as M sz K hX rfl rfl hR ⟨h, A, ow, σ, τ, t, u, rfl, hH, hV, ht, hu, hft, hK⟩
  show G X 0 [.ref (A 7 t), .ref (A 12 u), U9, U9, U9, U9, U9] [] M sz 0 0
  obtain ⟨n0, n1, n2, n3, ⟨e0, hn0⟩, ⟨e1, hn1⟩, ⟨e2, hn2⟩, ⟨e3, hn3⟩⟩ := hV.nat
  have hob := hH.ob
  have hl0 := hH.l0 e0
  obtain ⟨mo0, ho0⟩ := hl0.o
  have hl1 := hH.l1 e1
  obtain ⟨mo1, ho1⟩ := hl1.o
  have hl2 := hH.l2 e2
  obtain ⟨mo2, ho2⟩ := hl2.o
  have hl3 := hH.l3 e3
  obtain ⟨mo3, ho3⟩ := hl3.o
  have hRt := (hV.t t).2.2.2.1
  have hRu := (hV.u u).2.2.2.2.1
  have ht1 := hRt.1
  have hu1 := hRu.1
  have hfp := fit_p hft
  have loop : ∀ (k9 k : Nat) (v : Value), (k : Int) + k9 = σ 13 t 0 → G X 16 [.ref (A 7 t), .ref (A 12 u), .ref (A 9 t), .ref (A 14 u), .int (iZ (clK σ t u k)), .int (iZ (k : Int)), v] [] M sz 0 0 := by
    intro k9
    induction k9 with
    | zero =>
      intro k v hk
      refine g_iload hX dX9_countClashes_16 rfl ?_
      refine g_aload hX dX9_countClashes_18 rfl rfl ?_
      refine g_get hX dX9_countClashes_19 (by first | exact hob | exact ho0 | exact ho1 | exact ho2 | exact ho3 | exact hH.tx (by omega) | exact hH.ux (by omega) | exact hH.fx (by omega) | exact hH.sx (by omega) | exact hH.tr (by omega) | exact hH.ur (by omega) | exact (hH.tw (by omega)).1 | exact (hH.uw (by omega)).1 | exact hH.fr (by omega) | exact hH.pl.1) rfl ?_
      refine z_icmp_ge hX dX9_countClashes_22 (by first | assumption | (constructor <;> omega)) (by first | assumption | (constructor <;> omega)) (fun c22 => ?_) (fun c22 => ?_)
      · refine g_iload hX dX9_countClashes_75 rfl ?_
        refine g_iret hX hR dX9_countClashes_77 rfl rfl (by decide) (by decide) ?_
        exact kint hK (by unfold clZ; congr 1; omega)
      · exfalso; omega
    | succ k9 ih =>
      intro k v hk
      have hcr := clK_r σ t u k
      refine g_iload hX dX9_countClashes_16 rfl ?_
      refine g_aload hX dX9_countClashes_18 rfl rfl ?_
      refine g_get hX dX9_countClashes_19 (by first | exact hob | exact ho0 | exact ho1 | exact ho2 | exact ho3 | exact hH.tx (by omega) | exact hH.ux (by omega) | exact hH.fx (by omega) | exact hH.sx (by omega) | exact hH.tr (by omega) | exact hH.ur (by omega) | exact (hH.tw (by omega)).1 | exact (hH.uw (by omega)).1 | exact hH.fr (by omega) | exact hH.pl.1) rfl ?_
      refine z_icmp_ge hX dX9_countClashes_22 (by first | assumption | (constructor <;> omega)) (by first | assumption | (constructor <;> omega)) (fun c22 => ?_) (fun c22 => ?_)
      · exfalso; omega
      · refine g_iload hX dX9_countClashes_25 rfl ?_
        refine g_aload hX dX9_countClashes_27 rfl rfl ?_
        refine g_get hX dX9_countClashes_28 (by first | exact hob | exact ho0 | exact ho1 | exact ho2 | exact ho3 | exact hH.tx (by omega) | exact hH.ux (by omega) | exact hH.fx (by omega) | exact hH.sx (by omega) | exact hH.tr (by omega) | exact hH.ur (by omega) | exact (hH.tw (by omega)).1 | exact (hH.uw (by omega)).1 | exact hH.fr (by omega) | exact hH.pl.1) rfl ?_
        refine z_icmp_ge hX dX9_countClashes_31 (by first | assumption | (constructor <;> omega)) (by first | assumption | (constructor <;> omega)) (fun c31 => ?_) (fun c31 => ?_)
        · refine g_iload hX dX9_countClashes_39 rfl ?_
          refine g_aload hX dX9_countClashes_41 rfl rfl ?_
          refine g_get hX dX9_countClashes_42 (by first | exact hob | exact ho0 | exact ho1 | exact ho2 | exact ho3 | exact hH.tx (by omega) | exact hH.ux (by omega) | exact hH.fx (by omega) | exact hH.sx (by omega) | exact hH.tr (by omega) | exact hH.ur (by omega) | exact (hH.tw (by omega)).1 | exact (hH.uw (by omega)).1 | exact hH.fr (by omega) | exact hH.pl.1) rfl ?_
          refine z_isub hX dX9_countClashes_45 ?_
          refine g_istore hX dX9_countClashes_46 ?_
          dsimp only [List.set]
          refine g_iload hX dX9_countClashes_48 rfl ?_
          refine g_aload hX dX9_countClashes_50 rfl rfl ?_
          refine g_iload hX dX9_countClashes_51 rfl ?_
          refine g_cVN1 (c2 := 0) (s2 := 0) hX (s_X4_marksAt hst) dX9_countClashes_53 (by first | exact hob | exact ho0 | exact ho1 | exact ho2 | exact ho3 | exact hH.tx (by omega) | exact hH.ux (by omega) | exact hH.fx (by omega) | exact hH.sx (by omega) | exact hH.tr (by omega) | exact hH.ur (by omega) | exact (hH.tw (by omega)).1 | exact (hH.uw (by omega)).1 | exact hH.fr (by omega) | exact hH.pl.1) (by first | exact Nat.le_of_ble_eq_true rfl | simp [cat_rf, Value.category]) ⟨rfl, rfl, by decide, by decide⟩ ?_
          refine ⟨_, _, _, _, _, _, _, rfl, hH.tw (by omega), hRt, by constructor <;> omega, Kc_i ?_⟩
          rw [if_pos (show (0 : Int) ≤ (k : Int) by omega)]
          simp only [Int.toNat_natCast]
          have hsa := (hRt.2 k).2.1
          refine g_aload hX dX9_countClashes_56 rfl rfl ?_
          refine g_iload hX dX9_countClashes_57 rfl ?_
          refine g_cVN1 (c2 := 0) (s2 := 0) hX (s_X4_marksAt hst) dX9_countClashes_59 (by first | exact hob | exact ho0 | exact ho1 | exact ho2 | exact ho3 | exact hH.tx (by omega) | exact hH.ux (by omega) | exact hH.fx (by omega) | exact hH.sx (by omega) | exact hH.tr (by omega) | exact hH.ur (by omega) | exact (hH.tw (by omega)).1 | exact (hH.uw (by omega)).1 | exact hH.fr (by omega) | exact hH.pl.1) (by first | exact Nat.le_of_ble_eq_true rfl | simp [cat_rf, Value.category]) ⟨rfl, rfl, by decide, by decide⟩ ?_
          refine ⟨_, _, _, _, _, _, _, rfl, hH.uw (by omega), hRu, by constructor <;> omega, Kc_i ?_⟩
          rw [if_pos (by omega)]
          rw [show ((k : Int) - σ 24 u 0).toNat = wrp (σ 24 u 0).toNat k by unfold wrp; split <;> omega]
          have hsb := (hRu.2 (wrp (σ 24 u 0).toNat k)).2.1
          have hxr := xor_r (a := (σ 15 t k).toNat) (b := (σ 26 u (wrp (σ 24 u 0).toNat k)).toNat) (by omega) (by omega)
          refine g_ixor hX dX9_countClashes_62 ?_
          rw [z_xor (by omega) (by omega)]
          refine g_cS1 (c2 := 0) (s2 := 0) hX (s_J6_bitCount_0f7a4 hst) dX9_countClashes_63 (by first | exact Nat.le_of_ble_eq_true rfl | simp [cat_rf, Value.category]) ⟨rfl, rfl, by decide, by decide⟩ ?_
          refine ⟨_, rfl, hxr, Kc_i ?_⟩
          have hpr := clK_r σ t u k
          have hpn : popX σ t u k ≤ 12 := popK_r _ 12
          refine z_iadd hX dX9_countClashes_66 ?_
          refine g_istore hX dX9_countClashes_67 ?_
          dsimp only [List.set]
          refine z_iinc hX dX9_countClashes_69 rfl ?_
          dsimp only [List.set]
          refine g_goto hX dX9_countClashes_72 ?_
          refine g_eqL (lv' := [.ref (A 7 t), .ref (A 12 u), .ref (A 9 t), .ref (A 14 u), .int (iZ (clK σ t u (k + 1))), .int (iZ ((k + 1 : Nat) : Int)), _]) rfl rfl ?_
          exact ih (k + 1) _ (by omega)
        · refine g_iload hX dX9_countClashes_34 rfl ?_
          refine g_goto hX dX9_countClashes_36 ?_
          refine g_istore hX dX9_countClashes_46 ?_
          dsimp only [List.set]
          refine g_iload hX dX9_countClashes_48 rfl ?_
          refine g_aload hX dX9_countClashes_50 rfl rfl ?_
          refine g_iload hX dX9_countClashes_51 rfl ?_
          refine g_cVN1 (c2 := 0) (s2 := 0) hX (s_X4_marksAt hst) dX9_countClashes_53 (by first | exact hob | exact ho0 | exact ho1 | exact ho2 | exact ho3 | exact hH.tx (by omega) | exact hH.ux (by omega) | exact hH.fx (by omega) | exact hH.sx (by omega) | exact hH.tr (by omega) | exact hH.ur (by omega) | exact (hH.tw (by omega)).1 | exact (hH.uw (by omega)).1 | exact hH.fr (by omega) | exact hH.pl.1) (by first | exact Nat.le_of_ble_eq_true rfl | simp [cat_rf, Value.category]) ⟨rfl, rfl, by decide, by decide⟩ ?_
          refine ⟨_, _, _, _, _, _, _, rfl, hH.tw (by omega), hRt, by constructor <;> omega, Kc_i ?_⟩
          rw [if_pos (show (0 : Int) ≤ (k : Int) by omega)]
          simp only [Int.toNat_natCast]
          have hsa := (hRt.2 k).2.1
          refine g_aload hX dX9_countClashes_56 rfl rfl ?_
          refine g_iload hX dX9_countClashes_57 rfl ?_
          refine g_cVN1 (c2 := 0) (s2 := 0) hX (s_X4_marksAt hst) dX9_countClashes_59 (by first | exact hob | exact ho0 | exact ho1 | exact ho2 | exact ho3 | exact hH.tx (by omega) | exact hH.ux (by omega) | exact hH.fx (by omega) | exact hH.sx (by omega) | exact hH.tr (by omega) | exact hH.ur (by omega) | exact (hH.tw (by omega)).1 | exact (hH.uw (by omega)).1 | exact hH.fr (by omega) | exact hH.pl.1) (by first | exact Nat.le_of_ble_eq_true rfl | simp [cat_rf, Value.category]) ⟨rfl, rfl, by decide, by decide⟩ ?_
          refine ⟨_, _, _, _, _, _, _, rfl, hH.uw (by omega), hRu, by constructor <;> omega, Kc_i ?_⟩
          rw [if_pos (by omega)]
          rw [show ((k : Int)).toNat = wrp (σ 24 u 0).toNat k by unfold wrp; split <;> omega]
          have hsb := (hRu.2 (wrp (σ 24 u 0).toNat k)).2.1
          have hxr := xor_r (a := (σ 15 t k).toNat) (b := (σ 26 u (wrp (σ 24 u 0).toNat k)).toNat) (by omega) (by omega)
          refine g_ixor hX dX9_countClashes_62 ?_
          rw [z_xor (by omega) (by omega)]
          refine g_cS1 (c2 := 0) (s2 := 0) hX (s_J6_bitCount_0f7a4 hst) dX9_countClashes_63 (by first | exact Nat.le_of_ble_eq_true rfl | simp [cat_rf, Value.category]) ⟨rfl, rfl, by decide, by decide⟩ ?_
          refine ⟨_, rfl, hxr, Kc_i ?_⟩
          have hpr := clK_r σ t u k
          have hpn : popX σ t u k ≤ 12 := popK_r _ 12
          refine z_iadd hX dX9_countClashes_66 ?_
          refine g_istore hX dX9_countClashes_67 ?_
          dsimp only [List.set]
          refine z_iinc hX dX9_countClashes_69 rfl ?_
          dsimp only [List.set]
          refine g_goto hX dX9_countClashes_72 ?_
          refine g_eqL (lv' := [.ref (A 7 t), .ref (A 12 u), .ref (A 9 t), .ref (A 14 u), .int (iZ (clK σ t u (k + 1))), .int (iZ ((k + 1 : Nat) : Int)), _]) rfl rfl ?_
          exact ih (k + 1) _ (by omega)
  refine g_aload hX dX9_countClashes_0 rfl rfl ?_
  refine g_get hX dX9_countClashes_1 (by first | exact hob | exact ho0 | exact ho1 | exact ho2 | exact ho3 | exact hH.tx (by omega) | exact hH.ux (by omega) | exact hH.fx (by omega) | exact hH.sx (by omega) | exact hH.tr (by omega) | exact hH.ur (by omega) | exact (hH.tw (by omega)).1 | exact (hH.uw (by omega)).1 | exact hH.fr (by omega) | exact hH.pl.1) rfl ?_
  refine g_astore hX dX9_countClashes_4 rfl ?_
  dsimp only [List.set]
  refine g_aload hX dX9_countClashes_5 rfl rfl ?_
  refine g_get hX dX9_countClashes_6 (by first | exact hob | exact ho0 | exact ho1 | exact ho2 | exact ho3 | exact hH.tx (by omega) | exact hH.ux (by omega) | exact hH.fx (by omega) | exact hH.sx (by omega) | exact hH.tr (by omega) | exact hH.ur (by omega) | exact (hH.tw (by omega)).1 | exact (hH.uw (by omega)).1 | exact hH.fr (by omega) | exact hH.pl.1) rfl ?_
  refine g_astore hX dX9_countClashes_9 rfl ?_
  dsimp only [List.set]
  refine g_const hX dX9_countClashes_10 ?_
  refine g_istore hX dX9_countClashes_11 ?_
  dsimp only [List.set]
  refine g_const hX dX9_countClashes_13 ?_
  refine g_istore hX dX9_countClashes_14 ?_
  dsimp only [List.set]
  exact loop (σ 13 t 0).toNat 0 _ (by omega)
