/-! the reference's world: r its object, its rows from b on -/
def MFL (b : Nat) (σ : SG) (th : Int) : List Value := [.int (iZ (σ 0 0 0)), .ref (b), .ref (b + 1), .ref (b + 2), .ref (b + 3), .ref (b + 4), .ref (b + 5), .int (iZ (σ 1 0 0)), .ref (b + 6), .ref (b + 7), .ref (b + 8), .ref (b + 9), .ref (b + 10), .ref (b + 11), .ref (b + 12), .int (iZ (σ 2 0 0)), .ref (b + 13), .ref (b + 14), .ref (b + 15), .ref (b + 16), .ref (b + 17), .int (iZ (σ 4 0 0)), .ref (b + 18), .ref (b + 19), .ref (b + 20), .int (iZ (σ 3 0 0)), .ref (b + 21), .ref (b + 22), .ref (b + 23), .ref (b + 24), .int (iZ (th))]
def MAR (σ : SG) (P Q : Nat → Int) (k : Nat) : hC := match k with
  | 0 => .inr (0, 12, .inl (fun i => iZ (σ 10 i 0)))
  | 1 => .inr (0, 12, .inl (fun i => iZ (σ 11 i 0)))
  | 2 => .inr (1, 12, .inl (fun i => iZ (σ 12 i 0)))
  | 3 => .inr (0, 12, .inl (fun i => iZ (σ 13 i 0)))
  | 4 => .inr (0, 96, .inl (fun i => iZ (σ 14 (i / 8) (i % 8))))
  | 5 => .inr (0, 96, .inl (fun i => iZ (σ 15 (i / 8) (i % 8))))
  | 6 => .inr (0, 12, .inl (fun i => iZ (σ 20 i 0)))
  | 7 => .inr (1, 12, .inl (fun i => iZ (σ 23 i 0)))
  | 8 => .inr (0, 12, .inl (fun i => iZ (σ 21 i 0)))
  | 9 => .inr (0, 12, .inl (fun i => iZ (σ 22 i 0)))
  | 10 => .inr (0, 12, .inl (fun i => iZ (σ 24 i 0)))
  | 11 => .inr (0, 96, .inl (fun i => iZ (σ 25 (i / 8) (i % 8))))
  | 12 => .inr (0, 96, .inl (fun i => iZ (σ 26 (i / 8) (i % 8))))
  | 13 => .inr (0, 20, .inl (fun i => iZ (σ 30 i 0)))
  | 14 => .inr (1, 20, .inl (fun i => iZ (σ 31 i 0)))
  | 15 => .inr (1, 20, .inl (fun i => iZ (σ 34 i 0)))
  | 16 => .inr (0, 20, .inl (fun i => iZ (σ 32 i 0)))
  | 17 => .inr (0, 20, .inl (fun i => iZ (σ 33 i 0)))
  | 18 => .inr (0, 63, .inl (fun i => iZ (σ 35 (i / 3) (i % 3))))
  | 19 => .inr (0, 366, .inl (fun i => iZ (P i)))
  | 20 => .inr (0, 20, .inl (fun i => iZ (Q i)))
  | 21 => .inr (0, 60, .inl (fun i => iZ (σ 40 i 0)))
  | 22 => .inr (0, 60, .inl (fun i => iZ (σ 41 i 0)))
  | 23 => .inr (0, 60, .inl (fun i => iZ (σ 42 i 0)))
  | _ => .inr (0, 60, .inl (fun i => iZ (σ 43 i 0)))
def MX (b r : Nat) (σ : SG) (th : Int) (P Q : Nat → Int) (M : hM) : Prop := r < b ∧ M r = some (.inl (10, MFL b σ th)) ∧ ∀ k, k < 25 → M (b + k) = some (MAR σ P Q k)

theorem MX.upd {b r : Nat} {σ σ' : SG} {th th' : Int} {P Q P' Q' : Nat → Int} {M M' : hM} (H : MX b r σ th P Q M) (S : Nat → Prop) (hr : M' r = some (.inl (10, MFL b σ' th'))) (hc : ∀ k, k < 25 → ¬ S k → MAR σ' P' Q' k = MAR σ P Q k) (hM : ∀ q, q ≠ r → (∀ k, k < 25 → S k → q ≠ b + k) → M' q = M q) (hn : ∀ k, k < 25 → S k → M' (b + k) = some (MAR σ' P' Q' k)) : MX b r σ' th' P' Q' M' := by
  refine ⟨H.1, hr, fun k hk => ?_⟩
  by_cases hs : S k
  · exact hn k hk hs
  · rw [hM (b + k) (by have := H.1; omega) (fun k' hk' hs' e => hs (by rw [show k = k' by omega]; exact hs')), H.2.2 k hk, hc k hk hs]
theorem MX.th {b r : Nat} {σ : SG} {th v : Int} {P Q : Nat → Int} {M M1 : hM} (H : MX b r σ th P Q M) (h1 : M1 r = some (.inl (10, (MFL b σ th).set 30 (.int (iZ v))))) (h2 : ∀ q, q ≠ r → M1 q = M q) : MX b r σ v P Q M1 := ⟨H.1, h1, fun k hk => (h2 _ (by have := H.1; omega)).trans (H.2.2 k hk)⟩
def MO (b r : Nat) (o : OC) (K : hK) : Prop := ∀ (P' Q' : Nat → Int) (M' : hM) (s9 : Nat), MX b r o.2.2 o.1 P' Q' M' → SV o.2.2 → K (.inl (some (.int (iZ o.2.1)))) M' s9
theorem MV {b r : Nat} {o : OC} {K : hK} (hK : MO b r o K) {c v : Int} {s : SG} (e : o = (c, v, s)) {P Q : Nat → Int} {M : hM} {s9 : Nat} (hM : MX b r s c P Q M) (hV : SV s) : K (.inl (some (.int (iZ v)))) M s9 := by
  subst e
  exact hK P Q M s9 hM hV
theorem div8 {t k : Nat} (h : k < 8) : (8 * (t : Int) + (k : Int)).toNat / 8 = t ∧ (8 * (t : Int) + (k : Int)).toNat % 8 = k := by omega

def sp_X10_thrown : hS := fun as M sz K => ∃ (b r : Nat) (σ : SG) (th : Int) (P Q : Nat → Int), as = [.ref r] ∧ MX b r σ th P Q M ∧ SV σ ∧ K (.inl (some (.int (iZ th)))) M sz
theorem s_X10_thrown {l : Launch} {g : hG} (hst : l.stackTraces = false) : Ctr l g mX10_thrown sp_X10_thrown := by
  refine Ctr.mk9 hst (by decide) ?_ ?_
  · rintro as M sz K ⟨b, r, σ, th, P, Q, rfl, hM, hV, hK⟩
    exact ⟨by simp [mX10_thrown], cat_ok rfl⟩
  rintro X as M sz K hX rfl rfl hR ⟨b, r, σ, th, P, Q, rfl, hM, hV, hK⟩
  show G X 0 [.ref r] [] M sz 0 0
  obtain ⟨n0, n1, n2, n3, ⟨e0, hn0⟩, ⟨e1, hn1⟩, ⟨e2, hn2⟩, ⟨e3, hn3⟩⟩ := hV.nat
  refine g_aload hX dX10_thrown_0 rfl rfl ?_
  refine g_get hX dX10_thrown_1 (by first | assumption | exact hM.2.1) rfl ?_
  refine g_iret hX hR dX10_thrown_4 rfl rfl (by decide) (by decide) ?_
  exact hK

def sp_X10_isText : hS := fun as M sz K => ∃ (b r : Nat) (σ : SG) (th : Int) (P Q : Nat → Int) (v : Int), as = [.ref r, .int (iZ v)] ∧ MX b r σ th P Q M ∧ SV σ ∧ inR v ∧ K (.inl (some (.int (iZ (bZ (inN σ 0 v)))))) M sz
theorem s_X10_isText {l : Launch} {g : hG} (hst : l.stackTraces = false) : Ctr l g mX10_isText sp_X10_isText := by
  refine Ctr.mk9 hst (by decide) ?_ ?_
  · rintro as M sz K ⟨b, r, σ, th, P, Q, v, rfl, hM, hV, hv, hK⟩
    exact ⟨by simp [mX10_isText], cat_ok rfl⟩
  rintro X as M sz K hX rfl rfl hR ⟨b, r, σ, th, P, Q, v, rfl, hM, hV, hv, hK⟩
  show G X 0 [.ref r, .int (iZ v)] [] M sz 0 0
  obtain ⟨n0, n1, n2, n3, ⟨e0, hn0⟩, ⟨e1, hn1⟩, ⟨e2, hn2⟩, ⟨e3, hn3⟩⟩ := hV.nat
  refine g_iload hX dX10_isText_0 rfl ?_
  refine g_const hX dX10_isText_1 ?_
  refine g_aload hX dX10_isText_2 rfl rfl ?_
  refine g_get hX dX10_isText_3 (by first | assumption | exact hM.2.1) rfl ?_
  refine g_const hX dX10_isText_6 ?_
  refine z_isub hX dX10_isText_7 ?_
  refine g_cS3 (c2 := 0) (s2 := 0) hX (s_X10_isIn hst) dX10_isText_8 (by first | exact Nat.le_of_ble_eq_true rfl | simp [cat_rf, Value.category]) ⟨rfl, rfl, by decide, by decide⟩ ?_
  refine ⟨_, _, _, rfl, (by first | assumption | (constructor <;> omega)), (by first | assumption | (constructor <;> omega)), (by first | assumption | (constructor <;> omega)), Kc_i ?_⟩
  refine g_iret hX hR dX10_isText_11 rfl (by first | rfl | exact nar_b _ | exact nar_01 (by omega)) (by decide) (by decide) ?_
  exact kint hK (bZ_iff (by constructor <;> (intro h9; constructor <;> omega)))

def sp_X10_isTune : hS := fun as M sz K => ∃ (b r : Nat) (σ : SG) (th : Int) (P Q : Nat → Int) (v : Int), as = [.ref r, .int (iZ v)] ∧ MX b r σ th P Q M ∧ SV σ ∧ inR v ∧ K (.inl (some (.int (iZ (bZ (inN σ 1 v)))))) M sz
theorem s_X10_isTune {l : Launch} {g : hG} (hst : l.stackTraces = false) : Ctr l g mX10_isTune sp_X10_isTune := by
  refine Ctr.mk9 hst (by decide) ?_ ?_
  · rintro as M sz K ⟨b, r, σ, th, P, Q, v, rfl, hM, hV, hv, hK⟩
    exact ⟨by simp [mX10_isTune], cat_ok rfl⟩
  rintro X as M sz K hX rfl rfl hR ⟨b, r, σ, th, P, Q, v, rfl, hM, hV, hv, hK⟩
  show G X 0 [.ref r, .int (iZ v)] [] M sz 0 0
  obtain ⟨n0, n1, n2, n3, ⟨e0, hn0⟩, ⟨e1, hn1⟩, ⟨e2, hn2⟩, ⟨e3, hn3⟩⟩ := hV.nat
  refine g_iload hX dX10_isTune_0 rfl ?_
  refine g_const hX dX10_isTune_1 ?_
  refine g_aload hX dX10_isTune_2 rfl rfl ?_
  refine g_get hX dX10_isTune_3 (by first | assumption | exact hM.2.1) rfl ?_
  refine g_const hX dX10_isTune_6 ?_
  refine z_isub hX dX10_isTune_7 ?_
  refine g_cS3 (c2 := 0) (s2 := 0) hX (s_X10_isIn hst) dX10_isTune_8 (by first | exact Nat.le_of_ble_eq_true rfl | simp [cat_rf, Value.category]) ⟨rfl, rfl, by decide, by decide⟩ ?_
  refine ⟨_, _, _, rfl, (by first | assumption | (constructor <;> omega)), (by first | assumption | (constructor <;> omega)), (by first | assumption | (constructor <;> omega)), Kc_i ?_⟩
  refine g_iret hX hR dX10_isTune_11 rfl (by first | rfl | exact nar_b _ | exact nar_01 (by omega)) (by decide) (by decide) ?_
  exact kint hK (bZ_iff (by constructor <;> (intro h9; constructor <;> omega)))

abbrev fitP (σ : SG) (t u k : Nat) : Prop := ∀ j : Nat, j < k → σ 14 t j = σ 25 u (wrp (σ 24 u 0).toNat j)
theorem fit_m0 {σ : SG} (t u : Nat) (h : ¬ 0 < σ 24 u 0) : fitZ σ t u = 0 := by
  unfold fitZ
  rw [if_pos h]
theorem fit_m1 {σ : SG} (t u : Nat) (h : 0 < σ 24 u 0) (h1 : σ 13 t 0 = σ 24 u 0) : fitZ σ t u = if fitP σ t u (σ 24 u 0).toNat then 1 else 0 := by
  unfold fitZ
  rw [if_neg (by omega)]
  have e : (∀ k : Nat, k < (σ 24 u 0).toNat → σ 14 t k = σ 25 u k) ↔ fitP σ t u (σ 24 u 0).toNat := by
    constructor
    · intro g j hj
      rw [show wrp (σ 24 u 0).toNat j = j from if_pos hj]
      exact g j hj
    · intro g j hj
      have := g j hj
      rw [show wrp (σ 24 u 0).toNat j = j from if_pos hj] at this
      exact this
  by_cases q : fitP σ t u (σ 24 u 0).toNat
  · rw [if_pos ⟨h1, e.mpr q⟩, if_pos q]
  · rw [if_neg (fun g => q (e.mp g.2)), if_neg (fun g => by omega), if_neg q]
theorem fit_m2 {σ : SG} (t u : Nat) (h : 0 < σ 24 u 0) (h1 : σ 13 t 0 = 2 * σ 24 u 0) : fitZ σ t u = if fitP σ t u (2 * σ 24 u 0).toNat then 2 else 0 := by
  unfold fitZ
  rw [if_neg (by omega), if_neg (fun g => by omega)]
  have e : (∀ k : Nat, k < (σ 24 u 0).toNat → σ 14 t k = σ 25 u k ∧ σ 14 t (k + (σ 24 u 0).toNat) = σ 25 u k) ↔ fitP σ t u (2 * σ 24 u 0).toNat := by
    constructor
    · intro g j hj
      unfold wrp
      by_cases q : j < (σ 24 u 0).toNat
      · rw [if_pos q]
        exact (g j q).1
      · rw [if_neg q]
        have := (g (j - (σ 24 u 0).toNat) (by omega)).2
        rw [show j - (σ 24 u 0).toNat + (σ 24 u 0).toNat = j by omega] at this
        exact this
    · intro g j hj
      have g1 := g j (by omega)
      have g2 := g (j + (σ 24 u 0).toNat) (by omega)
      rw [show wrp (σ 24 u 0).toNat j = j from if_pos hj] at g1
      rw [show wrp (σ 24 u 0).toNat (j + (σ 24 u 0).toNat) = j by unfold wrp; rw [if_neg (by omega)]; omega] at g2
      exact ⟨g1, g2⟩
  by_cases q : fitP σ t u (2 * σ 24 u 0).toNat
  · rw [if_pos ⟨h1, e.mpr q⟩, if_pos q]
  · rw [if_neg (fun g => q (e.mp g.2)), if_neg q]
theorem fit_m3 {σ : SG} (t u : Nat) (h1 : ¬ σ 13 t 0 = σ 24 u 0) (h2 : ¬ σ 13 t 0 = 2 * σ 24 u 0) : fitZ σ t u = 0 := by
  unfold fitZ
  split
  · rfl
  · rw [if_neg (fun g => h1 g.1), if_neg (fun g => h2 g.1)]
theorem rem_w {n : Int} {k : Nat} (hn : 1 ≤ n ∧ n ≤ 8) (hk : (k : Int) < 2 * n) : (k : Int) % n = (wrp n.toNat k : Int) := by
  unfold wrp
  rcases (show n = 1 ∨ n = 2 ∨ n = 3 ∨ n = 4 ∨ n = 5 ∨ n = 6 ∨ n = 7 ∨ n = 8 by omega) with rfl | rfl | rfl | rfl | rfl | rfl | rfl | rfl <;> (split <;> omega)
theorem wrp_r {n k : Nat} (hk : k < 2 * n) : wrp n k < n := by
  unfold wrp
  split <;> omega
theorem fitP_s {σ : SG} {t u k : Nat} : fitP σ t u (k + 1) ↔ (fitP σ t u k ∧ σ 14 t k = σ 25 u (wrp (σ 24 u 0).toNat k)) := by
  constructor
  · intro h
    exact ⟨fun j hj => h j (by omega), h k (by omega)⟩
  · intro h j hj
    by_cases e : j = k
    · rw [e]; exact h.2
    · exact h.1 j (by omega)

def sp_X10_fit : hS := fun as M sz K => ∃ (b r : Nat) (σ : SG) (th : Int) (P Q : Nat → Int) (t u : Nat), as = [.ref r, .int (iZ (t : Int)), .int (iZ (u : Int))] ∧ MX b r σ th P Q M ∧ SV σ ∧ (t : Int) < σ 0 0 0 ∧ (u : Int) < σ 1 0 0 ∧ K (.inl (some (.int (iZ (fitZ σ t u))))) M sz
theorem s_X10_fit {l : Launch} {g : hG} (hst : l.stackTraces = false) : Ctr l g mX10_fit sp_X10_fit := by
  refine Ctr.mk9 hst (by decide) ?_ ?_
  · rintro as M sz K ⟨b, r, σ, th, P, Q, t, u, rfl, hM, hV, ht, hu, hK⟩
    exact ⟨by simp [mX10_fit], cat_ok rfl⟩
  rintro X as M sz K hX rfl rfl hR ⟨b, r, σ, th, P, Q, t, u, rfl, hM, hV, ht, hu, hK⟩
  show G X 0 [.ref r, .int (iZ (t : Int)), .int (iZ (u : Int)), U9, U9, U9, U9] [] M sz 0 0
  obtain ⟨n0, n1, n2, n3, ⟨e0, hn0⟩, ⟨e1, hn1⟩, ⟨e2, hn2⟩, ⟨e3, hn3⟩⟩ := hV.nat
  have ha10 : M (b + 10) = some (.inr (0, 12, .inl (fun i => iZ (σ 24 i 0)))) := hM.2.2 10 (by decide)
  have ha3 : M (b + 3) = some (.inr (0, 12, .inl (fun i => iZ (σ 13 i 0)))) := hM.2.2 3 (by decide)
  have ha4 : M (b + 4) = some (.inr (0, 96, .inl (fun i => iZ (σ 14 (i / 8) (i % 8))))) := hM.2.2 4 (by decide)
  have ha11 : M (b + 11) = some (.inr (0, 96, .inl (fun i => iZ (σ 25 (i / 8) (i % 8))))) := hM.2.2 11 (by decide)
  have hRt := (hV.t t).2.2.2.1
  have hRu := (hV.u u).2.2.2.2.1
  have ht1 := hRt.1
  have hu1 := hRu.1
  have hrn : ∀ T : Int, 0 ≤ T → T ≤ 2 → inR (T * σ 24 u 0) := fun T h1 h2 => by
    rcases (show T = 0 ∨ T = 1 ∨ T = 2 by omega) with rfl | rfl | rfl <;> constructor <;> omega
  have loop : ∀ (T : Int) (N : Nat), 0 ≤ T → T ≤ 2 → (T * σ 24 u 0 = (N : Int)) → (0 < N → (1 ≤ σ 24 u 0 ∧ (N : Int) ≤ 2 * σ 24 u 0 ∧ (N : Int) ≤ 8)) → (¬ fitP σ t u N → K (.inl (some (.int (iZ 0)))) M sz) → (fitP σ t u N → K (.inl (some (.int (iZ T)))) M sz) → ∀ (k9 k : Nat), k + k9 = N → G X 63 [.ref r, .int (iZ (t : Int)), .int (iZ (u : Int)), .int (iZ (σ 24 u 0)), .int (iZ T), .int (iZ (bZ (fitP σ t u k))), .int (iZ (k : Int))] [] M sz 0 0 := by
    intro T N hT1 hT2 hTN hN hKf hKt k9
    induction k9 with
    | zero =>
      intro k hk
      have hkN : k = N := by omega
      have hr9 := hrn T hT1 hT2
      rw [hTN] at hr9
      have hr8 := hr9
      unfold inR at hr8
      refine g_iload hX dX10_fit_63 rfl ?_
      refine g_iload hX dX10_fit_65 rfl ?_
      refine g_iload hX dX10_fit_67 rfl ?_
      refine z_imul hX dX10_fit_68 ?_
      rw [hTN]
      refine z_icmp_ge hX dX10_fit_69 (by first | assumption | (constructor <;> omega)) (by first | assumption | (constructor <;> omega)) (fun c69 => ?_) (fun c69 => ?_)
      · refine g_iload hX dX10_fit_117 rfl ?_
        refine z_ifb_eq hX dX10_fit_119 (fun c119 => ?_) (fun c119 => ?_)
        · refine g_const hX dX10_fit_127 ?_
          refine g_iret hX hR dX10_fit_128 rfl rfl (by decide) (by decide) ?_
          exact hKf (by rw [hkN] at c119; exact c119)
        · refine g_iload hX dX10_fit_122 rfl ?_
          refine g_goto hX dX10_fit_124 ?_
          refine g_iret hX hR dX10_fit_128 rfl rfl (by decide) (by decide) ?_
          exact hKt (by rw [hkN] at c119; exact c119)
      · exfalso; omega
    | succ k9 ih =>
      intro k hk
      obtain ⟨hn1, hn2, hn3⟩ := hN (by omega)
      have hn8 : 1 ≤ σ 24 u 0 ∧ σ 24 u 0 ≤ 8 := by omega
      refine g_iload hX dX10_fit_63 rfl ?_
      refine g_iload hX dX10_fit_65 rfl ?_
      refine g_iload hX dX10_fit_67 rfl ?_
      refine z_imul hX dX10_fit_68 ?_
      rw [hTN]
      refine z_icmp_ge hX dX10_fit_69 (by first | assumption | (constructor <;> omega)) (by first | assumption | (constructor <;> omega)) (fun c69 => ?_) (fun c69 => ?_)
      · exfalso; omega
      · refine g_iload hX dX10_fit_72 rfl ?_
        refine g_aload hX dX10_fit_74 rfl rfl ?_
        refine g_get hX dX10_fit_75 (by first | assumption | exact hM.2.1) rfl ?_
        refine g_const hX dX10_fit_78 ?_
        refine g_iload hX dX10_fit_80 rfl ?_
        refine z_imul hX dX10_fit_81 ?_
        refine g_iload hX dX10_fit_82 rfl ?_
        refine z_iadd hX dX10_fit_84 ?_
        refine z_iald hX dX10_fit_85 ha4 (by omega) (by omega) (by decide) rfl ?_
        rw [(div8 (t := t) (k := k) (by omega)).1, (div8 (t := t) (k := k) (by omega)).2]
        refine g_aload hX dX10_fit_86 rfl rfl ?_
        refine g_get hX dX10_fit_87 (by first | assumption | exact hM.2.1) rfl ?_
        refine g_const hX dX10_fit_90 ?_
        refine g_iload hX dX10_fit_92 rfl ?_
        refine z_imul hX dX10_fit_93 ?_
        refine g_iload hX dX10_fit_94 rfl ?_
        refine g_iload hX dX10_fit_96 rfl ?_
        refine z_irem hX dX10_fit_97 (by constructor <;> omega) (by constructor <;> omega) (by omega) (by omega) ?_
        rw [rem_w (k := k) hn8 (by omega)]
        have hwr := wrp_r (n := (σ 24 u 0).toNat) (k := k) (by omega)
        refine z_iadd hX dX10_fit_98 ?_
        refine z_iald hX dX10_fit_99 ha11 (by omega) (by omega) (by decide) rfl ?_
        rw [(div8 (t := u) (k := wrp (σ 24 u 0).toNat k) (by omega)).1, (div8 (t := u) (k := wrp (σ 24 u 0).toNat k) (by omega)).2]
        have hs1 := (hRt.2 k).1
        have hs2 := (hRu.2 (wrp (σ 24 u 0).toNat k)).1
        refine z_icmp_ne hX dX10_fit_100 (by constructor <;> omega) (by constructor <;> omega) (fun c100 => ?_) (fun c100 => ?_)
        · refine g_const hX dX10_fit_107 ?_
          refine g_eqL (lv' := _) (st' := [.int (iZ (bZ (σ 14 t k = σ 25 u (wrp (σ 24 u 0).toNat k)))), .int (iZ (bZ (fitP σ t u k)))]) rfl (by rw [bZ_f c100]) ?_
          refine z_iband hX dX10_fit_108 ?_
          refine g_istore hX dX10_fit_109 ?_
          dsimp only [List.set]
          refine z_iinc hX dX10_fit_111 rfl ?_
          dsimp only [List.set]
          refine g_goto hX dX10_fit_114 ?_
          have h9 := ih (k + 1) (by omega)
          rw [bZ_iff fitP_s] at h9
          exact h9
        · refine g_const hX dX10_fit_103 ?_
          refine g_goto hX dX10_fit_104 ?_
          refine g_eqL (lv' := _) (st' := [.int (iZ (bZ (σ 14 t k = σ 25 u (wrp (σ 24 u 0).toNat k)))), .int (iZ (bZ (fitP σ t u k)))]) rfl (by rw [bZ_t c100]) ?_
          refine z_iband hX dX10_fit_108 ?_
          refine g_istore hX dX10_fit_109 ?_
          dsimp only [List.set]
          refine z_iinc hX dX10_fit_111 rfl ?_
          dsimp only [List.set]
          refine g_goto hX dX10_fit_114 ?_
          have h9 := ih (k + 1) (by omega)
          rw [bZ_iff fitP_s] at h9
          exact h9
  refine g_aload hX dX10_fit_0 rfl rfl ?_
  refine g_get hX dX10_fit_1 (by first | assumption | exact hM.2.1) rfl ?_
  refine g_iload hX dX10_fit_4 rfl ?_
  refine z_iald hX dX10_fit_5 (by first | assumption | exact hM.2.1) (by omega) (by omega) (by decide) rfl ?_
  try simp only [Int.toNat_natCast]
  refine g_istore hX dX10_fit_6 ?_
  dsimp only [List.set]
  refine g_iload hX dX10_fit_7 rfl ?_
  refine z_if_ne hX dX10_fit_8 (by first | assumption | (constructor <;> omega)) (fun c8 => ?_) (fun c8 => ?_)
  · refine g_aload hX dX10_fit_15 rfl rfl ?_
    refine g_get hX dX10_fit_16 (by first | assumption | exact hM.2.1) rfl ?_
    refine g_iload hX dX10_fit_19 rfl ?_
    refine z_iald hX dX10_fit_20 (by first | assumption | exact hM.2.1) (by omega) (by omega) (by decide) rfl ?_
    try simp only [Int.toNat_natCast]
    refine g_iload hX dX10_fit_21 rfl ?_
    refine z_icmp_ne hX dX10_fit_22 (by first | assumption | (constructor <;> omega)) (by first | assumption | (constructor <;> omega)) (fun c22 => ?_) (fun c22 => ?_)
    · refine g_aload hX dX10_fit_29 rfl rfl ?_
      refine g_get hX dX10_fit_30 (by first | assumption | exact hM.2.1) rfl ?_
      refine g_iload hX dX10_fit_33 rfl ?_
      refine z_iald hX dX10_fit_34 (by first | assumption | exact hM.2.1) (by omega) (by omega) (by decide) rfl ?_
      try simp only [Int.toNat_natCast]
      refine g_const hX dX10_fit_35 ?_
      refine g_iload hX dX10_fit_36 rfl ?_
      refine z_imul hX dX10_fit_37 ?_
      refine z_icmp_ne hX dX10_fit_38 (by first | assumption | (constructor <;> omega)) (by first | assumption | (constructor <;> omega)) (fun c38 => ?_) (fun c38 => ?_)
      · refine g_const hX dX10_fit_45 ?_
        refine g_istore hX dX10_fit_46 ?_
        dsimp only [List.set]
        refine g_iload hX dX10_fit_48 rfl ?_
        refine z_if_le hX dX10_fit_50 (by first | assumption | (constructor <;> omega)) (fun c50 => ?_) (fun c50 => ?_)
        · refine g_const hX dX10_fit_57 ?_
          refine g_istore hX dX10_fit_58 ?_
          dsimp only [List.set]
          refine g_const hX dX10_fit_60 ?_
          refine g_istore hX dX10_fit_61 ?_
          dsimp only [List.set]
          refine g_iload hX dX10_fit_63 rfl ?_
          refine g_iload hX dX10_fit_65 rfl ?_
          refine g_iload hX dX10_fit_67 rfl ?_
          refine z_imul hX dX10_fit_68 ?_
          rw [Int.zero_mul]
          refine z_icmp_ge hX dX10_fit_69 (by first | assumption | (constructor <;> omega)) (by first | assumption | (constructor <;> omega)) (fun c69 => ?_) (fun c69 => ?_)
          · refine g_iload hX dX10_fit_117 rfl ?_
            refine z_if_eq hX dX10_fit_119 (by first | assumption | (constructor <;> omega)) (fun c119 => ?_) (fun c119 => ?_)
            · refine g_const hX dX10_fit_127 ?_
              refine g_iret hX hR dX10_fit_128 rfl rfl (by decide) (by decide) ?_
              exact kint hK (fit_m3 t u c22 c38)
            · exfalso; omega
          · exfalso; omega
        · exfalso; omega
      · refine g_const hX dX10_fit_41 ?_
        refine g_goto hX dX10_fit_42 ?_
        refine g_istore hX dX10_fit_46 ?_
        dsimp only [List.set]
        refine g_iload hX dX10_fit_48 rfl ?_
        refine z_if_le hX dX10_fit_50 (by first | assumption | (constructor <;> omega)) (fun c50 => ?_) (fun c50 => ?_)
        · exfalso; omega
        · refine g_const hX dX10_fit_53 ?_
          refine g_goto hX dX10_fit_54 ?_
          refine g_istore hX dX10_fit_58 ?_
          dsimp only [List.set]
          refine g_const hX dX10_fit_60 ?_
          refine g_istore hX dX10_fit_61 ?_
          dsimp only [List.set]
          have h9 := loop 2 (2 * σ 24 u 0).toNat (by decide) (by decide) (by omega) (fun z => ⟨by omega, by omega, by omega⟩) (fun z => kint hK (by rw [fit_m2 t u (by omega) c38, if_neg z])) (fun z => kint hK (by rw [fit_m2 t u (by omega) c38, if_pos z])) (2 * σ 24 u 0).toNat 0 (by omega)
          rw [show bZ (fitP σ t u 0) = 1 from bZ_t (fun j hj => absurd hj (Nat.not_lt_zero j))] at h9
          exact h9
    · refine g_const hX dX10_fit_25 ?_
      refine g_goto hX dX10_fit_26 ?_
      refine g_istore hX dX10_fit_46 ?_
      dsimp only [List.set]
      refine g_iload hX dX10_fit_48 rfl ?_
      refine z_if_le hX dX10_fit_50 (by first | assumption | (constructor <;> omega)) (fun c50 => ?_) (fun c50 => ?_)
      · exfalso; omega
      · refine g_const hX dX10_fit_53 ?_
        refine g_goto hX dX10_fit_54 ?_
        refine g_istore hX dX10_fit_58 ?_
        dsimp only [List.set]
        refine g_const hX dX10_fit_60 ?_
        refine g_istore hX dX10_fit_61 ?_
        dsimp only [List.set]
        have h9 := loop 1 (σ 24 u 0).toNat (by decide) (by decide) (by omega) (fun z => ⟨by omega, by omega, by omega⟩) (fun z => kint hK (by rw [fit_m1 t u (by omega) c22, if_neg z])) (fun z => kint hK (by rw [fit_m1 t u (by omega) c22, if_pos z])) (σ 24 u 0).toNat 0 (by omega)
        rw [show bZ (fitP σ t u 0) = 1 from bZ_t (fun j hj => absurd hj (Nat.not_lt_zero j))] at h9
        exact h9
  · refine g_const hX dX10_fit_11 ?_
    refine g_goto hX dX10_fit_12 ?_
    refine g_istore hX dX10_fit_46 ?_
    dsimp only [List.set]
    refine g_iload hX dX10_fit_48 rfl ?_
    refine z_if_le hX dX10_fit_50 (by first | assumption | (constructor <;> omega)) (fun c50 => ?_) (fun c50 => ?_)
    · refine g_const hX dX10_fit_57 ?_
      refine g_istore hX dX10_fit_58 ?_
      dsimp only [List.set]
      refine g_const hX dX10_fit_60 ?_
      refine g_istore hX dX10_fit_61 ?_
      dsimp only [List.set]
      refine g_iload hX dX10_fit_63 rfl ?_
      refine g_iload hX dX10_fit_65 rfl ?_
      refine g_iload hX dX10_fit_67 rfl ?_
      refine z_imul hX dX10_fit_68 ?_
      rw [Int.zero_mul]
      refine z_icmp_ge hX dX10_fit_69 (by first | assumption | (constructor <;> omega)) (by first | assumption | (constructor <;> omega)) (fun c69 => ?_) (fun c69 => ?_)
      · refine g_iload hX dX10_fit_117 rfl ?_
        refine z_if_eq hX dX10_fit_119 (by first | assumption | (constructor <;> omega)) (fun c119 => ?_) (fun c119 => ?_)
        · refine g_const hX dX10_fit_127 ?_
          refine g_iret hX hR dX10_fit_128 rfl rfl (by decide) (by decide) ?_
          exact kint hK (fit_m0 t u (by omega))
        · exfalso; omega
      · exfalso; omega
    · exfalso; omega
