/-! feasts, services, a new object -/

def sp_X9_addFeast (g : hG) : hS := fun as M sz K => ∃ (h : Nat) (A : Nat → Nat → Nat) (ow : Nat → Nat × Nat) (σ : SG) (τ : Nat → Nat → Int) (f : Nat) (r po mo dy mv : Int), as = [.ref h, .ref f] ∧ HX g.2.2.2.2 h A ow σ τ M ∧ SV σ ∧ ((∀ k i, VLD σ k i → A k i < f) ∧ ∀ j, j < 4 → A 0 j < f ∧ A 1 j < f) ∧ g.2.2.2.2 < f ∧ sz = f + 3 ∧ M f = some (.inl (1, [.int (iZ r), .int (iZ po), .int (iZ mo), .int (iZ dy), .ref (f + 1)])) ∧ M (f + 1) = some (.inl (2, [.ref (f + 2)])) ∧ M (f + 2) = some (.inr (0, 3, .inl (fun _ => iZ (-100)))) ∧ (σ 2 0 0 = 20 → ∀ s9, sz ≤ s9 → K (.inr tISE) M s9) ∧ (σ 2 0 0 ≠ 20 → ∀ (A3 : Nat → Nat → Nat) (ow3 : Nat → Nat × Nat) (M3 : hM) (s3 : Nat), HX g.2.2.2.2 h A3 ow3 (adF σ r po mo dy mv) τ M3 → K (.inl (some (.int (iZ (σ 2 0 0))))) M3 s3)
theorem s_X9_addFeast {l : Launch} {g : hG} (hst : l.stackTraces = false) : Ctr l g mX9_addFeast (sp_X9_addFeast g) := by
  refine Ctr.mk9 hst (by decide) ?_ ?_
  · rintro as M sz K ⟨h, A, ow, σ, τ, f, r, po, mo, dy, mv, rfl, hH, hV, hbd, haD, hszf, t1, t2, t3, hKx, hK⟩
    exact ⟨by simp [mX9_addFeast], cat_ok rfl⟩
  rintro X as M sz K hX rfl rfl hR ⟨h, A, ow, σ, τ, f, r, po, mo, dy, mv, rfl, hH, hV, hbd, haD, hszf, t1, t2, t3, hKx, hK⟩
  show G X 0 [.ref h, .ref f] [] M sz 0 0
  obtain ⟨n0, n1, n2, n3, ⟨e0, hn0⟩, ⟨e1, hn1⟩, ⟨e2, hn2⟩, ⟨e3, hn3⟩⟩ := hV.nat
  have hob := hH.ob
  have hl0 := hH.l0 e0
  obtain ⟨mo0, ho0⟩ := hl0.o
  have hl1 := hH.l1 e1
  obtain ⟨mo1, ho1⟩ := hl1.o
  have hl2 := hH.l2 e2
  obtain ⟨mo2, ho2⟩ := hl2.o
  have hl3 := hH.l3 e3
  obtain ⟨mo3, ho3⟩ := hl3.o
  have hbh9 : h < f := by rw [← hH.2.1]; exact hbd.1 2 0 (Or.inl ⟨by decide, by decide, rfl⟩)
  refine g_aload hX dX9_addFeast_0 rfl rfl ?_
  refine g_get hX dX9_addFeast_1 (by first | assumption | exact hob3 | exact ho9 | exact hob | exact ho0 | exact ho1 | exact ho2 | exact ho3) rfl ?_
  refine g_cV0 (c2 := 0) (s2 := 0) hX (s_Jx4a65c_size_8abf5 hst) dX9_addFeast_4 (by first | assumption | exact hob3 | exact ho9 | exact hob | exact ho0 | exact ho1 | exact ho2 | exact ho3) (by first | exact Nat.le_of_ble_eq_true rfl | simp [cat_rf, Value.category]) ⟨rfl, rfl, by decide, by decide⟩ ?_
  refine ⟨_, _, _, _, _, rfl, hl2, Kc_i ?_⟩
  refine g_const hX dX9_addFeast_7 ?_
  refine z_icmp_lt hX dX9_addFeast_9 (by first | assumption | (constructor <;> omega)) (by first | assumption | (constructor <;> omega)) (fun c9 => ?_) (fun c9 => ?_)
  · refine g_aload hX dX9_addFeast_23 rfl rfl ?_
    refine g_get hX dX9_addFeast_24 (by first | assumption | exact hob3 | exact ho9 | exact hob | exact ho0 | exact ho1 | exact ho2 | exact ho3) rfl ?_
    refine g_aload hX dX9_addFeast_27 rfl rfl ?_
    refine g_cV1 (c2 := 1) (s2 := 200) hX (s_Jx4a65c_add_9ea2d hst) dX9_addFeast_28 (by first | assumption | exact hob3 | exact ho9 | exact hob | exact ho0 | exact ho1 | exact ho2 | exact ho3) (by first | exact Nat.le_of_ble_eq_true rfl | simp [cat_rf, Value.category]) ⟨rfl, rfl, by decide, by decide⟩ ?_
    refine ⟨_, _, _, _, A 17, rfl, hl2, by omega, cst_1 t1, fun i hi => cst_1 (hH.fx (by omega)), fun e9 => (by have := (hbd.2 2 (by decide)).1; omega), fun i hi e9 => (by rw [← e9, hH.fx (by omega)] at ho2; cases ho2), fun M3 sz3 ea3 u1 u2 u3 u4 u5 => Kc_i ?_⟩
    have hb0 := hbd.2 2 (by decide)
    have hbh : h < sz := by omega
    have hob3 := (u2 h (fun e9 => by rw [e9, ho2] at hob; cases hob) (fun e9 => by
      rcases (hH.2.2.2 2 (by decide)).2.2 with e8 | e8
      · rw [e9, e8, hH.1] at hob; cases hob
      · rw [← e9, ← hH.2.1, (hH.2.2.1 2 0 (Or.inl ⟨by decide, by decide, rfl⟩)).2] at e8; cases e8) (by omega)).trans hob
    obtain ⟨mo9, ho9⟩ := u1.o
    refine g_pop hX dX9_addFeast_31 rfl ?_
    refine g_aload hX dX9_addFeast_32 rfl rfl ?_
    refine g_get hX dX9_addFeast_33 (by first | assumption | exact hob3 | exact ho9 | exact hob | exact ho0 | exact ho1 | exact ho2 | exact ho3) rfl ?_
    refine g_cV0 (c2 := 1) (s2 := 200) hX (s_Jx4a65c_size_8abf5 hst) dX9_addFeast_36 (by first | assumption | exact hob3 | exact ho9 | exact hob | exact ho0 | exact ho1 | exact ho2 | exact ho3) (by first | exact Nat.le_of_ble_eq_true rfl | simp [cat_rf, Value.category]) ⟨rfl, rfl, by decide, by decide⟩ ?_
    refine ⟨_, _, _, _, _, rfl, u1, Kc_i ?_⟩
    refine g_const hX dX9_addFeast_39 ?_
    refine z_isub hX dX9_addFeast_40 ?_
    refine g_iret hX hR dX9_addFeast_41 rfl rfl (by decide) (by decide) ?_
    obtain ⟨na, v17, v18, v19⟩ : ∃ na : Nat → Nat, na 17 = f ∧ na 18 = f + 1 ∧ na 19 = f + 2 := ⟨fun k => f + (k - 17), rfl, rfl, rfl⟩
    obtain ⟨kf, k17, k18, k19⟩ : ∃ kf : Nat → Nat, kf (f) = 17 ∧ kf (f + 1) = 18 ∧ kf (f + 2) = 19 := ⟨fun q => q - f + 17, by dsimp only; omega, by dsimp only; omega, by dsimp only; omega⟩
    have hb0 := hbd.2 2 (by decide)
    have hne3 : ∀ q, f ≤ q → q < f + 3 → M3 q = M q := fun q z1 z2 => u2 q (by omega) (by omega) (by omega)
    have hnt : (σ 2 0 0).toNat = n2 := by omega
    have hvv := adF_v (σ := σ) (r := r) (po := po) (mo := mo) (dy := dy) (mv := mv)
    rw [hnt] at hvv
    have cnt : adF σ r po mo dy mv 2 0 0 = σ 2 0 0 + 1 := hvv.2.2.2.2.2
    have h35 : σ 35 n2 = fun _ => -100 := funext (fun k => hV.f.2.2 n2 k (by omega) (by omega))
    have z18 : exA A na ea3 2 17 19 n2 18 n2 = f + 1 := (exA_n (by decide) (by decide)).trans v18
    have z19 : exA A na ea3 2 17 19 n2 19 n2 = f + 2 := (exA_n (by decide) (by decide)).trans v19
    have hnew : ∀ k, 17 ≤ k → k ≤ 19 → M3 (na k) = some (CELL (exA A na ea3 2 17 19 n2) (adF σ r po mo dy mv) τ k n2) := by
      intro k h1 h2
      rcases (show k = 17 ∨ k = 18 ∨ k = 19 by omega) with rfl | rfl | rfl
      · rw [v17, hne3 f (by omega) (by omega), t1]
        unfold CELL
        simp only [hvv.1, hvv.2.1, hvv.2.2.1, hvv.2.2.2.1, z18]
      · rw [v18, hne3 (f + 1) (by omega) (by omega), t2]
        unfold CELL
        simp only [z19]
      · rw [v19, hne3 (f + 2) (by omega) (by omega), t3]
        unfold CELL
        simp only [adF_c (σ := σ) (r := r) (po := po) (mo := mo) (dy := dy) (mv := mv) 35 (by decide) (by decide) (by decide) (by decide) (by decide) (by decide), h35]
        rfl
    obtain ⟨ow3, hH3⟩ := hH.ext hV (σ' := adF σ r po mo dy mv) (sz := f) (ea' := ea3) (n := n2) 2 17 19 na kf (by decide) hbd haD (by decide) (by omega) e2 (by rw [cnt, e2]) (fun i h1 h2 => congrFun (congrFun (adF_c i (by omega) (by omega) (by omega) (by omega) (by omega) (by omega)) 0) 0) (fun k i hv => by
      unfold VLD at hv ⊢
      rw [cnt, adF_c (σ := σ) (r := r) (po := po) (mo := mo) (dy := dy) (mv := mv) 0 (by decide) (by decide) (by decide) (by decide) (by decide) (by decide), adF_c (σ := σ) (r := r) (po := po) (mo := mo) (dy := dy) (mv := mv) 1 (by decide) (by decide) (by decide) (by decide) (by decide) (by decide), adF_c (σ := σ) (r := r) (po := po) (mo := mo) (dy := dy) (mv := mv) 3 (by decide) (by decide) (by decide) (by decide) (by decide) (by decide)] at hv
      omega) (fun k h1 h2 hv => by unfold VLD at hv; omega) (fun k h1 h2 => by
      rcases (show k = 17 ∨ k = 18 ∨ k = 19 by omega) with rfl | rfl | rfl
      · exact ⟨by rw [v17]; exact k17, by omega, by omega⟩
      · exact ⟨by rw [v18]; exact k18, by omega, by omega⟩
      · exact ⟨by rw [v19]; exact k19, by omega, by omega⟩) (u3.imp id (fun z => by omega)) (fun q z1 z2 z3 => u2 q z1 z2 (by omega)) (fun q x hx => (u5 q x hx).imp id (fun z => by omega)) (by decide) (u1.congr (fun k hk => by
      by_cases e9 : k = n2
      · rw [if_pos e9, if_pos e9]; exact v17.symm
      · rw [if_neg e9, if_neg e9]; rfl)) hnew ⟨by rw [adF_c (σ := σ) (r := r) (po := po) (mo := mo) (dy := dy) (mv := mv) 4 (by decide) (by decide) (by decide) (by decide) (by decide) (by decide)], fun c i z1 z2 z3 => by rw [adF_c c (by omega) (by omega) (by omega) (by omega) (by omega) (by omega)], fun c i z1 z2 z3 => by rw [adF_c c (by omega) (by omega) (by omega) (by omega) (by omega) (by omega)], fun c i z1 z2 z3 => adF_i (by omega) (by omega), adF_c (σ := σ) (r := r) (po := po) (mo := mo) (dy := dy) (mv := mv) 35 (by decide) (by decide) (by decide) (by decide) (by decide) (by decide), fun c i z1 z2 z3 => by rw [adF_c c (by omega) (by omega) (by omega) (by omega) (by omega) (by omega)]⟩
    exact kint (hK (by omega) _ _ _ _ hH3) (by omega)
  · refine g_throw hX hR dX9_addFeast_12 (by decide) (by decide) (fun sz9 hsz9 => ?_)
    exact hKx (by omega) _ hsz9

def sp_X9_feast (g : hG) : hS := fun as M sz K => ∃ (h : Nat) (A : Nat → Nat → Nat) (ow : Nat → Nat × Nat) (σ : SG) (τ : Nat → Nat → Int) (r : Int) (po : Int) (m : Int) (d : Int), as = [.ref h, .int (iZ r), .int (iZ po), .int (iZ m), .int (iZ d)] ∧ HX g.2.2.2.2 h A ow σ τ M ∧ SV σ ∧ inR r ∧ (po = 0 ∨ po = 1) ∧ inR m ∧ inR d ∧ KO g.2.2.2.2 h (E3 tIAE tISE tISE) (oc_feast σ r po m d) K
theorem s_X9_feast {l : Launch} {g : hG} (hst : l.stackTraces = false) : Ctr l g mX9_feast (sp_X9_feast g) := by
  refine Ctr.mk9 hst (by decide) ?_ ?_
  · rintro as M sz K ⟨h, A, ow, σ, τ, r, po, m, d, rfl, hH, hV, hrr, hrpo, hrm, hrd, hK⟩
    exact ⟨by simp [mX9_feast], cat_ok rfl⟩
  rintro X as M sz K hX rfl rfl hR ⟨h, A, ow, σ, τ, r, po, m, d, rfl, hH, hV, hrr, hrpo, hrm, hrd, hK⟩
  show G X 0 [.ref h, .int (iZ r), .int (iZ po), .int (iZ m), .int (iZ d)] [] M sz 0 0
  obtain ⟨n0, n1, n2, n3, ⟨e0, hn0⟩, ⟨e1, hn1⟩, ⟨e2, hn2⟩, ⟨e3, hn3⟩⟩ := hV.nat
  have hob := hH.ob
  have hl0 := hH.l0 e0
  obtain ⟨mo0, ho0⟩ := hl0.o
  have hl1 := hH.l1 e1
  obtain ⟨mo1, ho1⟩ := hl1.o
  have hl2 := hH.l2 e2
  obtain ⟨mo2, ho2⟩ := hl2.o
  have hl3 := hH.l3 e3
  obtain ⟨mo3, ho3⟩ := hl3.o
  refine g_dom hX (fun hdom => ?_)
  have hdd : ∀ (q : Nat) (x : hC), M q = some x → q < sz := fun q x h9 => (hdom q x h9).1
  have haD : X.2.2.2.2.2.2.2.2.2 < sz := by have := hX.aD; have := hdom h _ hob; omega
  have hH0 := hH
  have hbd := hH.bnd hdd haD
  refine g_iload hX dX9_feast_0 rfl ?_
  refine g_const hX dX9_feast_1 ?_
  refine g_const hX dX9_feast_2 ?_
  refine g_cS3 (c2 := 1) (s2 := 6) hX (s_X9_requireRange hst) dX9_feast_4 (by first | exact Nat.le_of_ble_eq_true rfl | simp [cat_rf, Value.category]) ⟨rfl, rfl, by decide, by decide⟩ ?_
  refine ⟨_, _, _, rfl, (by first | assumption | (constructor <;> omega)), (by first | assumption | (constructor <;> omega)), (by first | assumption | (constructor <;> omega)), fun q1 => Kc_v ?_, fun h9 s9 hs9 => Kc_x (gx_out hX hR rfl (by decide) (by decide) (KX hK (c := 1) (if_pos (fun q => h9 q.1)) (by decide) rfl hH hV))⟩
  refine g_const hX dX9_feast_7 ?_
  refine g_iload hX dX9_feast_10 rfl ?_
  refine g_iload hX dX9_feast_11 rfl ?_
  refine g_cS3 (c2 := 4) (s2 := 24) hX (s_X9_requireDay hst) dX9_feast_13 (by first | exact Nat.le_of_ble_eq_true rfl | simp [cat_rf, Value.category]) ⟨rfl, rfl, by decide, by decide⟩ ?_
  refine ⟨_, _, _, rfl, (by constructor <;> omega), (by assumption), (by assumption), fun qd => Kc_v ?_, fun h9 s9 hs9 => Kc_x (gx_out hX hR rfl (by decide) (by decide) (KX hK (c := 1) (if_pos (fun q => h9 q.2)) (by decide) rfl hH hV))⟩
  obtain ⟨qy, qm, qd1, qd2⟩ := id qd
  have hml := mlen_r 2000 m
  refine g_aload hX dX9_feast_16 rfl rfl ?_
  refine o_new hX dX9_feast_17 rfl (by decide) (by decide) (fun M1 hs1 hn1 => ?_)
  have hk1 : ∀ q, q < sz → M1 q = M q := fun q h9 => hn1 q (by omega)
  have hH := hH0.low hdd haD hk1
  have hob := hH.ob
  have hl0 := hH.l0 e0
  obtain ⟨mo0, ho0⟩ := hl0.o
  have hl1 := hH.l1 e1
  obtain ⟨mo1, ho1⟩ := hl1.o
  have hl2 := hH.l2 e2
  obtain ⟨mo2, ho2⟩ := hl2.o
  have hl3 := hH.l3 e3
  obtain ⟨mo3, ho3⟩ := hl3.o
  refine g_dup hX dX9_feast_20 rfl ?_
  refine g_iload hX dX9_feast_21 rfl ?_
  refine g_iload hX dX9_feast_22 rfl ?_
  refine g_iload hX dX9_feast_23 rfl ?_
  refine g_iload hX dX9_feast_24 rfl ?_
  refine g_cIN4 (c2 := 7) (s2 := 33) hX (s_X1_init hst) dX9_feast_26 (by first | exact Nat.le_of_ble_eq_true rfl | simp [cat_rf, Value.category]) ⟨rfl, rfl, by decide, by decide⟩ ?_
  refine ⟨_, _, _, _, _, _, _, _, _, _, rfl, hs1, (by assumption), fun M2 t1 t2 t3 t4 => Kc_v ?_⟩
  have hk2 : ∀ q, q < sz → M2 q = M q := fun q h9 => (t4.1 q (by omega) (by omega)).trans (hk1 q h9)
  have hH := hH0.low hdd haD hk2
  have hob := hH.ob
  have hl0 := hH.l0 e0
  obtain ⟨mo0, ho0⟩ := hl0.o
  have hl1 := hH.l1 e1
  obtain ⟨mo1, ho1⟩ := hl1.o
  have hl2 := hH.l2 e2
  obtain ⟨mo2, ho2⟩ := hl2.o
  have hl3 := hH.l3 e3
  obtain ⟨mo3, ho3⟩ := hl3.o
  refine g_cV1 (c2 := 9) (s2 := 239) hX (s_X9_addFeast hst) dX9_feast_29 (by first | assumption | exact hob3 | exact ho9 | exact hob | exact ho0 | exact ho1 | exact ho2 | exact ho3) (by first | exact Nat.le_of_ble_eq_true rfl | simp [cat_rf, Value.category]) ⟨rfl, rfl, by decide, by decide⟩ ?_
  refine ⟨_, _, _, _, _, sz, _, _, _, _, 0, rfl, hH, hV, hbd, haD, rfl, t1, t2, t3, fun h9 s9 hs9 => Kc_x (gx_out hX hR rfl (by decide) (by decide) (KX hK (c := 2) ((if_neg (fun q => q ⟨q1, qd⟩)).trans (if_pos h9)) (by decide) rfl hH hV)), fun h9 A3 ow3 M3 s3 hH3 => Kc_i ?_⟩
  refine g_iret hX hR dX9_feast_32 rfl rfl (by decide) (by decide) ?_
  exact KV hK ((if_neg (fun q => q ⟨q1, qd⟩)).trans (if_neg h9)) hH3 (SV_adF hV ⟨q1, hrpo, Or.inr ⟨qm, by omega, by omega⟩⟩ (bZ_f (by omega)).symm h9)

def sp_X9_moving (g : hG) : hS := fun as M sz K => ∃ (h : Nat) (A : Nat → Nat → Nat) (ow : Nat → Nat × Nat) (σ : SG) (τ : Nat → Nat → Int) (r : Int) (po : Int) (d : Int), as = [.ref h, .int (iZ r), .int (iZ po), .int (iZ d)] ∧ HX g.2.2.2.2 h A ow σ τ M ∧ SV σ ∧ inR r ∧ (po = 0 ∨ po = 1) ∧ inR d ∧ KO g.2.2.2.2 h (E3 tIAE tISE tISE) (oc_moving σ r po d) K
theorem s_X9_moving {l : Launch} {g : hG} (hst : l.stackTraces = false) : Ctr l g mX9_moving (sp_X9_moving g) := by
  refine Ctr.mk9 hst (by decide) ?_ ?_
  · rintro as M sz K ⟨h, A, ow, σ, τ, r, po, d, rfl, hH, hV, hrr, hrpo, hrd, hK⟩
    exact ⟨by simp [mX9_moving], cat_ok rfl⟩
  rintro X as M sz K hX rfl rfl hR ⟨h, A, ow, σ, τ, r, po, d, rfl, hH, hV, hrr, hrpo, hrd, hK⟩
  show G X 0 [.ref h, .int (iZ r), .int (iZ po), .int (iZ d)] [] M sz 0 0
  obtain ⟨n0, n1, n2, n3, ⟨e0, hn0⟩, ⟨e1, hn1⟩, ⟨e2, hn2⟩, ⟨e3, hn3⟩⟩ := hV.nat
  have hob := hH.ob
  have hl0 := hH.l0 e0
  obtain ⟨mo0, ho0⟩ := hl0.o
  have hl1 := hH.l1 e1
  obtain ⟨mo1, ho1⟩ := hl1.o
  have hl2 := hH.l2 e2
  obtain ⟨mo2, ho2⟩ := hl2.o
  have hl3 := hH.l3 e3
  obtain ⟨mo3, ho3⟩ := hl3.o
  refine g_dom hX (fun hdom => ?_)
  have hdd : ∀ (q : Nat) (x : hC), M q = some x → q < sz := fun q x h9 => (hdom q x h9).1
  have haD : X.2.2.2.2.2.2.2.2.2 < sz := by have := hX.aD; have := hdom h _ hob; omega
  have hH0 := hH
  have hbd := hH.bnd hdd haD
  refine g_iload hX dX9_moving_0 rfl ?_
  refine g_const hX dX9_moving_1 ?_
  refine g_const hX dX9_moving_2 ?_
  refine g_cS3 (c2 := 1) (s2 := 6) hX (s_X9_requireRange hst) dX9_moving_4 (by first | exact Nat.le_of_ble_eq_true rfl | simp [cat_rf, Value.category]) ⟨rfl, rfl, by decide, by decide⟩ ?_
  refine ⟨_, _, _, rfl, (by first | assumption | (constructor <;> omega)), (by first | assumption | (constructor <;> omega)), (by first | assumption | (constructor <;> omega)), fun q1 => Kc_v ?_, fun h9 s9 hs9 => Kc_x (gx_out hX hR rfl (by decide) (by decide) (KX hK (c := 1) (if_pos (fun q => h9 q.1)) (by decide) rfl hH hV))⟩
  refine g_iload hX dX9_moving_7 rfl ?_
  refine g_const hX dX9_moving_8 ?_
  refine g_const hX dX9_moving_10 ?_
  refine g_cS3 (c2 := 2) (s2 := 12) hX (s_X9_requireRange hst) dX9_moving_12 (by first | exact Nat.le_of_ble_eq_true rfl | simp [cat_rf, Value.category]) ⟨rfl, rfl, by decide, by decide⟩ ?_
  refine ⟨_, _, _, rfl, (by first | assumption | (constructor <;> omega)), (by first | assumption | (constructor <;> omega)), (by first | assumption | (constructor <;> omega)), fun q2 => Kc_v ?_, fun h9 s9 hs9 => Kc_x (gx_out hX hR rfl (by decide) (by decide) (KX hK (c := 1) (if_pos (fun q => h9 q.2)) (by decide) rfl hH hV))⟩
  refine g_aload hX dX9_moving_15 rfl rfl ?_
  refine o_new hX dX9_moving_16 rfl (by decide) (by decide) (fun M1 hs1 hn1 => ?_)
  have hk1 : ∀ q, q < sz → M1 q = M q := fun q h9 => hn1 q (by omega)
  have hH := hH0.low hdd haD hk1
  have hob := hH.ob
  have hl0 := hH.l0 e0
  obtain ⟨mo0, ho0⟩ := hl0.o
  have hl1 := hH.l1 e1
  obtain ⟨mo1, ho1⟩ := hl1.o
  have hl2 := hH.l2 e2
  obtain ⟨mo2, ho2⟩ := hl2.o
  have hl3 := hH.l3 e3
  obtain ⟨mo3, ho3⟩ := hl3.o
  refine g_dup hX dX9_moving_19 rfl ?_
  refine g_iload hX dX9_moving_20 rfl ?_
  refine g_iload hX dX9_moving_21 rfl ?_
  refine g_const hX dX9_moving_22 ?_
  refine g_iload hX dX9_moving_23 rfl ?_
  refine g_cIN4 (c2 := 5) (s2 := 21) hX (s_X1_init hst) dX9_moving_24 (by first | exact Nat.le_of_ble_eq_true rfl | simp [cat_rf, Value.category]) ⟨rfl, rfl, by decide, by decide⟩ ?_
  refine ⟨_, _, _, _, _, _, _, _, _, _, rfl, hs1, (by assumption), fun M2 t1 t2 t3 t4 => Kc_v ?_⟩
  have hk2 : ∀ q, q < sz → M2 q = M q := fun q h9 => (t4.1 q (by omega) (by omega)).trans (hk1 q h9)
  have hH := hH0.low hdd haD hk2
  have hob := hH.ob
  have hl0 := hH.l0 e0
  obtain ⟨mo0, ho0⟩ := hl0.o
  have hl1 := hH.l1 e1
  obtain ⟨mo1, ho1⟩ := hl1.o
  have hl2 := hH.l2 e2
  obtain ⟨mo2, ho2⟩ := hl2.o
  have hl3 := hH.l3 e3
  obtain ⟨mo3, ho3⟩ := hl3.o
  refine g_cV1 (c2 := 7) (s2 := 227) hX (s_X9_addFeast hst) dX9_moving_27 (by first | assumption | exact hob3 | exact ho9 | exact hob | exact ho0 | exact ho1 | exact ho2 | exact ho3) (by first | exact Nat.le_of_ble_eq_true rfl | simp [cat_rf, Value.category]) ⟨rfl, rfl, by decide, by decide⟩ ?_
  refine ⟨_, _, _, _, _, sz, _, _, _, _, 1, rfl, hH, hV, hbd, haD, rfl, t1, t2, t3, fun h9 s9 hs9 => Kc_x (gx_out hX hR rfl (by decide) (by decide) (KX hK (c := 2) ((if_neg (fun q => q ⟨q1, q2⟩)).trans (if_pos h9)) (by decide) rfl hH hV)), fun h9 A3 ow3 M3 s3 hH3 => Kc_i ?_⟩
  refine g_iret hX hR dX9_moving_30 rfl rfl (by decide) (by decide) ?_
  exact KV hK ((if_neg (fun q => q ⟨q1, q2⟩)).trans (if_neg h9)) hH3 (SV_adF hV ⟨q1, hrpo, Or.inl ⟨rfl, q2⟩⟩ (bZ_t rfl).symm h9)

def sp_X9_sing (g : hG) : hS := fun as M sz K => ∃ (h : Nat) (A : Nat → Nat → Nat) (ow : Nat → Nat × Nat) (σ : SG) (τ : Nat → Nat → Int) (y : Int) (m : Int) (d : Int), as = [.ref h, .int (iZ y), .int (iZ m), .int (iZ d)] ∧ HX g.2.2.2.2 h A ow σ τ M ∧ SV σ ∧ inR y ∧ inR m ∧ inR d ∧ KO g.2.2.2.2 h (E3 tIAE tISE tISE) (oc_sing σ y m d) K
theorem s_X9_sing {l : Launch} {g : hG} (hst : l.stackTraces = false) : Ctr l g mX9_sing (sp_X9_sing g) := by
  refine Ctr.mk9 hst (by decide) ?_ ?_
  · rintro as M sz K ⟨h, A, ow, σ, τ, y, m, d, rfl, hH, hV, hry, hrm, hrd, hK⟩
    exact ⟨by simp [mX9_sing], cat_ok rfl⟩
  rintro X as M sz K hX rfl rfl hR ⟨h, A, ow, σ, τ, y, m, d, rfl, hH, hV, hry, hrm, hrd, hK⟩
  show G X 0 [.ref h, .int (iZ y), .int (iZ m), .int (iZ d), U9, U9, U9, U9, U9] [] M sz 0 0
  obtain ⟨n0, n1, n2, n3, ⟨e0, hn0⟩, ⟨e1, hn1⟩, ⟨e2, hn2⟩, ⟨e3, hn3⟩⟩ := hV.nat
  have hob := hH.ob
  have hl0 := hH.l0 e0
  obtain ⟨mo0, ho0⟩ := hl0.o
  have hl1 := hH.l1 e1
  obtain ⟨mo1, ho1⟩ := hl1.o
  have hl2 := hH.l2 e2
  obtain ⟨mo2, ho2⟩ := hl2.o
  have hl3 := hH.l3 e3
  obtain ⟨mo3, ho3⟩ := hl3.o
  refine g_iload hX dX9_sing_0 rfl ?_
  refine g_iload hX dX9_sing_1 rfl ?_
  refine g_iload hX dX9_sing_2 rfl ?_
  refine g_cS3 (c2 := 3) (s2 := 18) hX (s_X9_requireDay hst) dX9_sing_3 (by first | exact Nat.le_of_ble_eq_true rfl | simp [cat_rf, Value.category]) ⟨rfl, rfl, by decide, by decide⟩ ?_
  refine ⟨_, _, _, rfl, (by first | assumption | (constructor <;> omega)), (by first | assumption | (constructor <;> omega)), (by first | assumption | (constructor <;> omega)), fun qd => Kc_v ?_, fun h9 s9 hs9 => Kc_x (gx_out hX hR rfl (by decide) (by decide) (KX hK (c := 1) (if_pos h9) (by decide) rfl hH hV))⟩
  obtain ⟨qy, qm, qd1, qd2⟩ := id qd
  have hml := mlen_r y m
  have hyl := ylen_r y
  have hcd := cal_d qm ⟨qd1, qd2⟩
  refine g_iload hX dX9_sing_6 rfl ?_
  refine g_iload hX dX9_sing_7 rfl ?_
  refine g_iload hX dX9_sing_8 rfl ?_
  refine g_cSN3 (c2 := 3) (s2 := 18) hX (s_X0_dayOfYear hst) dX9_sing_9 (by first | exact Nat.le_of_ble_eq_true rfl | simp [cat_rf, Value.category]) ⟨rfl, rfl, by decide, by decide⟩ ?_
  refine ⟨_, _, _, rfl, by omega, by omega, by omega, Kc_i ?_⟩
  have hdn := dnum_r (y := y) (p := placeZ y m d) (by omega) (by omega)
  refine g_istore hX dX9_sing_12 ?_
  dsimp only [List.set]
  refine g_iload hX dX9_sing_14 rfl ?_
  refine g_iload hX dX9_sing_15 rfl ?_
  refine g_cSN2 (c2 := 3) (s2 := 18) hX (s_X0_dayNumber hst) dX9_sing_17 (by first | exact Nat.le_of_ble_eq_true rfl | simp [cat_rf, Value.category]) ⟨rfl, rfl, by decide, by decide⟩ ?_
  refine ⟨_, _, rfl, by omega, by omega, Kc_i ?_⟩
  refine g_istore hX dX9_sing_20 ?_
  dsimp only [List.set]
  refine g_aload hX dX9_sing_22 rfl rfl ?_
  refine g_get hX dX9_sing_23 (by first | assumption | exact hob3 | exact ho9 | exact hob | exact ho0 | exact ho1 | exact ho2 | exact ho3) rfl ?_
  refine g_cV0 (c2 := 3) (s2 := 18) hX (s_Jx4a65c_size_8abf5 hst) dX9_sing_26 (by first | assumption | exact hob3 | exact ho9 | exact hob | exact ho0 | exact ho1 | exact ho2 | exact ho3) (by first | exact Nat.le_of_ble_eq_true rfl | simp [cat_rf, Value.category]) ⟨rfl, rfl, by decide, by decide⟩ ?_
  refine ⟨_, _, _, _, _, rfl, hl3, Kc_i ?_⟩
  refine g_const hX dX9_sing_29 ?_
  refine z_icmp_ge hX dX9_sing_31 (by first | assumption | (constructor <;> omega)) (by first | assumption | (constructor <;> omega)) (fun c31 => ?_) (fun c31 => ?_)
  · refine g_throw hX hR dX9_sing_43 (by decide) (by decide) (fun sz9 hsz9 => ?_)
    exact KX hK (c := 2) ((if_neg (fun q => q qd)).trans (if_pos (Or.inl (by omega)))) (by decide) rfl hH hV
  · refine g_aload hX dX9_sing_34 rfl rfl ?_
    refine g_iload hX dX9_sing_35 rfl ?_
    refine g_cV1 (c2 := 3) (s2 := 18) hX (s_X9_isBehindLatestService hst) dX9_sing_37 (by first | assumption | exact hob3 | exact ho9 | exact hob | exact ho0 | exact ho1 | exact ho2 | exact ho3) (by first | exact Nat.le_of_ble_eq_true rfl | simp [cat_rf, Value.category]) ⟨rfl, rfl, by decide, by decide⟩ ?_
    refine ⟨_, _, _, _, _, _, rfl, hH, hV, by omega, Kc_i ?_⟩
    refine z_ifb_ne hX dX9_sing_40 (fun c40 => ?_) (fun c40 => ?_)
    · refine g_aload hX dX9_sing_53 rfl rfl ?_
      refine g_iload hX dX9_sing_54 rfl ?_
      refine g_iload hX dX9_sing_55 rfl ?_
      refine g_cV2 (c2 := 3) (s2 := 18) hX (s_X9_themeOf hst) dX9_sing_57 (by first | assumption | exact hob3 | exact ho9 | exact hob | exact ho0 | exact ho1 | exact ho2 | exact ho3) (by first | exact Nat.le_of_ble_eq_true rfl | simp [cat_rf, Value.category]) ⟨rfl, rfl, by decide, by decide⟩ ?_
      refine ⟨_, _, _, _, _, _, _, rfl, hH, hV, by omega, by omega, fun τ1 Mt hH v hv => Kc_i ?_⟩
      have hob := hH.ob
      have hl0 := hH.l0 e0
      obtain ⟨mo0, ho0⟩ := hl0.o
      have hl1 := hH.l1 e1
      obtain ⟨mo1, ho1⟩ := hl1.o
      have hl2 := hH.l2 e2
      obtain ⟨mo2, ho2⟩ := hl2.o
      have hl3 := hH.l3 e3
      obtain ⟨mo3, ho3⟩ := hl3.o
      have hth := th_r hV y (placeZ y m d).toNat
      refine g_istore hX dX9_sing_60 ?_
      dsimp only [List.set]
      refine g_iload hX dX9_sing_62 rfl ?_
      refine g_const hX dX9_sing_64 ?_
      refine z_icmp_ne hX dX9_sing_66 (by first | assumption | (constructor <;> omega)) (by first | assumption | (constructor <;> omega)) (fun c66 => ?_) (fun c66 => ?_)
      · obtain ⟨w9, rfl⟩ : ∃ w9 : Nat, v = (w9 : Int) := ⟨v.toNat, by omega⟩
        refine g_aload hX dX9_sing_79 rfl rfl ?_
        refine g_iload hX dX9_sing_80 rfl ?_
        refine g_iload hX dX9_sing_82 rfl ?_
        refine g_iload hX dX9_sing_83 rfl ?_
        refine g_cV3 (c2 := 3) (s2 := 18) hX (s_X9_chooseText hst) dX9_sing_85 (by first | assumption | exact hob3 | exact ho9 | exact hob | exact ho0 | exact ho1 | exact ho2 | exact ho3) (by first | exact Nat.le_of_ble_eq_true rfl | simp [cat_rf, Value.category]) ⟨rfl, rfl, by decide, by decide⟩ ?_
        refine ⟨_, _, _, _, _, w9, _, _, rfl, hH, hV, by omega, by omega, by omega, Kc_i ?_⟩
        rcases hym_r σ (w9 : Int) y (dnumZ y (placeZ y m d)) (σ 0 0 0).toNat with hb | ⟨hb0, hb1, hb2⟩
        rotate_left
        obtain ⟨t9, hb⟩ : ∃ t9 : Nat, hymZ σ (w9 : Int) y (dnumZ y (placeZ y m d)) = (t9 : Int) := ⟨(hymZ σ (w9 : Int) y (dnumZ y (placeZ y m d))).toNat, by unfold hymZ; omega⟩
        rw [show hymK σ (w9 : Int) y (dnumZ y (placeZ y m d)) (σ 0 0 0).toNat = (t9 : Int) from hb] at hb0 hb1 hb2
        rw [Int.toNat_natCast] at hb2
        have ht9 : (t9 : Int) < σ 0 0 0 := by omega
        rw [rfZ_s hb]
        rotate_left
        rw [rfZ_n (show hymZ σ (w9 : Int) y (dnumZ y (placeZ y m d)) = -100 from hb)]
        rotate_left
        · refine g_astore hX dX9_sing_88 rfl ?_
          dsimp only [List.set]
          refine g_aload hX dX9_sing_90 rfl rfl ?_
          refine g_ifnonnull (r := some _) hX dX9_sing_92 rfl (fun a92 z92 => ?_) (fun z92 => absurd z92 (by simp))
          refine g_aload hX dX9_sing_99 rfl rfl ?_
          refine g_aload hX dX9_sing_100 rfl rfl ?_
          refine g_const hX dX9_sing_102 ?_
          refine g_iload hX dX9_sing_103 rfl ?_
          refine g_cV3 (c2 := 3) (s2 := 18) hX (s_X9_bestTune hst) dX9_sing_104 (by first | assumption | exact hob3 | exact ho9 | exact hob | exact ho0 | exact ho1 | exact ho2 | exact ho3) (by first | exact Nat.le_of_ble_eq_true rfl | simp [cat_rf, Value.category]) ⟨rfl, rfl, by decide, by decide⟩ ?_
          refine ⟨_, _, _, _, _, _, _, _, rfl, hH, hV, ht9, Or.inr rfl, by omega, Kc_i ?_⟩
          obtain ⟨hu0, hu1, hu2⟩ := (bstZ_r hV t9 1 y).resolve_left (rea_b hb2)
          obtain ⟨u9, hbu⟩ : ∃ u9 : Nat, bstZ σ t9 1 y = (u9 : Int) := ⟨(bstZ σ t9 1 y).toNat, by omega⟩
          rw [rfZ_s hbu]
          refine g_astore hX dX9_sing_107 rfl ?_
          dsimp only [List.set]
          refine g_aload hX dX9_sing_109 rfl rfl ?_
          refine g_ifnull (r := some _) hX dX9_sing_111 rfl (fun z111 => absurd z111 (by simp)) (fun a111 z111 => ?_)
          refine g_aload hX dX9_sing_114 rfl rfl ?_
          refine g_ifnonnull (r := some _) hX dX9_sing_116 rfl (fun a116 z116 => ?_) (fun z116 => absurd z116 (by simp))
          refine g_dom hX (fun hdom => ?_)
          have hdd : ∀ (q : Nat) (x : hC), Mt q = some x → q < sz := fun q x h9 => (hdom q x h9).1
          have haD : X.2.2.2.2.2.2.2.2.2 < sz := by have := hX.aD; have := hdom h _ hob; omega
          have hH0 := hH
          have hbd := hH.bnd hdd haD
          refine g_aload hX dX9_sing_129 rfl rfl ?_
          refine g_get hX dX9_sing_130 (by first | assumption | exact hob3 | exact ho9 | exact hob | exact ho0 | exact ho1 | exact ho2 | exact ho3) rfl ?_
          refine o_new hX dX9_sing_133 rfl (by decide) (by decide) (fun M1 hs1 hn1 => ?_)
          have hk1 : ∀ q, q < sz → M1 q = Mt q := fun q h9 => hn1 q (by omega)
          have hH := hH0.low hdd haD hk1
          have hob := hH.ob
          have hl0 := hH.l0 e0
          obtain ⟨mo0, ho0⟩ := hl0.o
          have hl1 := hH.l1 e1
          obtain ⟨mo1, ho1⟩ := hl1.o
          have hl2 := hH.l2 e2
          obtain ⟨mo2, ho2⟩ := hl2.o
          have hl3 := hH.l3 e3
          obtain ⟨mo3, ho3⟩ := hl3.o
          refine g_dup hX dX9_sing_136 rfl ?_
          refine g_aload hX dX9_sing_137 rfl rfl ?_
          refine g_aload hX dX9_sing_139 rfl rfl ?_
          refine g_iload hX dX9_sing_141 rfl ?_
          refine g_const hX dX9_sing_142 ?_
          refine g_iload hX dX9_sing_144 rfl ?_
          refine z_imul hX dX9_sing_145 ?_
          refine g_iload hX dX9_sing_146 rfl ?_
          refine z_iadd hX dX9_sing_147 ?_
          refine g_iload hX dX9_sing_148 rfl ?_
          refine g_cIN5 (c2 := 4) (s2 := 23) hX (s_X5_init hst) dX9_sing_150 (by first | exact Nat.le_of_ble_eq_true rfl | simp [cat_rf, Value.category]) ⟨rfl, rfl, by decide, by decide⟩ ?_
          refine ⟨_, _, _, _, _, _, _, _, _, _, _, rfl, hs1, Kc_v ?_⟩
          generalize hg9 : hup _ _ _ = M2
          have hn2 : ∀ q, q ≠ sz → M2 q = M1 q := fun q h9 => (congrFun hg9 q).symm.trans (hup_n _ _ h9)
          have t1 : M2 sz = _ := (congrFun hg9 sz).symm.trans (hup_s _ _ _)
          have hk2 : ∀ q, q < sz → M2 q = Mt q := fun q h9 => (hn2 q (by omega)).trans (hk1 q h9)
          have hH := hH0.low hdd haD hk2
          have hob := hH.ob
          have hl0 := hH.l0 e0
          obtain ⟨mo0, ho0⟩ := hl0.o
          have hl1 := hH.l1 e1
          obtain ⟨mo1, ho1⟩ := hl1.o
          have hl2 := hH.l2 e2
          obtain ⟨mo2, ho2⟩ := hl2.o
          have hl3 := hH.l3 e3
          obtain ⟨mo3, ho3⟩ := hl3.o
          refine g_cV1 (c2 := 5) (s2 := 223) hX (s_Jx4a65c_add_9ea2d hst) dX9_sing_153 (by first | assumption | exact hob3 | exact ho9 | exact hob | exact ho0 | exact ho1 | exact ho2 | exact ho3) (by first | exact Nat.le_of_ble_eq_true rfl | simp [cat_rf, Value.category]) ⟨rfl, rfl, by decide, by decide⟩ ?_
          refine ⟨_, _, _, _, A 20, rfl, hl3, by omega, cst_5 t1, fun i hi => cst_5 (hH.sx (by omega)), fun e9 => (by have := (hbd.2 3 (by decide)).1; omega), fun i hi e9 => (by rw [← e9, hH.sx (by omega)] at ho3; cases ho3), fun M3 sz3 ea3 u1 u2 u3 u4 u5 => Kc_i ?_⟩
          have hb0 := hbd.2 3 (by decide)
          have hbh : h < sz := hdd _ _ hH0.ob
          have hob3 := (u2 h (fun e9 => by rw [e9, ho3] at hob; cases hob) (fun e9 => by
            rcases (hH.2.2.2 3 (by decide)).2.2 with e8 | e8
            · rw [e9, e8, hH.1] at hob; cases hob
            · rw [← e9, ← hH.2.1, (hH.2.2.1 2 0 (Or.inl ⟨by decide, by decide, rfl⟩)).2] at e8; cases e8) (by omega)).trans hob
          obtain ⟨mo9, ho9⟩ := u1.o
          have htx := hH.tx ht9
          have htx3 := (u2 (A 7 t9) (fun e9 => by rw [e9, ho3] at htx; cases htx) (fun e9 => by
            rcases (hH.2.2.2 3 (by decide)).2.2 with e8 | e8
            · rw [e9, e8, hH.1] at htx; cases htx
            · rw [← e9, (hH.2.2.1 7 t9 (HX.v7 (by decide) ht9)).2] at e8; cases e8) (by have := hbd.1 7 t9 (HX.v7 (by decide) ht9); omega)).trans htx
          refine g_pop hX dX9_sing_156 rfl ?_
          refine g_aload hX dX9_sing_157 rfl rfl ?_
          refine g_get hX dX9_sing_159 (by first | assumption | exact hob3 | exact ho9 | exact hob | exact ho0 | exact ho1 | exact ho2 | exact ho3) rfl ?_
          refine g_iret hX hR dX9_sing_162 rfl rfl (by decide) (by decide) ?_
          obtain ⟨na, v20⟩ : ∃ na : Nat → Nat, na 20 = sz := ⟨fun k => sz + (k - 20), rfl⟩
          obtain ⟨kf, k20⟩ : ∃ kf : Nat → Nat, kf (sz) = 20 := ⟨fun q => q - sz + 20, by dsimp only; omega⟩
          have hb0 := hbd.2 3 (by decide)
          have hne3 : ∀ q, sz ≤ q → q < sz + 1 → M3 q = M2 q := fun q z1 z2 => u2 q (by omega) (by omega) (by omega)
          have hnt : (σ 3 0 0).toNat = n3 := by omega
          have hvv := adS_v (σ := σ) (t := (t9 : Int)) (u := (u9 : Int)) (y := y) (p := placeZ y m d)
          rw [hnt] at hvv
          have cnt : adS σ (t9 : Int) (u9 : Int) y (placeZ y m d) 3 0 0 = σ 3 0 0 + 1 := hvv.2.2.2.2
          have z7 : exA A na ea3 3 20 20 n3 7 t9 = A 7 t9 := exA_o (by omega) (by omega)
          have z12 : exA A na ea3 3 20 20 n3 12 u9 = A 12 u9 := exA_o (by omega) (by omega)
          have hnew : ∀ k, 20 ≤ k → k ≤ 20 → M3 (na k) = some (CELL (exA A na ea3 3 20 20 n3) (adS σ (t9 : Int) (u9 : Int) y (placeZ y m d)) τ1 k n3) := by
            intro k h1 h2
            rcases (show k = 20 by omega) with rfl
            · rw [v20, hne3 sz (by omega) (by omega), t1]
              unfold CELL
              simp only [hvv.1, hvv.2.1, hvv.2.2.1, hvv.2.2.2.1, Int.toNat_natCast, z7, z12, hcd.1]
          obtain ⟨ow3, hH3⟩ := hH.ext hV (σ' := adS σ (t9 : Int) (u9 : Int) y (placeZ y m d)) (sz := sz) (ea' := ea3) (n := n3) 3 20 20 na kf (by decide) hbd haD (by decide) (by omega) e3 (by rw [cnt, e3]) (fun i h1 h2 => congrFun (congrFun (adS_c i (by omega) (by omega) (by omega) (by omega) (by omega)) 0) 0) (fun k i hv => by
            unfold VLD at hv ⊢
            rw [cnt, adS_c (σ := σ) (t := (t9 : Int)) (u := (u9 : Int)) (y := y) (p := placeZ y m d) 0 (by decide) (by decide) (by decide) (by decide) (by decide), adS_c (σ := σ) (t := (t9 : Int)) (u := (u9 : Int)) (y := y) (p := placeZ y m d) 1 (by decide) (by decide) (by decide) (by decide) (by decide), adS_c (σ := σ) (t := (t9 : Int)) (u := (u9 : Int)) (y := y) (p := placeZ y m d) 2 (by decide) (by decide) (by decide) (by decide) (by decide)] at hv
            omega) (fun k h1 h2 hv => by unfold VLD at hv; omega) (fun k h1 h2 => by
            rcases (show k = 20 by omega) with rfl
            · exact ⟨by rw [v20]; exact k20, by omega, by omega⟩) (u3.imp id (fun z => by omega)) (fun q z1 z2 z3 => u2 q z1 z2 (by omega)) (fun q x hx => (u5 q x hx).imp id (fun z => by omega)) (by decide) (u1.congr (fun k hk => by
            by_cases e9 : k = n3
            · rw [if_pos e9, if_pos e9]; exact v20.symm
            · rw [if_neg e9, if_neg e9]; rfl)) hnew ⟨by rw [adS_c (σ := σ) (t := (t9 : Int)) (u := (u9 : Int)) (y := y) (p := placeZ y m d) 4 (by decide) (by decide) (by decide) (by decide) (by decide)], fun c i z1 z2 z3 => by rw [adS_c c (by omega) (by omega) (by omega) (by omega) (by omega)], fun c i z1 z2 z3 => by rw [adS_c c (by omega) (by omega) (by omega) (by omega) (by omega)], fun c i z1 z2 z3 => by rw [adS_c c (by omega) (by omega) (by omega) (by omega) (by omega)], adS_c (σ := σ) (t := (t9 : Int)) (u := (u9 : Int)) (y := y) (p := placeZ y m d) 35 (by decide) (by decide) (by decide) (by decide) (by decide), fun c i z1 z2 z3 => adS_i (by omega) (by omega)⟩
          refine kint (KV hK (((if_neg (fun q => q qd)).trans (if_neg (fun q => q.elim (fun z => by omega) (fun q => q.elim (fun z => z c40) (fun q => q.elim (fun z => by rw [hv] at z; omega) (fun z => by rw [hv, hb] at z; omega)))))).trans (by rw [hv, hb, Int.toNat_natCast, hbu])) hH3 (SV_adS hV ⟨by omega, ht9⟩ ⟨by omega, by omega⟩ qy ⟨by omega, by omega⟩ (by omega))) rfl
        · refine g_astore hX dX9_sing_88 rfl ?_
          dsimp only [List.set]
          refine g_aload hX dX9_sing_90 rfl rfl ?_
          refine g_ifnonnull (r := none) hX dX9_sing_92 rfl (fun a92 z92 => absurd z92 (by simp)) (fun z92 => ?_)
          refine g_null hX dX9_sing_95 ?_
          refine g_goto hX dX9_sing_96 ?_
          refine g_astore hX dX9_sing_107 rfl ?_
          dsimp only [List.set]
          refine g_aload hX dX9_sing_109 rfl rfl ?_
          refine g_ifnull (r := none) hX dX9_sing_111 rfl (fun z111 => ?_) (fun a111 z111 => absurd z111 (by simp))
          refine g_throw hX hR dX9_sing_119 (by decide) (by decide) (fun sz9 hsz9 => ?_)
          exact KX hK (c := 2) ((if_neg (fun q => q qd)).trans (if_pos (Or.inr (Or.inr (Or.inr (by rw [hv]; exact hb)))))) (by decide) rfl hH hV
      · refine g_throw hX hR dX9_sing_69 (by decide) (by decide) (fun sz9 hsz9 => ?_)
        exact KX hK (c := 2) ((if_neg (fun q => q qd)).trans (if_pos (Or.inr (Or.inr (Or.inl (hv.trans c66)))))) (by decide) rfl hH hV
    · refine g_throw hX hR dX9_sing_43 (by decide) (by decide) (fun sz9 hsz9 => ?_)
      exact KX hK (c := 2) ((if_neg (fun q => q qd)).trans (if_pos (Or.inr (Or.inl c40)))) (by decide) rfl hH hV
