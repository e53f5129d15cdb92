/-! act: every call, what is thrown as a number -/
def ya_KA (aD h : Nat) (o : Int × SG) (K : hK) : Prop := ∀ (A' : Nat → Nat → Nat) (ow' : Nat → Nat × Nat) (τ' : Nat → Nat → Int) (M' : hM) (s9 : Nat), HX aD h A' ow' o.2 τ' M' → SV o.2 → K (.inl (some (.int (iZ o.1)))) M' s9

theorem ya_a0 {X : hX} {h : Nat} {A : Nat → Nat → Nat} {ow : Nat → Nat × Nat} {σ : SG} {τ : Nat → Nat → Int} {M M0 : hM} {sz sz0 : Nat} {K : hK} {w a b c d : Int} (hX : Cok X mL_act) (hst : X.1.2.1.stackTraces = false) (hR : Ret X mL_act M0 sz0 K) (hH : HX X.2.2.2.2.2.2.2.2.2 h A ow σ τ M) (hV : SV σ) (ra : inR a) (rb : inR b) (rc : inR c) (rd : inR d) (hK : ya_KA X.2.2.2.2.2.2.2.2.2 h (ya_cv ya_A ya_S ya_S (oc_text σ a b)) K) : G X 4 [.ref h, .int (iZ w), .int (iZ a), .int (iZ b), .int (iZ c), .int (iZ d), U9] [] M sz 0 0 := by
  refine g_aload hX dL_act_4 rfl rfl ?_
  refine g_iload hX dL_act_5 rfl ?_
  refine g_iload hX dL_act_6 rfl ?_
  refine g_cV2 (c2 := 9) (s2 := 243) hX (s_X9_text hst) dL_act_7 hH.ob (by first | exact Nat.le_of_ble_eq_true rfl | simp [cat_rf, Value.category]) ⟨rfl, rfl, by decide, by decide⟩ ?_
  refine ⟨h, A, ow, σ, τ, a, b, rfl, hH, hV, ra, rb, fun A1 ow1 τ1 M1 s1 hH1 hV1 => ?_⟩
  rcases ya_r_text σ a b with h0 | h0 | h0
  · rw [res9_0 h0]
    refine Kc_i ?_
    refine g_goto hX dL_act_10 ?_
    refine g_iret hX hR dL_act_448 rfl rfl (by decide) (by decide) ?_
    have h9 := hK A1 ow1 τ1 M1 s1
    rw [ya_cv0 h0] at h9
    exact h9 hH1 hV1
  · rw [res9_1 h0]
    refine Kc_x (gx_catch hX [(0, 448, 449, 94)] (0, 448, 454, 97) [(0, 448, 459, 100)] rfl (List.forall_mem_cons.mpr ⟨⟨by decide, 504, "java/lang/IndexOutOfBoundsException", by decide +kernel, List.mem_of_getElem? (i := 1) rfl⟩, fun _ h9 => absurd h9 List.not_mem_nil⟩) (by decide) (by decide) ⟨505, 339, by decide +kernel, by decide +kernel⟩ (fun q => ?_))
    refine g_astore hX dL_act_454 rfl ?_
    dsimp only [List.set]
    refine g_const hX dL_act_456 ?_
    refine g_iret hX hR dL_act_458 rfl rfl (by decide) (by decide) ?_
    have h9 := hK A1 ow1 τ1 M1 s1
    rw [ya_cv1 h0] at h9
    exact h9 hH1 hV1
  · rw [res9_2 h0]
    refine Kc_x (gx_catch hX [(0, 448, 449, 94), (0, 448, 454, 97)] (0, 448, 459, 100) [] rfl (List.forall_mem_cons.mpr ⟨⟨by decide, 504, "java/lang/IndexOutOfBoundsException", by decide +kernel, List.mem_of_getElem? (i := 3) rfl⟩, List.forall_mem_cons.mpr ⟨⟨by decide, 505, "java/lang/IllegalArgumentException", by decide +kernel, List.mem_of_getElem? (i := 2) rfl⟩, fun _ h9 => absurd h9 List.not_mem_nil⟩⟩) (by decide) (by decide) ⟨506, 273, by decide +kernel, by decide +kernel⟩ (fun q => ?_))
    refine g_astore hX dL_act_459 rfl ?_
    dsimp only [List.set]
    refine g_const hX dL_act_461 ?_
    refine g_iret hX hR dL_act_463 rfl rfl (by decide) (by decide) ?_
    have h9 := hK A1 ow1 τ1 M1 s1
    rw [ya_cv2 h0] at h9
    exact h9 hH1 hV1

theorem ya_a1 {X : hX} {h : Nat} {A : Nat → Nat → Nat} {ow : Nat → Nat × Nat} {σ : SG} {τ : Nat → Nat → Int} {M M0 : hM} {sz sz0 : Nat} {K : hK} {w a b c d : Int} (hX : Cok X mL_act) (hst : X.1.2.1.stackTraces = false) (hR : Ret X mL_act M0 sz0 K) (hH : HX X.2.2.2.2.2.2.2.2.2 h A ow σ τ M) (hV : SV σ) (ra : inR a) (rb : inR b) (rc : inR c) (rd : inR d) (hK : ya_KA X.2.2.2.2.2.2.2.2.2 h (ya_cv ya_I ya_A ya_S (oc_row 0 13 σ a b c)) K) : G X 18 [.ref h, .int (iZ w), .int (iZ a), .int (iZ b), .int (iZ c), .int (iZ d), U9] [] M sz 0 0 := by
  refine g_aload hX dL_act_18 rfl rfl ?_
  refine g_iload hX dL_act_19 rfl ?_
  refine g_iload hX dL_act_20 rfl ?_
  refine g_iload hX dL_act_21 rfl ?_
  refine g_cV3 (c2 := 4) (s2 := 24) hX (s_X9_line hst) dL_act_23 hH.ob (by first | exact Nat.le_of_ble_eq_true rfl | simp [cat_rf, Value.category]) ⟨rfl, rfl, by decide, by decide⟩ ?_
  refine ⟨h, A, ow, σ, τ, a, b, c, rfl, hH, hV, ra, rb, rc, fun A1 ow1 τ1 M1 s1 hH1 hV1 => ?_⟩
  rcases ya_r_row_0_13 σ a b c with h0 | h0 | h0 | h0
  · rw [res9_0 h0]
    refine Kc_i ?_
    refine g_goto hX dL_act_26 ?_
    refine g_iret hX hR dL_act_448 rfl rfl (by decide) (by decide) ?_
    have h9 := hK A1 ow1 τ1 M1 s1
    rw [ya_cv0 h0] at h9
    exact h9 hH1 hV1
  · rw [res9_1 h0]
    refine Kc_x (gx_catch hX [] (0, 448, 449, 94) [(0, 448, 454, 97), (0, 448, 459, 100)] rfl (fun _ h9 => absurd h9 List.not_mem_nil) (by decide) (by decide) ⟨504, 169, by decide +kernel, by decide +kernel⟩ (fun q => ?_))
    refine g_astore hX dL_act_449 rfl ?_
    dsimp only [List.set]
    refine g_const hX dL_act_451 ?_
    refine g_iret hX hR dL_act_453 rfl rfl (by decide) (by decide) ?_
    have h9 := hK A1 ow1 τ1 M1 s1
    rw [ya_cv1 h0] at h9
    exact h9 hH1 hV1
  · rw [res9_2 h0]
    refine Kc_x (gx_catch hX [(0, 448, 449, 94)] (0, 448, 454, 97) [(0, 448, 459, 100)] rfl (List.forall_mem_cons.mpr ⟨⟨by decide, 504, "java/lang/IndexOutOfBoundsException", by decide +kernel, List.mem_of_getElem? (i := 1) rfl⟩, fun _ h9 => absurd h9 List.not_mem_nil⟩) (by decide) (by decide) ⟨505, 339, by decide +kernel, by decide +kernel⟩ (fun q => ?_))
    refine g_astore hX dL_act_454 rfl ?_
    dsimp only [List.set]
    refine g_const hX dL_act_456 ?_
    refine g_iret hX hR dL_act_458 rfl rfl (by decide) (by decide) ?_
    have h9 := hK A1 ow1 τ1 M1 s1
    rw [ya_cv2 h0] at h9
    exact h9 hH1 hV1
  · rw [res9_3 h0]
    refine Kc_x (gx_catch hX [(0, 448, 449, 94), (0, 448, 454, 97)] (0, 448, 459, 100) [] rfl (List.forall_mem_cons.mpr ⟨⟨by decide, 504, "java/lang/IndexOutOfBoundsException", by decide +kernel, List.mem_of_getElem? (i := 3) rfl⟩, List.forall_mem_cons.mpr ⟨⟨by decide, 505, "java/lang/IllegalArgumentException", by decide +kernel, List.mem_of_getElem? (i := 2) rfl⟩, fun _ h9 => absurd h9 List.not_mem_nil⟩⟩) (by decide) (by decide) ⟨506, 273, by decide +kernel, by decide +kernel⟩ (fun q => ?_))
    refine g_astore hX dL_act_459 rfl ?_
    dsimp only [List.set]
    refine g_const hX dL_act_461 ?_
    refine g_iret hX hR dL_act_463 rfl rfl (by decide) (by decide) ?_
    have h9 := hK A1 ow1 τ1 M1 s1
    rw [ya_cv3 h0] at h9
    exact h9 hH1 hV1

theorem ya_a2 {X : hX} {h : Nat} {A : Nat → Nat → Nat} {ow : Nat → Nat × Nat} {σ : SG} {τ : Nat → Nat → Int} {M M0 : hM} {sz sz0 : Nat} {K : hK} {w a b c d : Int} (hX : Cok X mL_act) (hst : X.1.2.1.stackTraces = false) (hR : Ret X mL_act M0 sz0 K) (hH : HX X.2.2.2.2.2.2.2.2.2 h A ow σ τ M) (hV : SV σ) (ra : inR a) (rb : inR b) (rc : inR c) (rd : inR d) (hK : ya_KA X.2.2.2.2.2.2.2.2.2 h (ya_cv ya_A ya_S ya_S (oc_tune σ a b c)) K) : G X 34 [.ref h, .int (iZ w), .int (iZ a), .int (iZ b), .int (iZ c), .int (iZ d), U9] [] M sz 0 0 := by
  refine g_aload hX dL_act_34 rfl rfl ?_
  refine g_iload hX dL_act_35 rfl ?_
  refine g_iload hX dL_act_36 rfl ?_
  refine g_iload hX dL_act_37 rfl ?_
  refine g_cV3 (c2 := 10) (s2 := 250) hX (s_X9_tune hst) dL_act_39 hH.ob (by first | exact Nat.le_of_ble_eq_true rfl | simp [cat_rf, Value.category]) ⟨rfl, rfl, by decide, by decide⟩ ?_
  refine ⟨h, A, ow, σ, τ, a, b, c, rfl, hH, hV, ra, rb, rc, fun A1 ow1 τ1 M1 s1 hH1 hV1 => ?_⟩
  rcases ya_r_tune σ a b c with h0 | h0 | h0
  · rw [res9_0 h0]
    refine Kc_i ?_
    refine g_goto hX dL_act_42 ?_
    refine g_iret hX hR dL_act_448 rfl rfl (by decide) (by decide) ?_
    have h9 := hK A1 ow1 τ1 M1 s1
    rw [ya_cv0 h0] at h9
    exact h9 hH1 hV1
  · rw [res9_1 h0]
    refine Kc_x (gx_catch hX [(0, 448, 449, 94)] (0, 448, 454, 97) [(0, 448, 459, 100)] rfl (List.forall_mem_cons.mpr ⟨⟨by decide, 504, "java/lang/IndexOutOfBoundsException", by decide +kernel, List.mem_of_getElem? (i := 1) rfl⟩, fun _ h9 => absurd h9 List.not_mem_nil⟩) (by decide) (by decide) ⟨505, 339, by decide +kernel, by decide +kernel⟩ (fun q => ?_))
    refine g_astore hX dL_act_454 rfl ?_
    dsimp only [List.set]
    refine g_const hX dL_act_456 ?_
    refine g_iret hX hR dL_act_458 rfl rfl (by decide) (by decide) ?_
    have h9 := hK A1 ow1 τ1 M1 s1
    rw [ya_cv1 h0] at h9
    exact h9 hH1 hV1
  · rw [res9_2 h0]
    refine Kc_x (gx_catch hX [(0, 448, 449, 94), (0, 448, 454, 97)] (0, 448, 459, 100) [] rfl (List.forall_mem_cons.mpr ⟨⟨by decide, 504, "java/lang/IndexOutOfBoundsException", by decide +kernel, List.mem_of_getElem? (i := 3) rfl⟩, List.forall_mem_cons.mpr ⟨⟨by decide, 505, "java/lang/IllegalArgumentException", by decide +kernel, List.mem_of_getElem? (i := 2) rfl⟩, fun _ h9 => absurd h9 List.not_mem_nil⟩⟩) (by decide) (by decide) ⟨506, 273, by decide +kernel, by decide +kernel⟩ (fun q => ?_))
    refine g_astore hX dL_act_459 rfl ?_
    dsimp only [List.set]
    refine g_const hX dL_act_461 ?_
    refine g_iret hX hR dL_act_463 rfl rfl (by decide) (by decide) ?_
    have h9 := hK A1 ow1 τ1 M1 s1
    rw [ya_cv2 h0] at h9
    exact h9 hH1 hV1

theorem ya_a3 {X : hX} {h : Nat} {A : Nat → Nat → Nat} {ow : Nat → Nat × Nat} {σ : SG} {τ : Nat → Nat → Int} {M M0 : hM} {sz sz0 : Nat} {K : hK} {w a b c d : Int} (hX : Cok X mL_act) (hst : X.1.2.1.stackTraces = false) (hR : Ret X mL_act M0 sz0 K) (hH : HX X.2.2.2.2.2.2.2.2.2 h A ow σ τ M) (hV : SV σ) (ra : inR a) (rb : inR b) (rc : inR c) (rd : inR d) (hK : ya_KA X.2.2.2.2.2.2.2.2.2 h (ya_cv ya_I ya_A ya_S (oc_row 1 24 σ a b c)) K) : G X 50 [.ref h, .int (iZ w), .int (iZ a), .int (iZ b), .int (iZ c), .int (iZ d), U9] [] M sz 0 0 := by
  refine g_aload hX dL_act_50 rfl rfl ?_
  refine g_iload hX dL_act_51 rfl ?_
  refine g_iload hX dL_act_52 rfl ?_
  refine g_iload hX dL_act_53 rfl ?_
  refine g_cV3 (c2 := 4) (s2 := 24) hX (s_X9_phrase hst) dL_act_55 hH.ob (by first | exact Nat.le_of_ble_eq_true rfl | simp [cat_rf, Value.category]) ⟨rfl, rfl, by decide, by decide⟩ ?_
  refine ⟨h, A, ow, σ, τ, a, b, c, rfl, hH, hV, ra, rb, rc, fun A1 ow1 τ1 M1 s1 hH1 hV1 => ?_⟩
  rcases ya_r_row_1_24 σ a b c with h0 | h0 | h0 | h0
  · rw [res9_0 h0]
    refine Kc_i ?_
    refine g_goto hX dL_act_58 ?_
    refine g_iret hX hR dL_act_448 rfl rfl (by decide) (by decide) ?_
    have h9 := hK A1 ow1 τ1 M1 s1
    rw [ya_cv0 h0] at h9
    exact h9 hH1 hV1
  · rw [res9_1 h0]
    refine Kc_x (gx_catch hX [] (0, 448, 449, 94) [(0, 448, 454, 97), (0, 448, 459, 100)] rfl (fun _ h9 => absurd h9 List.not_mem_nil) (by decide) (by decide) ⟨504, 169, by decide +kernel, by decide +kernel⟩ (fun q => ?_))
    refine g_astore hX dL_act_449 rfl ?_
    dsimp only [List.set]
    refine g_const hX dL_act_451 ?_
    refine g_iret hX hR dL_act_453 rfl rfl (by decide) (by decide) ?_
    have h9 := hK A1 ow1 τ1 M1 s1
    rw [ya_cv1 h0] at h9
    exact h9 hH1 hV1
  · rw [res9_2 h0]
    refine Kc_x (gx_catch hX [(0, 448, 449, 94)] (0, 448, 454, 97) [(0, 448, 459, 100)] rfl (List.forall_mem_cons.mpr ⟨⟨by decide, 504, "java/lang/IndexOutOfBoundsException", by decide +kernel, List.mem_of_getElem? (i := 1) rfl⟩, fun _ h9 => absurd h9 List.not_mem_nil⟩) (by decide) (by decide) ⟨505, 339, by decide +kernel, by decide +kernel⟩ (fun q => ?_))
    refine g_astore hX dL_act_454 rfl ?_
    dsimp only [List.set]
    refine g_const hX dL_act_456 ?_
    refine g_iret hX hR dL_act_458 rfl rfl (by decide) (by decide) ?_
    have h9 := hK A1 ow1 τ1 M1 s1
    rw [ya_cv2 h0] at h9
    exact h9 hH1 hV1
  · rw [res9_3 h0]
    refine Kc_x (gx_catch hX [(0, 448, 449, 94), (0, 448, 454, 97)] (0, 448, 459, 100) [] rfl (List.forall_mem_cons.mpr ⟨⟨by decide, 504, "java/lang/IndexOutOfBoundsException", by decide +kernel, List.mem_of_getElem? (i := 3) rfl⟩, List.forall_mem_cons.mpr ⟨⟨by decide, 505, "java/lang/IllegalArgumentException", by decide +kernel, List.mem_of_getElem? (i := 2) rfl⟩, fun _ h9 => absurd h9 List.not_mem_nil⟩⟩) (by decide) (by decide) ⟨506, 273, by decide +kernel, by decide +kernel⟩ (fun q => ?_))
    refine g_astore hX dL_act_459 rfl ?_
    dsimp only [List.set]
    refine g_const hX dL_act_461 ?_
    refine g_iret hX hR dL_act_463 rfl rfl (by decide) (by decide) ?_
    have h9 := hK A1 ow1 τ1 M1 s1
    rw [ya_cv3 h0] at h9
    exact h9 hH1 hV1

theorem ya_a4 {X : hX} {h : Nat} {A : Nat → Nat → Nat} {ow : Nat → Nat × Nat} {σ : SG} {τ : Nat → Nat → Int} {M M0 : hM} {sz sz0 : Nat} {K : hK} {w a b c d : Int} (hX : Cok X mL_act) (hst : X.1.2.1.stackTraces = false) (hR : Ret X mL_act M0 sz0 K) (hH : HX X.2.2.2.2.2.2.2.2.2 h A ow σ τ M) (hV : SV σ) (ra : inR a) (rb : inR b) (rc : inR c) (rd : inR d) (hK : ya_KA X.2.2.2.2.2.2.2.2.2 h (ya_cv ya_I ya_I ya_I (oc_fits σ a b)) K) : G X 66 [.ref h, .int (iZ w), .int (iZ a), .int (iZ b), .int (iZ c), .int (iZ d), U9] [] M sz 0 0 := by
  refine g_aload hX dL_act_66 rfl rfl ?_
  refine g_iload hX dL_act_67 rfl ?_
  refine g_iload hX dL_act_68 rfl ?_
  refine g_cV2 (c2 := 2) (s2 := 12) hX (s_X9_fits hst) dL_act_69 hH.ob (by first | exact Nat.le_of_ble_eq_true rfl | simp [cat_rf, Value.category]) ⟨rfl, rfl, by decide, by decide⟩ ?_
  refine ⟨h, A, ow, σ, τ, a, b, rfl, hH, hV, ra, rb, fun A1 ow1 τ1 M1 s1 hH1 hV1 => ?_⟩
  rcases ya_r_fits σ a b with h0 | h0
  · rw [res9_0 h0]
    refine Kc_i ?_
    refine g_goto hX dL_act_72 ?_
    refine g_iret hX hR dL_act_448 rfl rfl (by decide) (by decide) ?_
    have h9 := hK A1 ow1 τ1 M1 s1
    rw [ya_cv0 h0] at h9
    exact h9 hH1 hV1
  · rw [res9_1 h0]
    refine Kc_x (gx_catch hX [] (0, 448, 449, 94) [(0, 448, 454, 97), (0, 448, 459, 100)] rfl (fun _ h9 => absurd h9 List.not_mem_nil) (by decide) (by decide) ⟨504, 169, by decide +kernel, by decide +kernel⟩ (fun q => ?_))
    refine g_astore hX dL_act_449 rfl ?_
    dsimp only [List.set]
    refine g_const hX dL_act_451 ?_
    refine g_iret hX hR dL_act_453 rfl rfl (by decide) (by decide) ?_
    have h9 := hK A1 ow1 τ1 M1 s1
    rw [ya_cv1 h0] at h9
    exact h9 hH1 hV1

theorem ya_a5 {X : hX} {h : Nat} {A : Nat → Nat → Nat} {ow : Nat → Nat × Nat} {σ : SG} {τ : Nat → Nat → Int} {M M0 : hM} {sz sz0 : Nat} {K : hK} {w a b c d : Int} (hX : Cok X mL_act) (hst : X.1.2.1.stackTraces = false) (hR : Ret X mL_act M0 sz0 K) (hH : HX X.2.2.2.2.2.2.2.2.2 h A ow σ τ M) (hV : SV σ) (ra : inR a) (rb : inR b) (rc : inR c) (rd : inR d) (hK : ya_KA X.2.2.2.2.2.2.2.2.2 h (ya_cv ya_I ya_S ya_S (oc_clashes σ a b)) K) : G X 80 [.ref h, .int (iZ w), .int (iZ a), .int (iZ b), .int (iZ c), .int (iZ d), U9] [] M sz 0 0 := by
  refine g_aload hX dL_act_80 rfl rfl ?_
  refine g_iload hX dL_act_81 rfl ?_
  refine g_iload hX dL_act_82 rfl ?_
  refine g_cV2 (c2 := 3) (s2 := 18) hX (s_X9_clashes hst) dL_act_83 hH.ob (by first | exact Nat.le_of_ble_eq_true rfl | simp [cat_rf, Value.category]) ⟨rfl, rfl, by decide, by decide⟩ ?_
  refine ⟨h, A, ow, σ, τ, a, b, rfl, hH, hV, ra, rb, fun A1 ow1 τ1 M1 s1 hH1 hV1 => ?_⟩
  rcases ya_r_clashes σ a b with h0 | h0 | h0
  · rw [res9_0 h0]
    refine Kc_i ?_
    refine g_goto hX dL_act_86 ?_
    refine g_iret hX hR dL_act_448 rfl rfl (by decide) (by decide) ?_
    have h9 := hK A1 ow1 τ1 M1 s1
    rw [ya_cv0 h0] at h9
    exact h9 hH1 hV1
  · rw [res9_1 h0]
    refine Kc_x (gx_catch hX [] (0, 448, 449, 94) [(0, 448, 454, 97), (0, 448, 459, 100)] rfl (fun _ h9 => absurd h9 List.not_mem_nil) (by decide) (by decide) ⟨504, 169, by decide +kernel, by decide +kernel⟩ (fun q => ?_))
    refine g_astore hX dL_act_449 rfl ?_
    dsimp only [List.set]
    refine g_const hX dL_act_451 ?_
    refine g_iret hX hR dL_act_453 rfl rfl (by decide) (by decide) ?_
    have h9 := hK A1 ow1 τ1 M1 s1
    rw [ya_cv1 h0] at h9
    exact h9 hH1 hV1
  · rw [res9_2 h0]
    refine Kc_x (gx_catch hX [(0, 448, 449, 94), (0, 448, 454, 97)] (0, 448, 459, 100) [] rfl (List.forall_mem_cons.mpr ⟨⟨by decide, 504, "java/lang/IndexOutOfBoundsException", by decide +kernel, List.mem_of_getElem? (i := 3) rfl⟩, List.forall_mem_cons.mpr ⟨⟨by decide, 505, "java/lang/IllegalArgumentException", by decide +kernel, List.mem_of_getElem? (i := 2) rfl⟩, fun _ h9 => absurd h9 List.not_mem_nil⟩⟩) (by decide) (by decide) ⟨506, 273, by decide +kernel, by decide +kernel⟩ (fun q => ?_))
    refine g_astore hX dL_act_459 rfl ?_
    dsimp only [List.set]
    refine g_const hX dL_act_461 ?_
    refine g_iret hX hR dL_act_463 rfl rfl (by decide) (by decide) ?_
    have h9 := hK A1 ow1 τ1 M1 s1
    rw [ya_cv2 h0] at h9
    exact h9 hH1 hV1

theorem ya_a6 {X : hX} {h : Nat} {A : Nat → Nat → Nat} {ow : Nat → Nat × Nat} {σ : SG} {τ : Nat → Nat → Int} {M M0 : hM} {sz sz0 : Nat} {K : hK} {w a b c d : Int} (hX : Cok X mL_act) (hst : X.1.2.1.stackTraces = false) (hR : Ret X mL_act M0 sz0 K) (hH : HX X.2.2.2.2.2.2.2.2.2 h A ow σ τ M) (hV : SV σ) (ra : inR a) (rb : inR b) (rc : inR c) (rd : inR d) (hK : ya_KA X.2.2.2.2.2.2.2.2.2 h (ya_cv ya_I ya_I ya_I (oc_best σ a)) K) : G X 95 [.ref h, .int (iZ w), .int (iZ a), .int (iZ b), .int (iZ c), .int (iZ d), U9] [] M sz 0 0 := by
  refine g_aload hX dL_act_95 rfl rfl ?_
  refine g_iload hX dL_act_96 rfl ?_
  refine g_cV1 (c2 := 1) (s2 := 6) hX (s_X9_best hst) dL_act_97 hH.ob (by first | exact Nat.le_of_ble_eq_true rfl | simp [cat_rf, Value.category]) ⟨rfl, rfl, by decide, by decide⟩ ?_
  refine ⟨h, A, ow, σ, τ, a, rfl, hH, hV, ra, fun A1 ow1 τ1 M1 s1 hH1 hV1 => ?_⟩
  rcases ya_r_best σ a with h0 | h0
  · rw [res9_0 h0]
    refine Kc_i ?_
    refine g_goto hX dL_act_100 ?_
    refine g_iret hX hR dL_act_448 rfl rfl (by decide) (by decide) ?_
    have h9 := hK A1 ow1 τ1 M1 s1
    rw [ya_cv0 h0] at h9
    exact h9 hH1 hV1
  · rw [res9_1 h0]
    refine Kc_x (gx_catch hX [] (0, 448, 449, 94) [(0, 448, 454, 97), (0, 448, 459, 100)] rfl (fun _ h9 => absurd h9 List.not_mem_nil) (by decide) (by decide) ⟨504, 169, by decide +kernel, by decide +kernel⟩ (fun q => ?_))
    refine g_astore hX dL_act_449 rfl ?_
    dsimp only [List.set]
    refine g_const hX dL_act_451 ?_
    refine g_iret hX hR dL_act_453 rfl rfl (by decide) (by decide) ?_
    have h9 := hK A1 ow1 τ1 M1 s1
    rw [ya_cv1 h0] at h9
    exact h9 hH1 hV1

theorem ya_a7 {X : hX} {h : Nat} {A : Nat → Nat → Nat} {ow : Nat → Nat × Nat} {σ : SG} {τ : Nat → Nat → Int} {M M0 : hM} {sz sz0 : Nat} {K : hK} {w a b c d : Int} (hX : Cok X mL_act) (hst : X.1.2.1.stackTraces = false) (hR : Ret X mL_act M0 sz0 K) (hH : HX X.2.2.2.2.2.2.2.2.2 h A ow σ τ M) (hV : SV σ) (ra : inR a) (rb : inR b) (rc : inR c) (rd : inR d) (hK : ya_KA X.2.2.2.2.2.2.2.2.2 h (ya_cv ya_I ya_I ya_I (oc_alike σ a)) K) : G X 109 [.ref h, .int (iZ w), .int (iZ a), .int (iZ b), .int (iZ c), .int (iZ d), U9] [] M sz 0 0 := by
  refine g_aload hX dL_act_109 rfl rfl ?_
  refine g_iload hX dL_act_110 rfl ?_
  refine g_cV1 (c2 := 1) (s2 := 6) hX (s_X9_alike hst) dL_act_111 hH.ob (by first | exact Nat.le_of_ble_eq_true rfl | simp [cat_rf, Value.category]) ⟨rfl, rfl, by decide, by decide⟩ ?_
  refine ⟨h, A, ow, σ, τ, a, rfl, hH, hV, ra, fun A1 ow1 τ1 M1 s1 hH1 hV1 => ?_⟩
  rcases ya_r_alike σ a with h0 | h0
  · rw [res9_0 h0]
    refine Kc_i ?_
    refine g_goto hX dL_act_114 ?_
    refine g_iret hX hR dL_act_448 rfl rfl (by decide) (by decide) ?_
    have h9 := hK A1 ow1 τ1 M1 s1
    rw [ya_cv0 h0] at h9
    exact h9 hH1 hV1
  · rw [res9_1 h0]
    refine Kc_x (gx_catch hX [] (0, 448, 449, 94) [(0, 448, 454, 97), (0, 448, 459, 100)] rfl (fun _ h9 => absurd h9 List.not_mem_nil) (by decide) (by decide) ⟨504, 169, by decide +kernel, by decide +kernel⟩ (fun q => ?_))
    refine g_astore hX dL_act_449 rfl ?_
    dsimp only [List.set]
    refine g_const hX dL_act_451 ?_
    refine g_iret hX hR dL_act_453 rfl rfl (by decide) (by decide) ?_
    have h9 := hK A1 ow1 τ1 M1 s1
    rw [ya_cv1 h0] at h9
    exact h9 hH1 hV1

theorem ya_a8 {X : hX} {h : Nat} {A : Nat → Nat → Nat} {ow : Nat → Nat × Nat} {σ : SG} {τ : Nat → Nat → Int} {M M0 : hM} {sz sz0 : Nat} {K : hK} {w a b c d : Int} (hX : Cok X mL_act) (hst : X.1.2.1.stackTraces = false) (hR : Ret X mL_act M0 sz0 K) (hH : HX X.2.2.2.2.2.2.2.2.2 h A ow σ τ M) (hV : SV σ) (ra : inR a) (rb : inR b) (rc : inR c) (rd : inR d) (hK : ya_KA X.2.2.2.2.2.2.2.2.2 h (ya_cv ya_I ya_I ya_I (oc_allow 0 12 σ a (bZ (b = 1)))) K) : G X 123 [.ref h, .int (iZ w), .int (iZ a), .int (iZ b), .int (iZ c), .int (iZ d), U9] [] M sz 0 0 := by
  refine g_aload hX dL_act_123 rfl rfl ?_
  refine g_iload hX dL_act_124 rfl ?_
  refine g_iload hX dL_act_125 rfl ?_
  refine g_const hX dL_act_126 ?_
  refine y_eqb (n2 := 0) hX dL_act_127 dL_act_130 dL_act_131 dL_act_134 rb (ya_in rfl) ?_
  refine g_cV2 (c2 := 1) (s2 := 6) hX (s_X9_allowText hst) dL_act_135 hH.ob (by first | exact Nat.le_of_ble_eq_true rfl | simp [cat_rf, Value.category]) ⟨rfl, rfl, by decide, by decide⟩ ?_
  refine ⟨h, A, ow, σ, τ, a, (bZ (b = 1)), rfl, hH, hV, ra, bZ_01 (b = 1), fun A1 ow1 τ1 M1 s1 hH1 hV1 => ?_⟩
  rcases ya_r_allow_0_12 σ a (bZ (b = 1)) with h0 | h0
  · rw [res9_0 h0]
    refine Kc_i ?_
    refine y_b01g hX dL_act_138 dL_act_141 dL_act_142 dL_act_145 dL_act_146 (ya_v_allow_0_12 hV h0) ?_
    refine g_iret hX hR dL_act_448 rfl rfl (by decide) (by decide) ?_
    have h9 := hK A1 ow1 τ1 M1 s1
    rw [ya_cv0 h0] at h9
    exact h9 hH1 hV1
  · rw [res9_1 h0]
    refine Kc_x (gx_catch hX [] (0, 448, 449, 94) [(0, 448, 454, 97), (0, 448, 459, 100)] rfl (fun _ h9 => absurd h9 List.not_mem_nil) (by decide) (by decide) ⟨504, 169, by decide +kernel, by decide +kernel⟩ (fun q => ?_))
    refine g_astore hX dL_act_449 rfl ?_
    dsimp only [List.set]
    refine g_const hX dL_act_451 ?_
    refine g_iret hX hR dL_act_453 rfl rfl (by decide) (by decide) ?_
    have h9 := hK A1 ow1 τ1 M1 s1
    rw [ya_cv1 h0] at h9
    exact h9 hH1 hV1

theorem ya_a9 {X : hX} {h : Nat} {A : Nat → Nat → Nat} {ow : Nat → Nat × Nat} {σ : SG} {τ : Nat → Nat → Int} {M M0 : hM} {sz sz0 : Nat} {K : hK} {w a b c d : Int} (hX : Cok X mL_act) (hst : X.1.2.1.stackTraces = false) (hR : Ret X mL_act M0 sz0 K) (hH : HX X.2.2.2.2.2.2.2.2.2 h A ow σ τ M) (hV : SV σ) (ra : inR a) (rb : inR b) (rc : inR c) (rd : inR d) (hK : ya_KA X.2.2.2.2.2.2.2.2.2 h (ya_cv ya_I ya_I ya_I (oc_allow 1 23 σ a (bZ (b = 1)))) K) : G X 155 [.ref h, .int (iZ w), .int (iZ a), .int (iZ b), .int (iZ c), .int (iZ d), U9] [] M sz 0 0 := by
  refine g_aload hX dL_act_155 rfl rfl ?_
  refine g_iload hX dL_act_156 rfl ?_
  refine g_iload hX dL_act_157 rfl ?_
  refine g_const hX dL_act_158 ?_
  refine y_eqb (n2 := 0) hX dL_act_159 dL_act_162 dL_act_163 dL_act_166 rb (ya_in rfl) ?_
  refine g_cV2 (c2 := 1) (s2 := 6) hX (s_X9_allowTune hst) dL_act_167 hH.ob (by first | exact Nat.le_of_ble_eq_true rfl | simp [cat_rf, Value.category]) ⟨rfl, rfl, by decide, by decide⟩ ?_
  refine ⟨h, A, ow, σ, τ, a, (bZ (b = 1)), rfl, hH, hV, ra, bZ_01 (b = 1), fun A1 ow1 τ1 M1 s1 hH1 hV1 => ?_⟩
  rcases ya_r_allow_1_23 σ a (bZ (b = 1)) with h0 | h0
  · rw [res9_0 h0]
    refine Kc_i ?_
    refine y_b01g hX dL_act_170 dL_act_173 dL_act_174 dL_act_177 dL_act_178 (ya_v_allow_1_23 hV h0) ?_
    refine g_iret hX hR dL_act_448 rfl rfl (by decide) (by decide) ?_
    have h9 := hK A1 ow1 τ1 M1 s1
    rw [ya_cv0 h0] at h9
    exact h9 hH1 hV1
  · rw [res9_1 h0]
    refine Kc_x (gx_catch hX [] (0, 448, 449, 94) [(0, 448, 454, 97), (0, 448, 459, 100)] rfl (fun _ h9 => absurd h9 List.not_mem_nil) (by decide) (by decide) ⟨504, 169, by decide +kernel, by decide +kernel⟩ (fun q => ?_))
    refine g_astore hX dL_act_449 rfl ?_
    dsimp only [List.set]
    refine g_const hX dL_act_451 ?_
    refine g_iret hX hR dL_act_453 rfl rfl (by decide) (by decide) ?_
    have h9 := hK A1 ow1 τ1 M1 s1
    rw [ya_cv1 h0] at h9
    exact h9 hH1 hV1

theorem ya_a10 {X : hX} {h : Nat} {A : Nat → Nat → Nat} {ow : Nat → Nat × Nat} {σ : SG} {τ : Nat → Nat → Int} {M M0 : hM} {sz sz0 : Nat} {K : hK} {w a b c d : Int} (hX : Cok X mL_act) (hst : X.1.2.1.stackTraces = false) (hR : Ret X mL_act M0 sz0 K) (hH : HX X.2.2.2.2.2.2.2.2.2 h A ow σ τ M) (hV : SV σ) (ra : inR a) (rb : inR b) (rc : inR c) (rd : inR d) (hK : ya_KA X.2.2.2.2.2.2.2.2.2 h (ya_cv ya_I ya_A ya_A (oc_shift σ a b c)) K) : G X 187 [.ref h, .int (iZ w), .int (iZ a), .int (iZ b), .int (iZ c), .int (iZ d), U9] [] M sz 0 0 := by
  refine g_aload hX dL_act_187 rfl rfl ?_
  refine g_iload hX dL_act_188 rfl ?_
  refine g_iload hX dL_act_189 rfl ?_
  refine g_iload hX dL_act_190 rfl ?_
  refine g_cV3 (c2 := 3) (s2 := 18) hX (s_X9_shift hst) dL_act_192 hH.ob (by first | exact Nat.le_of_ble_eq_true rfl | simp [cat_rf, Value.category]) ⟨rfl, rfl, by decide, by decide⟩ ?_
  refine ⟨h, A, ow, σ, τ, a, b, c, rfl, hH, hV, ra, rb, rc, fun A1 ow1 τ1 M1 s1 hH1 hV1 => ?_⟩
  rcases ya_r_shift σ a b c with h0 | h0 | h0
  · rw [res9_0 h0]
    refine Kc_i ?_
    refine g_goto hX dL_act_195 ?_
    refine g_iret hX hR dL_act_448 rfl rfl (by decide) (by decide) ?_
    have h9 := hK A1 ow1 τ1 M1 s1
    rw [ya_cv0 h0] at h9
    exact h9 hH1 hV1
  · rw [res9_1 h0]
    refine Kc_x (gx_catch hX [] (0, 448, 449, 94) [(0, 448, 454, 97), (0, 448, 459, 100)] rfl (fun _ h9 => absurd h9 List.not_mem_nil) (by decide) (by decide) ⟨504, 169, by decide +kernel, by decide +kernel⟩ (fun q => ?_))
    refine g_astore hX dL_act_449 rfl ?_
    dsimp only [List.set]
    refine g_const hX dL_act_451 ?_
    refine g_iret hX hR dL_act_453 rfl rfl (by decide) (by decide) ?_
    have h9 := hK A1 ow1 τ1 M1 s1
    rw [ya_cv1 h0] at h9
    exact h9 hH1 hV1
  · rw [res9_2 h0]
    refine Kc_x (gx_catch hX [(0, 448, 449, 94)] (0, 448, 454, 97) [(0, 448, 459, 100)] rfl (List.forall_mem_cons.mpr ⟨⟨by decide, 504, "java/lang/IndexOutOfBoundsException", by decide +kernel, List.mem_of_getElem? (i := 1) rfl⟩, fun _ h9 => absurd h9 List.not_mem_nil⟩) (by decide) (by decide) ⟨505, 339, by decide +kernel, by decide +kernel⟩ (fun q => ?_))
    refine g_astore hX dL_act_454 rfl ?_
    dsimp only [List.set]
    refine g_const hX dL_act_456 ?_
    refine g_iret hX hR dL_act_458 rfl rfl (by decide) (by decide) ?_
    have h9 := hK A1 ow1 τ1 M1 s1
    rw [ya_cv2 h0] at h9
    exact h9 hH1 hV1

theorem ya_a11 {X : hX} {h : Nat} {A : Nat → Nat → Nat} {ow : Nat → Nat × Nat} {σ : SG} {τ : Nat → Nat → Int} {M M0 : hM} {sz sz0 : Nat} {K : hK} {w a b c d : Int} (hX : Cok X mL_act) (hst : X.1.2.1.stackTraces = false) (hR : Ret X mL_act M0 sz0 K) (hH : HX X.2.2.2.2.2.2.2.2.2 h A ow σ τ M) (hV : SV σ) (ra : inR a) (rb : inR b) (rc : inR c) (rd : inR d) (hK : ya_KA X.2.2.2.2.2.2.2.2.2 h (ya_cv ya_A ya_A ya_A (oc_easter σ a)) K) : G X 204 [.ref h, .int (iZ w), .int (iZ a), .int (iZ b), .int (iZ c), .int (iZ d), U9] [] M sz 0 0 := by
  refine g_aload hX dL_act_204 rfl rfl ?_
  refine g_iload hX dL_act_205 rfl ?_
  refine g_cV1 (c2 := 1) (s2 := 6) hX (s_X9_easter hst) dL_act_206 hH.ob (by first | exact Nat.le_of_ble_eq_true rfl | simp [cat_rf, Value.category]) ⟨rfl, rfl, by decide, by decide⟩ ?_
  refine ⟨h, A, ow, σ, τ, a, rfl, hH, hV, ra, fun A1 ow1 τ1 M1 s1 hH1 hV1 => ?_⟩
  rcases ya_r_easter σ a with h0 | h0
  · rw [res9_0 h0]
    refine Kc_i ?_
    refine g_goto hX dL_act_209 ?_
    refine g_iret hX hR dL_act_448 rfl rfl (by decide) (by decide) ?_
    have h9 := hK A1 ow1 τ1 M1 s1
    rw [ya_cv0 h0] at h9
    exact h9 hH1 hV1
  · rw [res9_1 h0]
    refine Kc_x (gx_catch hX [(0, 448, 449, 94)] (0, 448, 454, 97) [(0, 448, 459, 100)] rfl (List.forall_mem_cons.mpr ⟨⟨by decide, 504, "java/lang/IndexOutOfBoundsException", by decide +kernel, List.mem_of_getElem? (i := 1) rfl⟩, fun _ h9 => absurd h9 List.not_mem_nil⟩) (by decide) (by decide) ⟨505, 339, by decide +kernel, by decide +kernel⟩ (fun q => ?_))
    refine g_astore hX dL_act_454 rfl ?_
    dsimp only [List.set]
    refine g_const hX dL_act_456 ?_
    refine g_iret hX hR dL_act_458 rfl rfl (by decide) (by decide) ?_
    have h9 := hK A1 ow1 τ1 M1 s1
    rw [ya_cv1 h0] at h9
    exact h9 hH1 hV1

theorem ya_a12 {X : hX} {h : Nat} {A : Nat → Nat → Nat} {ow : Nat → Nat × Nat} {σ : SG} {τ : Nat → Nat → Int} {M M0 : hM} {sz sz0 : Nat} {K : hK} {w a b c d : Int} (hX : Cok X mL_act) (hst : X.1.2.1.stackTraces = false) (hR : Ret X mL_act M0 sz0 K) (hH : HX X.2.2.2.2.2.2.2.2.2 h A ow σ τ M) (hV : SV σ) (ra : inR a) (rb : inR b) (rc : inR c) (rd : inR d) (hK : ya_KA X.2.2.2.2.2.2.2.2.2 h (ya_cv ya_A ya_A ya_A (oc_easter σ a)) K) : G X 218 [.ref h, .int (iZ w), .int (iZ a), .int (iZ b), .int (iZ c), .int (iZ d), U9] [] M sz 0 0 := by
  refine g_aload hX dL_act_218 rfl rfl ?_
  refine g_iload hX dL_act_219 rfl ?_
  refine g_cV1 (c2 := 1) (s2 := 6) hX (s_X9_easterAnew hst) dL_act_220 hH.ob (by first | exact Nat.le_of_ble_eq_true rfl | simp [cat_rf, Value.category]) ⟨rfl, rfl, by decide, by decide⟩ ?_
  refine ⟨h, A, ow, σ, τ, a, rfl, hH, hV, ra, fun A1 ow1 τ1 M1 s1 hH1 hV1 => ?_⟩
  rcases ya_r_easter σ a with h0 | h0
  · rw [res9_0 h0]
    refine Kc_i ?_
    refine g_goto hX dL_act_223 ?_
    refine g_iret hX hR dL_act_448 rfl rfl (by decide) (by decide) ?_
    have h9 := hK A1 ow1 τ1 M1 s1
    rw [ya_cv0 h0] at h9
    exact h9 hH1 hV1
  · rw [res9_1 h0]
    refine Kc_x (gx_catch hX [(0, 448, 449, 94)] (0, 448, 454, 97) [(0, 448, 459, 100)] rfl (List.forall_mem_cons.mpr ⟨⟨by decide, 504, "java/lang/IndexOutOfBoundsException", by decide +kernel, List.mem_of_getElem? (i := 1) rfl⟩, fun _ h9 => absurd h9 List.not_mem_nil⟩) (by decide) (by decide) ⟨505, 339, by decide +kernel, by decide +kernel⟩ (fun q => ?_))
    refine g_astore hX dL_act_454 rfl ?_
    dsimp only [List.set]
    refine g_const hX dL_act_456 ?_
    refine g_iret hX hR dL_act_458 rfl rfl (by decide) (by decide) ?_
    have h9 := hK A1 ow1 τ1 M1 s1
    rw [ya_cv1 h0] at h9
    exact h9 hH1 hV1

theorem ya_a13 {X : hX} {h : Nat} {A : Nat → Nat → Nat} {ow : Nat → Nat × Nat} {σ : SG} {τ : Nat → Nat → Int} {M M0 : hM} {sz sz0 : Nat} {K : hK} {w a b c d : Int} (hX : Cok X mL_act) (hst : X.1.2.1.stackTraces = false) (hR : Ret X mL_act M0 sz0 K) (hH : HX X.2.2.2.2.2.2.2.2.2 h A ow σ τ M) (hV : SV σ) (ra : inR a) (rb : inR b) (rc : inR c) (rd : inR d) (hK : ya_KA X.2.2.2.2.2.2.2.2.2 h (ya_cv ya_A ya_A ya_A (oc_weekday σ a b c)) K) : G X 232 [.ref h, .int (iZ w), .int (iZ a), .int (iZ b), .int (iZ c), .int (iZ d), U9] [] M sz 0 0 := by
  refine g_aload hX dL_act_232 rfl rfl ?_
  refine g_iload hX dL_act_233 rfl ?_
  refine g_iload hX dL_act_234 rfl ?_
  refine g_iload hX dL_act_235 rfl ?_
  refine g_cV3 (c2 := 3) (s2 := 18) hX (s_X9_weekday hst) dL_act_237 hH.ob (by first | exact Nat.le_of_ble_eq_true rfl | simp [cat_rf, Value.category]) ⟨rfl, rfl, by decide, by decide⟩ ?_
  refine ⟨h, A, ow, σ, τ, a, b, c, rfl, hH, hV, ra, rb, rc, fun A1 ow1 τ1 M1 s1 hH1 hV1 => ?_⟩
  rcases ya_r_weekday σ a b c with h0 | h0
  · rw [res9_0 h0]
    refine Kc_i ?_
    refine g_goto hX dL_act_240 ?_
    refine g_iret hX hR dL_act_448 rfl rfl (by decide) (by decide) ?_
    have h9 := hK A1 ow1 τ1 M1 s1
    rw [ya_cv0 h0] at h9
    exact h9 hH1 hV1
  · rw [res9_1 h0]
    refine Kc_x (gx_catch hX [(0, 448, 449, 94)] (0, 448, 454, 97) [(0, 448, 459, 100)] rfl (List.forall_mem_cons.mpr ⟨⟨by decide, 504, "java/lang/IndexOutOfBoundsException", by decide +kernel, List.mem_of_getElem? (i := 1) rfl⟩, fun _ h9 => absurd h9 List.not_mem_nil⟩) (by decide) (by decide) ⟨505, 339, by decide +kernel, by decide +kernel⟩ (fun q => ?_))
    refine g_astore hX dL_act_454 rfl ?_
    dsimp only [List.set]
    refine g_const hX dL_act_456 ?_
    refine g_iret hX hR dL_act_458 rfl rfl (by decide) (by decide) ?_
    have h9 := hK A1 ow1 τ1 M1 s1
    rw [ya_cv1 h0] at h9
    exact h9 hH1 hV1

theorem ya_a14 {X : hX} {h : Nat} {A : Nat → Nat → Nat} {ow : Nat → Nat × Nat} {σ : SG} {τ : Nat → Nat → Int} {M M0 : hM} {sz sz0 : Nat} {K : hK} {w a b c d : Int} (hX : Cok X mL_act) (hst : X.1.2.1.stackTraces = false) (hR : Ret X mL_act M0 sz0 K) (hH : HX X.2.2.2.2.2.2.2.2.2 h A ow σ τ M) (hV : SV σ) (ra : inR a) (rb : inR b) (rc : inR c) (rd : inR d) (hK : ya_KA X.2.2.2.2.2.2.2.2.2 h (ya_cv ya_A ya_S ya_S (oc_feast σ a (bZ (b = 1)) c d)) K) : G X 249 [.ref h, .int (iZ w), .int (iZ a), .int (iZ b), .int (iZ c), .int (iZ d), U9] [] M sz 0 0 := by
  refine g_aload hX dL_act_249 rfl rfl ?_
  refine g_iload hX dL_act_250 rfl ?_
  refine g_iload hX dL_act_251 rfl ?_
  refine g_const hX dL_act_252 ?_
  refine y_eqb (n2 := 0) hX dL_act_253 dL_act_256 dL_act_257 dL_act_260 rb (ya_in rfl) ?_
  refine g_iload hX dL_act_261 rfl ?_
  refine g_iload hX dL_act_263 rfl ?_
  refine g_cV4 (c2 := 9) (s2 := 239) hX (s_X9_feast hst) dL_act_265 hH.ob (by first | exact Nat.le_of_ble_eq_true rfl | simp [cat_rf, Value.category]) ⟨rfl, rfl, by decide, by decide⟩ ?_
  refine ⟨h, A, ow, σ, τ, a, (bZ (b = 1)), c, d, rfl, hH, hV, ra, bZ_01 (b = 1), rc, rd, fun A1 ow1 τ1 M1 s1 hH1 hV1 => ?_⟩
  rcases ya_r_feast σ a (bZ (b = 1)) c d with h0 | h0 | h0
  · rw [res9_0 h0]
    refine Kc_i ?_
    refine g_goto hX dL_act_268 ?_
    refine g_iret hX hR dL_act_448 rfl rfl (by decide) (by decide) ?_
    have h9 := hK A1 ow1 τ1 M1 s1
    rw [ya_cv0 h0] at h9
    exact h9 hH1 hV1
  · rw [res9_1 h0]
    refine Kc_x (gx_catch hX [(0, 448, 449, 94)] (0, 448, 454, 97) [(0, 448, 459, 100)] rfl (List.forall_mem_cons.mpr ⟨⟨by decide, 504, "java/lang/IndexOutOfBoundsException", by decide +kernel, List.mem_of_getElem? (i := 1) rfl⟩, fun _ h9 => absurd h9 List.not_mem_nil⟩) (by decide) (by decide) ⟨505, 339, by decide +kernel, by decide +kernel⟩ (fun q => ?_))
    refine g_astore hX dL_act_454 rfl ?_
    dsimp only [List.set]
    refine g_const hX dL_act_456 ?_
    refine g_iret hX hR dL_act_458 rfl rfl (by decide) (by decide) ?_
    have h9 := hK A1 ow1 τ1 M1 s1
    rw [ya_cv1 h0] at h9
    exact h9 hH1 hV1
  · rw [res9_2 h0]
    refine Kc_x (gx_catch hX [(0, 448, 449, 94), (0, 448, 454, 97)] (0, 448, 459, 100) [] rfl (List.forall_mem_cons.mpr ⟨⟨by decide, 504, "java/lang/IndexOutOfBoundsException", by decide +kernel, List.mem_of_getElem? (i := 3) rfl⟩, List.forall_mem_cons.mpr ⟨⟨by decide, 505, "java/lang/IllegalArgumentException", by decide +kernel, List.mem_of_getElem? (i := 2) rfl⟩, fun _ h9 => absurd h9 List.not_mem_nil⟩⟩) (by decide) (by decide) ⟨506, 273, by decide +kernel, by decide +kernel⟩ (fun q => ?_))
    refine g_astore hX dL_act_459 rfl ?_
    dsimp only [List.set]
    refine g_const hX dL_act_461 ?_
    refine g_iret hX hR dL_act_463 rfl rfl (by decide) (by decide) ?_
    have h9 := hK A1 ow1 τ1 M1 s1
    rw [ya_cv2 h0] at h9
    exact h9 hH1 hV1

theorem ya_a15 {X : hX} {h : Nat} {A : Nat → Nat → Nat} {ow : Nat → Nat × Nat} {σ : SG} {τ : Nat → Nat → Int} {M M0 : hM} {sz sz0 : Nat} {K : hK} {w a b c d : Int} (hX : Cok X mL_act) (hst : X.1.2.1.stackTraces = false) (hR : Ret X mL_act M0 sz0 K) (hH : HX X.2.2.2.2.2.2.2.2.2 h A ow σ τ M) (hV : SV σ) (ra : inR a) (rb : inR b) (rc : inR c) (rd : inR d) (hK : ya_KA X.2.2.2.2.2.2.2.2.2 h (ya_cv ya_A ya_S ya_S (oc_moving σ a (bZ (b = 1)) c)) K) : G X 277 [.ref h, .int (iZ w), .int (iZ a), .int (iZ b), .int (iZ c), .int (iZ d), U9] [] M sz 0 0 := by
  refine g_aload hX dL_act_277 rfl rfl ?_
  refine g_iload hX dL_act_278 rfl ?_
  refine g_iload hX dL_act_279 rfl ?_
  refine g_const hX dL_act_280 ?_
  refine y_eqb (n2 := 0) hX dL_act_281 dL_act_284 dL_act_285 dL_act_288 rb (ya_in rfl) ?_
  refine g_iload hX dL_act_289 rfl ?_
  refine g_cV3 (c2 := 7) (s2 := 227) hX (s_X9_moving hst) dL_act_291 hH.ob (by first | exact Nat.le_of_ble_eq_true rfl | simp [cat_rf, Value.category]) ⟨rfl, rfl, by decide, by decide⟩ ?_
  refine ⟨h, A, ow, σ, τ, a, (bZ (b = 1)), c, rfl, hH, hV, ra, bZ_01 (b = 1), rc, fun A1 ow1 τ1 M1 s1 hH1 hV1 => ?_⟩
  rcases ya_r_moving σ a (bZ (b = 1)) c with h0 | h0 | h0
  · rw [res9_0 h0]
    refine Kc_i ?_
    refine g_goto hX dL_act_294 ?_
    refine g_iret hX hR dL_act_448 rfl rfl (by decide) (by decide) ?_
    have h9 := hK A1 ow1 τ1 M1 s1
    rw [ya_cv0 h0] at h9
    exact h9 hH1 hV1
  · rw [res9_1 h0]
    refine Kc_x (gx_catch hX [(0, 448, 449, 94)] (0, 448, 454, 97) [(0, 448, 459, 100)] rfl (List.forall_mem_cons.mpr ⟨⟨by decide, 504, "java/lang/IndexOutOfBoundsException", by decide +kernel, List.mem_of_getElem? (i := 1) rfl⟩, fun _ h9 => absurd h9 List.not_mem_nil⟩) (by decide) (by decide) ⟨505, 339, by decide +kernel, by decide +kernel⟩ (fun q => ?_))
    refine g_astore hX dL_act_454 rfl ?_
    dsimp only [List.set]
    refine g_const hX dL_act_456 ?_
    refine g_iret hX hR dL_act_458 rfl rfl (by decide) (by decide) ?_
    have h9 := hK A1 ow1 τ1 M1 s1
    rw [ya_cv1 h0] at h9
    exact h9 hH1 hV1
  · rw [res9_2 h0]
    refine Kc_x (gx_catch hX [(0, 448, 449, 94), (0, 448, 454, 97)] (0, 448, 459, 100) [] rfl (List.forall_mem_cons.mpr ⟨⟨by decide, 504, "java/lang/IndexOutOfBoundsException", by decide +kernel, List.mem_of_getElem? (i := 3) rfl⟩, List.forall_mem_cons.mpr ⟨⟨by decide, 505, "java/lang/IllegalArgumentException", by decide +kernel, List.mem_of_getElem? (i := 2) rfl⟩, fun _ h9 => absurd h9 List.not_mem_nil⟩⟩) (by decide) (by decide) ⟨506, 273, by decide +kernel, by decide +kernel⟩ (fun q => ?_))
    refine g_astore hX dL_act_459 rfl ?_
    dsimp only [List.set]
    refine g_const hX dL_act_461 ?_
    refine g_iret hX hR dL_act_463 rfl rfl (by decide) (by decide) ?_
    have h9 := hK A1 ow1 τ1 M1 s1
    rw [ya_cv2 h0] at h9
    exact h9 hH1 hV1

theorem ya_a16 {X : hX} {h : Nat} {A : Nat → Nat → Nat} {ow : Nat → Nat × Nat} {σ : SG} {τ : Nat → Nat → Int} {M M0 : hM} {sz sz0 : Nat} {K : hK} {w a b c d : Int} (hX : Cok X mL_act) (hst : X.1.2.1.stackTraces = false) (hR : Ret X mL_act M0 sz0 K) (hH : HX X.2.2.2.2.2.2.2.2.2 h A ow σ τ M) (hV : SV σ) (ra : inR a) (rb : inR b) (rc : inR c) (rd : inR d) (hK : ya_KA X.2.2.2.2.2.2.2.2.2 h (ya_cv ya_A ya_A ya_A (oc_sundays σ a)) K) : G X 303 [.ref h, .int (iZ w), .int (iZ a), .int (iZ b), .int (iZ c), .int (iZ d), U9] [] M sz 0 0 := by
  refine g_aload hX dL_act_303 rfl rfl ?_
  refine g_iload hX dL_act_304 rfl ?_
  refine g_cV1 (c2 := 1) (s2 := 6) hX (s_X9_sundays hst) dL_act_305 hH.ob (by first | exact Nat.le_of_ble_eq_true rfl | simp [cat_rf, Value.category]) ⟨rfl, rfl, by decide, by decide⟩ ?_
  refine ⟨h, A, ow, σ, τ, a, rfl, hH, hV, ra, fun A1 ow1 τ1 M1 s1 hH1 hV1 => ?_⟩
  rcases ya_r_sundays σ a with h0 | h0
  · rw [res9_0 h0]
    refine Kc_i ?_
    refine g_goto hX dL_act_308 ?_
    refine g_iret hX hR dL_act_448 rfl rfl (by decide) (by decide) ?_
    have h9 := hK A1 ow1 τ1 M1 s1
    rw [ya_cv0 h0] at h9
    exact h9 hH1 hV1
  · rw [res9_1 h0]
    refine Kc_x (gx_catch hX [(0, 448, 449, 94)] (0, 448, 454, 97) [(0, 448, 459, 100)] rfl (List.forall_mem_cons.mpr ⟨⟨by decide, 504, "java/lang/IndexOutOfBoundsException", by decide +kernel, List.mem_of_getElem? (i := 1) rfl⟩, fun _ h9 => absurd h9 List.not_mem_nil⟩) (by decide) (by decide) ⟨505, 339, by decide +kernel, by decide +kernel⟩ (fun q => ?_))
    refine g_astore hX dL_act_454 rfl ?_
    dsimp only [List.set]
    refine g_const hX dL_act_456 ?_
    refine g_iret hX hR dL_act_458 rfl rfl (by decide) (by decide) ?_
    have h9 := hK A1 ow1 τ1 M1 s1
    rw [ya_cv1 h0] at h9
    exact h9 hH1 hV1

theorem ya_a17 {X : hX} {h : Nat} {A : Nat → Nat → Nat} {ow : Nat → Nat × Nat} {σ : SG} {τ : Nat → Nat → Int} {M M0 : hM} {sz sz0 : Nat} {K : hK} {w a b c d : Int} (hX : Cok X mL_act) (hst : X.1.2.1.stackTraces = false) (hR : Ret X mL_act M0 sz0 K) (hH : HX X.2.2.2.2.2.2.2.2.2 h A ow σ τ M) (hV : SV σ) (ra : inR a) (rb : inR b) (rc : inR c) (rd : inR d) (hK : ya_KA X.2.2.2.2.2.2.2.2.2 h (ya_cv ya_I ya_A ya_A (oc_reading σ a b c)) K) : G X 317 [.ref h, .int (iZ w), .int (iZ a), .int (iZ b), .int (iZ c), .int (iZ d), U9] [] M sz 0 0 := by
  refine g_aload hX dL_act_317 rfl rfl ?_
  refine g_iload hX dL_act_318 rfl ?_
  refine g_iload hX dL_act_319 rfl ?_
  refine g_iload hX dL_act_320 rfl ?_
  refine g_cV3 (c2 := 3) (s2 := 18) hX (s_X9_reading hst) dL_act_322 hH.ob (by first | exact Nat.le_of_ble_eq_true rfl | simp [cat_rf, Value.category]) ⟨rfl, rfl, by decide, by decide⟩ ?_
  refine ⟨h, A, ow, σ, τ, a, b, c, rfl, hH, hV, ra, rb, rc, fun A1 ow1 τ1 M1 s1 hH1 hV1 => ?_⟩
  rcases ya_r_reading σ a b c with h0 | h0 | h0
  · rw [res9_0 h0]
    refine Kc_i ?_
    refine g_goto hX dL_act_325 ?_
    refine g_iret hX hR dL_act_448 rfl rfl (by decide) (by decide) ?_
    have h9 := hK A1 ow1 τ1 M1 s1
    rw [ya_cv0 h0] at h9
    exact h9 hH1 hV1
  · rw [res9_1 h0]
    refine Kc_x (gx_catch hX [] (0, 448, 449, 94) [(0, 448, 454, 97), (0, 448, 459, 100)] rfl (fun _ h9 => absurd h9 List.not_mem_nil) (by decide) (by decide) ⟨504, 169, by decide +kernel, by decide +kernel⟩ (fun q => ?_))
    refine g_astore hX dL_act_449 rfl ?_
    dsimp only [List.set]
    refine g_const hX dL_act_451 ?_
    refine g_iret hX hR dL_act_453 rfl rfl (by decide) (by decide) ?_
    have h9 := hK A1 ow1 τ1 M1 s1
    rw [ya_cv1 h0] at h9
    exact h9 hH1 hV1
  · rw [res9_2 h0]
    refine Kc_x (gx_catch hX [(0, 448, 449, 94)] (0, 448, 454, 97) [(0, 448, 459, 100)] rfl (List.forall_mem_cons.mpr ⟨⟨by decide, 504, "java/lang/IndexOutOfBoundsException", by decide +kernel, List.mem_of_getElem? (i := 1) rfl⟩, fun _ h9 => absurd h9 List.not_mem_nil⟩) (by decide) (by decide) ⟨505, 339, by decide +kernel, by decide +kernel⟩ (fun q => ?_))
    refine g_astore hX dL_act_454 rfl ?_
    dsimp only [List.set]
    refine g_const hX dL_act_456 ?_
    refine g_iret hX hR dL_act_458 rfl rfl (by decide) (by decide) ?_
    have h9 := hK A1 ow1 τ1 M1 s1
    rw [ya_cv2 h0] at h9
    exact h9 hH1 hV1

theorem ya_a18 {X : hX} {h : Nat} {A : Nat → Nat → Nat} {ow : Nat → Nat × Nat} {σ : SG} {τ : Nat → Nat → Int} {M M0 : hM} {sz sz0 : Nat} {K : hK} {w a b c d : Int} (hX : Cok X mL_act) (hst : X.1.2.1.stackTraces = false) (hR : Ret X mL_act M0 sz0 K) (hH : HX X.2.2.2.2.2.2.2.2.2 h A ow σ τ M) (hV : SV σ) (ra : inR a) (rb : inR b) (rc : inR c) (rd : inR d) (hK : ya_KA X.2.2.2.2.2.2.2.2.2 h (ya_cv ya_A ya_A ya_A (oc_kept σ a b c)) K) : G X 334 [.ref h, .int (iZ w), .int (iZ a), .int (iZ b), .int (iZ c), .int (iZ d), U9] [] M sz 0 0 := by
  refine g_aload hX dL_act_334 rfl rfl ?_
  refine g_iload hX dL_act_335 rfl ?_
  refine g_iload hX dL_act_336 rfl ?_
  refine g_iload hX dL_act_337 rfl ?_
  refine g_cV3 (c2 := 3) (s2 := 18) hX (s_X9_kept hst) dL_act_339 hH.ob (by first | exact Nat.le_of_ble_eq_true rfl | simp [cat_rf, Value.category]) ⟨rfl, rfl, by decide, by decide⟩ ?_
  refine ⟨h, A, ow, σ, τ, a, b, c, rfl, hH, hV, ra, rb, rc, fun A1 ow1 τ1 M1 s1 hH1 hV1 => ?_⟩
  rcases ya_r_kept σ a b c with h0 | h0
  · rw [res9_0 h0]
    refine Kc_i ?_
    refine g_goto hX dL_act_342 ?_
    refine g_iret hX hR dL_act_448 rfl rfl (by decide) (by decide) ?_
    have h9 := hK A1 ow1 τ1 M1 s1
    rw [ya_cv0 h0] at h9
    exact h9 hH1 hV1
  · rw [res9_1 h0]
    refine Kc_x (gx_catch hX [(0, 448, 449, 94)] (0, 448, 454, 97) [(0, 448, 459, 100)] rfl (List.forall_mem_cons.mpr ⟨⟨by decide, 504, "java/lang/IndexOutOfBoundsException", by decide +kernel, List.mem_of_getElem? (i := 1) rfl⟩, fun _ h9 => absurd h9 List.not_mem_nil⟩) (by decide) (by decide) ⟨505, 339, by decide +kernel, by decide +kernel⟩ (fun q => ?_))
    refine g_astore hX dL_act_454 rfl ?_
    dsimp only [List.set]
    refine g_const hX dL_act_456 ?_
    refine g_iret hX hR dL_act_458 rfl rfl (by decide) (by decide) ?_
    have h9 := hK A1 ow1 τ1 M1 s1
    rw [ya_cv1 h0] at h9
    exact h9 hH1 hV1

theorem ya_a19 {X : hX} {h : Nat} {A : Nat → Nat → Nat} {ow : Nat → Nat × Nat} {σ : SG} {τ : Nat → Nat → Int} {M M0 : hM} {sz sz0 : Nat} {K : hK} {w a b c d : Int} (hX : Cok X mL_act) (hst : X.1.2.1.stackTraces = false) (hR : Ret X mL_act M0 sz0 K) (hH : HX X.2.2.2.2.2.2.2.2.2 h A ow σ τ M) (hV : SV σ) (ra : inR a) (rb : inR b) (rc : inR c) (rd : inR d) (hK : ya_KA X.2.2.2.2.2.2.2.2.2 h (ya_cv ya_I ya_A ya_A (oc_when σ a b)) K) : G X 351 [.ref h, .int (iZ w), .int (iZ a), .int (iZ b), .int (iZ c), .int (iZ d), U9] [] M sz 0 0 := by
  refine g_aload hX dL_act_351 rfl rfl ?_
  refine g_iload hX dL_act_352 rfl ?_
  refine g_iload hX dL_act_353 rfl ?_
  refine g_cV2 (c2 := 2) (s2 := 12) hX (s_X9_when hst) dL_act_354 hH.ob (by first | exact Nat.le_of_ble_eq_true rfl | simp [cat_rf, Value.category]) ⟨rfl, rfl, by decide, by decide⟩ ?_
  refine ⟨h, A, ow, σ, τ, a, b, rfl, hH, hV, ra, rb, fun A1 ow1 τ1 M1 s1 hH1 hV1 => ?_⟩
  rcases ya_r_when σ a b with h0 | h0 | h0
  · rw [res9_0 h0]
    refine Kc_i ?_
    refine g_goto hX dL_act_357 ?_
    refine g_iret hX hR dL_act_448 rfl rfl (by decide) (by decide) ?_
    have h9 := hK A1 ow1 τ1 M1 s1
    rw [ya_cv0 h0] at h9
    exact h9 hH1 hV1
  · rw [res9_1 h0]
    refine Kc_x (gx_catch hX [] (0, 448, 449, 94) [(0, 448, 454, 97), (0, 448, 459, 100)] rfl (fun _ h9 => absurd h9 List.not_mem_nil) (by decide) (by decide) ⟨504, 169, by decide +kernel, by decide +kernel⟩ (fun q => ?_))
    refine g_astore hX dL_act_449 rfl ?_
    dsimp only [List.set]
    refine g_const hX dL_act_451 ?_
    refine g_iret hX hR dL_act_453 rfl rfl (by decide) (by decide) ?_
    have h9 := hK A1 ow1 τ1 M1 s1
    rw [ya_cv1 h0] at h9
    exact h9 hH1 hV1
  · rw [res9_2 h0]
    refine Kc_x (gx_catch hX [(0, 448, 449, 94)] (0, 448, 454, 97) [(0, 448, 459, 100)] rfl (List.forall_mem_cons.mpr ⟨⟨by decide, 504, "java/lang/IndexOutOfBoundsException", by decide +kernel, List.mem_of_getElem? (i := 1) rfl⟩, fun _ h9 => absurd h9 List.not_mem_nil⟩) (by decide) (by decide) ⟨505, 339, by decide +kernel, by decide +kernel⟩ (fun q => ?_))
    refine g_astore hX dL_act_454 rfl ?_
    dsimp only [List.set]
    refine g_const hX dL_act_456 ?_
    refine g_iret hX hR dL_act_458 rfl rfl (by decide) (by decide) ?_
    have h9 := hK A1 ow1 τ1 M1 s1
    rw [ya_cv2 h0] at h9
    exact h9 hH1 hV1

theorem ya_a20 {X : hX} {h : Nat} {A : Nat → Nat → Nat} {ow : Nat → Nat × Nat} {σ : SG} {τ : Nat → Nat → Int} {M M0 : hM} {sz sz0 : Nat} {K : hK} {w a b c d : Int} (hX : Cok X mL_act) (hst : X.1.2.1.stackTraces = false) (hR : Ret X mL_act M0 sz0 K) (hH : HX X.2.2.2.2.2.2.2.2.2 h A ow σ τ M) (hV : SV σ) (ra : inR a) (rb : inR b) (rc : inR c) (rd : inR d) (hK : ya_KA X.2.2.2.2.2.2.2.2.2 h (ya_cv ya_I ya_A ya_A (oc_when σ a b)) K) : G X 366 [.ref h, .int (iZ w), .int (iZ a), .int (iZ b), .int (iZ c), .int (iZ d), U9] [] M sz 0 0 := by
  refine g_aload hX dL_act_366 rfl rfl ?_
  refine g_iload hX dL_act_367 rfl ?_
  refine g_iload hX dL_act_368 rfl ?_
  refine g_cV2 (c2 := 2) (s2 := 12) hX (s_X9_whenAnew hst) dL_act_369 hH.ob (by first | exact Nat.le_of_ble_eq_true rfl | simp [cat_rf, Value.category]) ⟨rfl, rfl, by decide, by decide⟩ ?_
  refine ⟨h, A, ow, σ, τ, a, b, rfl, hH, hV, ra, rb, fun A1 ow1 τ1 M1 s1 hH1 hV1 => ?_⟩
  rcases ya_r_when σ a b with h0 | h0 | h0
  · rw [res9_0 h0]
    refine Kc_i ?_
    refine g_goto hX dL_act_372 ?_
    refine g_iret hX hR dL_act_448 rfl rfl (by decide) (by decide) ?_
    have h9 := hK A1 ow1 τ1 M1 s1
    rw [ya_cv0 h0] at h9
    exact h9 hH1 hV1
  · rw [res9_1 h0]
    refine Kc_x (gx_catch hX [] (0, 448, 449, 94) [(0, 448, 454, 97), (0, 448, 459, 100)] rfl (fun _ h9 => absurd h9 List.not_mem_nil) (by decide) (by decide) ⟨504, 169, by decide +kernel, by decide +kernel⟩ (fun q => ?_))
    refine g_astore hX dL_act_449 rfl ?_
    dsimp only [List.set]
    refine g_const hX dL_act_451 ?_
    refine g_iret hX hR dL_act_453 rfl rfl (by decide) (by decide) ?_
    have h9 := hK A1 ow1 τ1 M1 s1
    rw [ya_cv1 h0] at h9
    exact h9 hH1 hV1
  · rw [res9_2 h0]
    refine Kc_x (gx_catch hX [(0, 448, 449, 94)] (0, 448, 454, 97) [(0, 448, 459, 100)] rfl (List.forall_mem_cons.mpr ⟨⟨by decide, 504, "java/lang/IndexOutOfBoundsException", by decide +kernel, List.mem_of_getElem? (i := 1) rfl⟩, fun _ h9 => absurd h9 List.not_mem_nil⟩) (by decide) (by decide) ⟨505, 339, by decide +kernel, by decide +kernel⟩ (fun q => ?_))
    refine g_astore hX dL_act_454 rfl ?_
    dsimp only [List.set]
    refine g_const hX dL_act_456 ?_
    refine g_iret hX hR dL_act_458 rfl rfl (by decide) (by decide) ?_
    have h9 := hK A1 ow1 τ1 M1 s1
    rw [ya_cv2 h0] at h9
    exact h9 hH1 hV1

theorem ya_a21 {X : hX} {h : Nat} {A : Nat → Nat → Nat} {ow : Nat → Nat × Nat} {σ : SG} {τ : Nat → Nat → Int} {M M0 : hM} {sz sz0 : Nat} {K : hK} {w a b c d : Int} (hX : Cok X mL_act) (hst : X.1.2.1.stackTraces = false) (hR : Ret X mL_act M0 sz0 K) (hH : HX X.2.2.2.2.2.2.2.2.2 h A ow σ τ M) (hV : SV σ) (ra : inR a) (rb : inR b) (rc : inR c) (rd : inR d) (hK : ya_KA X.2.2.2.2.2.2.2.2.2 h (ya_cv ya_A ya_A ya_A (oc_theme σ a b c)) K) : G X 381 [.ref h, .int (iZ w), .int (iZ a), .int (iZ b), .int (iZ c), .int (iZ d), U9] [] M sz 0 0 := by
  refine g_aload hX dL_act_381 rfl rfl ?_
  refine g_iload hX dL_act_382 rfl ?_
  refine g_iload hX dL_act_383 rfl ?_
  refine g_iload hX dL_act_384 rfl ?_
  refine g_cV3 (c2 := 3) (s2 := 18) hX (s_X9_theme hst) dL_act_386 hH.ob (by first | exact Nat.le_of_ble_eq_true rfl | simp [cat_rf, Value.category]) ⟨rfl, rfl, by decide, by decide⟩ ?_
  refine ⟨h, A, ow, σ, τ, a, b, c, rfl, hH, hV, ra, rb, rc, fun A1 ow1 τ1 M1 s1 hH1 hV1 => ?_⟩
  rcases ya_r_theme σ a b c with h0 | h0
  · rw [res9_0 h0]
    refine Kc_i ?_
    refine g_goto hX dL_act_389 ?_
    refine g_iret hX hR dL_act_448 rfl rfl (by decide) (by decide) ?_
    have h9 := hK A1 ow1 τ1 M1 s1
    rw [ya_cv0 h0] at h9
    exact h9 hH1 hV1
  · rw [res9_1 h0]
    refine Kc_x (gx_catch hX [(0, 448, 449, 94)] (0, 448, 454, 97) [(0, 448, 459, 100)] rfl (List.forall_mem_cons.mpr ⟨⟨by decide, 504, "java/lang/IndexOutOfBoundsException", by decide +kernel, List.mem_of_getElem? (i := 1) rfl⟩, fun _ h9 => absurd h9 List.not_mem_nil⟩) (by decide) (by decide) ⟨505, 339, by decide +kernel, by decide +kernel⟩ (fun q => ?_))
    refine g_astore hX dL_act_454 rfl ?_
    dsimp only [List.set]
    refine g_const hX dL_act_456 ?_
    refine g_iret hX hR dL_act_458 rfl rfl (by decide) (by decide) ?_
    have h9 := hK A1 ow1 τ1 M1 s1
    rw [ya_cv1 h0] at h9
    exact h9 hH1 hV1

theorem ya_a22 {X : hX} {h : Nat} {A : Nat → Nat → Nat} {ow : Nat → Nat × Nat} {σ : SG} {τ : Nat → Nat → Int} {M M0 : hM} {sz sz0 : Nat} {K : hK} {w a b c d : Int} (hX : Cok X mL_act) (hst : X.1.2.1.stackTraces = false) (hR : Ret X mL_act M0 sz0 K) (hH : HX X.2.2.2.2.2.2.2.2.2 h A ow σ τ M) (hV : SV σ) (ra : inR a) (rb : inR b) (rc : inR c) (rd : inR d) (hK : ya_KA X.2.2.2.2.2.2.2.2.2 h (ya_cv ya_I ya_A ya_S (oc_why σ a b c d)) K) : G X 398 [.ref h, .int (iZ w), .int (iZ a), .int (iZ b), .int (iZ c), .int (iZ d), U9] [] M sz 0 0 := by
  refine g_aload hX dL_act_398 rfl rfl ?_
  refine g_iload hX dL_act_399 rfl ?_
  refine g_iload hX dL_act_400 rfl ?_
  refine g_iload hX dL_act_401 rfl ?_
  refine g_iload hX dL_act_403 rfl ?_
  refine g_cV4 (c2 := 5) (s2 := 30) hX (s_X9_why hst) dL_act_405 hH.ob (by first | exact Nat.le_of_ble_eq_true rfl | simp [cat_rf, Value.category]) ⟨rfl, rfl, by decide, by decide⟩ ?_
  refine ⟨h, A, ow, σ, τ, a, b, c, d, rfl, hH, hV, ra, rb, rc, rd, fun A1 ow1 τ1 M1 s1 hH1 hV1 => ?_⟩
  rcases ya_r_why σ a b c d with h0 | h0 | h0 | h0
  · rw [res9_0 h0]
    refine Kc_i ?_
    refine g_goto hX dL_act_408 ?_
    refine g_iret hX hR dL_act_448 rfl rfl (by decide) (by decide) ?_
    have h9 := hK A1 ow1 τ1 M1 s1
    rw [ya_cv0 h0] at h9
    exact h9 hH1 hV1
  · rw [res9_1 h0]
    refine Kc_x (gx_catch hX [] (0, 448, 449, 94) [(0, 448, 454, 97), (0, 448, 459, 100)] rfl (fun _ h9 => absurd h9 List.not_mem_nil) (by decide) (by decide) ⟨504, 169, by decide +kernel, by decide +kernel⟩ (fun q => ?_))
    refine g_astore hX dL_act_449 rfl ?_
    dsimp only [List.set]
    refine g_const hX dL_act_451 ?_
    refine g_iret hX hR dL_act_453 rfl rfl (by decide) (by decide) ?_
    have h9 := hK A1 ow1 τ1 M1 s1
    rw [ya_cv1 h0] at h9
    exact h9 hH1 hV1
  · rw [res9_2 h0]
    refine Kc_x (gx_catch hX [(0, 448, 449, 94)] (0, 448, 454, 97) [(0, 448, 459, 100)] rfl (List.forall_mem_cons.mpr ⟨⟨by decide, 504, "java/lang/IndexOutOfBoundsException", by decide +kernel, List.mem_of_getElem? (i := 1) rfl⟩, fun _ h9 => absurd h9 List.not_mem_nil⟩) (by decide) (by decide) ⟨505, 339, by decide +kernel, by decide +kernel⟩ (fun q => ?_))
    refine g_astore hX dL_act_454 rfl ?_
    dsimp only [List.set]
    refine g_const hX dL_act_456 ?_
    refine g_iret hX hR dL_act_458 rfl rfl (by decide) (by decide) ?_
    have h9 := hK A1 ow1 τ1 M1 s1
    rw [ya_cv2 h0] at h9
    exact h9 hH1 hV1
  · rw [res9_3 h0]
    refine Kc_x (gx_catch hX [(0, 448, 449, 94), (0, 448, 454, 97)] (0, 448, 459, 100) [] rfl (List.forall_mem_cons.mpr ⟨⟨by decide, 504, "java/lang/IndexOutOfBoundsException", by decide +kernel, List.mem_of_getElem? (i := 3) rfl⟩, List.forall_mem_cons.mpr ⟨⟨by decide, 505, "java/lang/IllegalArgumentException", by decide +kernel, List.mem_of_getElem? (i := 2) rfl⟩, fun _ h9 => absurd h9 List.not_mem_nil⟩⟩) (by decide) (by decide) ⟨506, 273, by decide +kernel, by decide +kernel⟩ (fun q => ?_))
    refine g_astore hX dL_act_459 rfl ?_
    dsimp only [List.set]
    refine g_const hX dL_act_461 ?_
    refine g_iret hX hR dL_act_463 rfl rfl (by decide) (by decide) ?_
    have h9 := hK A1 ow1 τ1 M1 s1
    rw [ya_cv3 h0] at h9
    exact h9 hH1 hV1

theorem ya_a23 {X : hX} {h : Nat} {A : Nat → Nat → Nat} {ow : Nat → Nat × Nat} {σ : SG} {τ : Nat → Nat → Int} {M M0 : hM} {sz sz0 : Nat} {K : hK} {w a b c d : Int} (hX : Cok X mL_act) (hst : X.1.2.1.stackTraces = false) (hR : Ret X mL_act M0 sz0 K) (hH : HX X.2.2.2.2.2.2.2.2.2 h A ow σ τ M) (hV : SV σ) (ra : inR a) (rb : inR b) (rc : inR c) (rd : inR d) (hK : ya_KA X.2.2.2.2.2.2.2.2.2 h (ya_cv ya_A ya_S ya_S (oc_sing σ a b c)) K) : G X 417 [.ref h, .int (iZ w), .int (iZ a), .int (iZ b), .int (iZ c), .int (iZ d), U9] [] M sz 0 0 := by
  refine g_aload hX dL_act_417 rfl rfl ?_
  refine g_iload hX dL_act_418 rfl ?_
  refine g_iload hX dL_act_419 rfl ?_
  refine g_iload hX dL_act_420 rfl ?_
  refine g_cV3 (c2 := 8) (s2 := 241) hX (s_X9_sing hst) dL_act_422 hH.ob (by first | exact Nat.le_of_ble_eq_true rfl | simp [cat_rf, Value.category]) ⟨rfl, rfl, by decide, by decide⟩ ?_
  refine ⟨h, A, ow, σ, τ, a, b, c, rfl, hH, hV, ra, rb, rc, fun A1 ow1 τ1 M1 s1 hH1 hV1 => ?_⟩
  rcases ya_r_sing σ a b c with h0 | h0 | h0
  · rw [res9_0 h0]
    refine Kc_i ?_
    refine g_goto hX dL_act_425 ?_
    refine g_iret hX hR dL_act_448 rfl rfl (by decide) (by decide) ?_
    have h9 := hK A1 ow1 τ1 M1 s1
    rw [ya_cv0 h0] at h9
    exact h9 hH1 hV1
  · rw [res9_1 h0]
    refine Kc_x (gx_catch hX [(0, 448, 449, 94)] (0, 448, 454, 97) [(0, 448, 459, 100)] rfl (List.forall_mem_cons.mpr ⟨⟨by decide, 504, "java/lang/IndexOutOfBoundsException", by decide +kernel, List.mem_of_getElem? (i := 1) rfl⟩, fun _ h9 => absurd h9 List.not_mem_nil⟩) (by decide) (by decide) ⟨505, 339, by decide +kernel, by decide +kernel⟩ (fun q => ?_))
    refine g_astore hX dL_act_454 rfl ?_
    dsimp only [List.set]
    refine g_const hX dL_act_456 ?_
    refine g_iret hX hR dL_act_458 rfl rfl (by decide) (by decide) ?_
    have h9 := hK A1 ow1 τ1 M1 s1
    rw [ya_cv1 h0] at h9
    exact h9 hH1 hV1
  · rw [res9_2 h0]
    refine Kc_x (gx_catch hX [(0, 448, 449, 94), (0, 448, 454, 97)] (0, 448, 459, 100) [] rfl (List.forall_mem_cons.mpr ⟨⟨by decide, 504, "java/lang/IndexOutOfBoundsException", by decide +kernel, List.mem_of_getElem? (i := 3) rfl⟩, List.forall_mem_cons.mpr ⟨⟨by decide, 505, "java/lang/IllegalArgumentException", by decide +kernel, List.mem_of_getElem? (i := 2) rfl⟩, fun _ h9 => absurd h9 List.not_mem_nil⟩⟩) (by decide) (by decide) ⟨506, 273, by decide +kernel, by decide +kernel⟩ (fun q => ?_))
    refine g_astore hX dL_act_459 rfl ?_
    dsimp only [List.set]
    refine g_const hX dL_act_461 ?_
    refine g_iret hX hR dL_act_463 rfl rfl (by decide) (by decide) ?_
    have h9 := hK A1 ow1 τ1 M1 s1
    rw [ya_cv2 h0] at h9
    exact h9 hH1 hV1

theorem ya_a24 {X : hX} {h : Nat} {A : Nat → Nat → Nat} {ow : Nat → Nat × Nat} {σ : SG} {τ : Nat → Nat → Int} {M M0 : hM} {sz sz0 : Nat} {K : hK} {w a b c d : Int} (hX : Cok X mL_act) (hst : X.1.2.1.stackTraces = false) (hR : Ret X mL_act M0 sz0 K) (hH : HX X.2.2.2.2.2.2.2.2.2 h A ow σ τ M) (hV : SV σ) (ra : inR a) (rb : inR b) (rc : inR c) (rd : inR d) (hK : ya_KA X.2.2.2.2.2.2.2.2.2 h (ya_cv ya_I ya_A ya_A (oc_service σ a b)) K) : G X 434 [.ref h, .int (iZ w), .int (iZ a), .int (iZ b), .int (iZ c), .int (iZ d), U9] [] M sz 0 0 := by
  refine g_aload hX dL_act_434 rfl rfl ?_
  refine g_iload hX dL_act_435 rfl ?_
  refine g_iload hX dL_act_436 rfl ?_
  refine g_cV2 (c2 := 2) (s2 := 12) hX (s_X9_service hst) dL_act_437 hH.ob (by first | exact Nat.le_of_ble_eq_true rfl | simp [cat_rf, Value.category]) ⟨rfl, rfl, by decide, by decide⟩ ?_
  refine ⟨h, A, ow, σ, τ, a, b, rfl, hH, hV, ra, rb, fun A1 ow1 τ1 M1 s1 hH1 hV1 => ?_⟩
  rcases ya_r_service σ a b with h0 | h0 | h0
  · rw [res9_0 h0]
    refine Kc_i ?_
    refine g_goto hX dL_act_440 ?_
    refine g_iret hX hR dL_act_448 rfl rfl (by decide) (by decide) ?_
    have h9 := hK A1 ow1 τ1 M1 s1
    rw [ya_cv0 h0] at h9
    exact h9 hH1 hV1
  · rw [res9_1 h0]
    refine Kc_x (gx_catch hX [] (0, 448, 449, 94) [(0, 448, 454, 97), (0, 448, 459, 100)] rfl (fun _ h9 => absurd h9 List.not_mem_nil) (by decide) (by decide) ⟨504, 169, by decide +kernel, by decide +kernel⟩ (fun q => ?_))
    refine g_astore hX dL_act_449 rfl ?_
    dsimp only [List.set]
    refine g_const hX dL_act_451 ?_
    refine g_iret hX hR dL_act_453 rfl rfl (by decide) (by decide) ?_
    have h9 := hK A1 ow1 τ1 M1 s1
    rw [ya_cv1 h0] at h9
    exact h9 hH1 hV1
  · rw [res9_2 h0]
    refine Kc_x (gx_catch hX [(0, 448, 449, 94)] (0, 448, 454, 97) [(0, 448, 459, 100)] rfl (List.forall_mem_cons.mpr ⟨⟨by decide, 504, "java/lang/IndexOutOfBoundsException", by decide +kernel, List.mem_of_getElem? (i := 1) rfl⟩, fun _ h9 => absurd h9 List.not_mem_nil⟩) (by decide) (by decide) ⟨505, 339, by decide +kernel, by decide +kernel⟩ (fun q => ?_))
    refine g_astore hX dL_act_454 rfl ?_
    dsimp only [List.set]
    refine g_const hX dL_act_456 ?_
    refine g_iret hX hR dL_act_458 rfl rfl (by decide) (by decide) ?_
    have h9 := hK A1 ow1 τ1 M1 s1
    rw [ya_cv2 h0] at h9
    exact h9 hH1 hV1

theorem ya_a25 {X : hX} {h : Nat} {A : Nat → Nat → Nat} {ow : Nat → Nat × Nat} {σ : SG} {τ : Nat → Nat → Int} {M M0 : hM} {sz sz0 : Nat} {K : hK} {w a b c d : Int} (hX : Cok X mL_act) (hst : X.1.2.1.stackTraces = false) (hR : Ret X mL_act M0 sz0 K) (hH : HX X.2.2.2.2.2.2.2.2.2 h A ow σ τ M) (hV : SV σ) (ra : inR a) (rb : inR b) (rc : inR c) (rd : inR d) (hK : ya_KA X.2.2.2.2.2.2.2.2.2 h (ya_cv ya_I ya_I ya_I (oc_sung σ a)) K) : G X 443 [.ref h, .int (iZ w), .int (iZ a), .int (iZ b), .int (iZ c), .int (iZ d), U9] [] M sz 0 0 := by
  refine g_aload hX dL_act_443 rfl rfl ?_
  refine g_iload hX dL_act_444 rfl ?_
  refine g_cV1 (c2 := 1) (s2 := 6) hX (s_X9_sung hst) dL_act_445 hH.ob (by first | exact Nat.le_of_ble_eq_true rfl | simp [cat_rf, Value.category]) ⟨rfl, rfl, by decide, by decide⟩ ?_
  refine ⟨h, A, ow, σ, τ, a, rfl, hH, hV, ra, fun A1 ow1 τ1 M1 s1 hH1 hV1 => ?_⟩
  rcases ya_r_sung σ a with h0 | h0
  · rw [res9_0 h0]
    refine Kc_i ?_
    refine g_iret hX hR dL_act_448 rfl rfl (by decide) (by decide) ?_
    have h9 := hK A1 ow1 τ1 M1 s1
    rw [ya_cv0 h0] at h9
    exact h9 hH1 hV1
  · rw [res9_1 h0]
    refine Kc_x (gx_catch hX [] (0, 448, 449, 94) [(0, 448, 454, 97), (0, 448, 459, 100)] rfl (fun _ h9 => absurd h9 List.not_mem_nil) (by decide) (by decide) ⟨504, 169, by decide +kernel, by decide +kernel⟩ (fun q => ?_))
    refine g_astore hX dL_act_449 rfl ?_
    dsimp only [List.set]
    refine g_const hX dL_act_451 ?_
    refine g_iret hX hR dL_act_453 rfl rfl (by decide) (by decide) ?_
    have h9 := hK A1 ow1 τ1 M1 s1
    rw [ya_cv1 h0] at h9
    exact h9 hH1 hV1

def sp_L_act (g : hG) : hS := fun as M sz K => ∃ (h : Nat) (A : Nat → Nat → Nat) (ow : Nat → Nat × Nat) (σ : SG) (τ : Nat → Nat → Int) (w a b c d : Int), as = [.ref h, .int (iZ w), .int (iZ a), .int (iZ b), .int (iZ c), .int (iZ d)] ∧ HX g.2.2.2.2 h A ow σ τ M ∧ SV σ ∧ inR w ∧ inR a ∧ inR b ∧ inR c ∧ inR d ∧ ya_KA g.2.2.2.2 h (ya_act σ w a b c d) K
theorem s_L_act {l : Launch} {g : hG} (hst : l.stackTraces = false) : Ctr l g mL_act (sp_L_act g) := by
  refine Ctr.mk9 hst (by decide) ?_ ?_
  · rintro as M sz K ⟨h, A, ow, σ, τ, w, a, b, c, d, rfl, hH, hV, rw, ra, rb, rc, rd, hK⟩
    exact ⟨by simp [mL_act], cat_ok rfl⟩
  rintro X as M sz K hX rfl rfl hR ⟨h, A, ow, σ, τ, w, a, b, c, d, rfl, hH, hV, rw, ra, rb, rc, rd, hK⟩
  show G X 0 [.ref h, .int (iZ w), .int (iZ a), .int (iZ b), .int (iZ c), .int (iZ d), U9] [] M sz 0 0
  refine g_iload hX dL_act_0 rfl ?_
  refine z_if_ne hX dL_act_1 rw (fun c0 => ?_) (fun c0 => ?_)
  rotate_left
  · subst c0
    exact ya_a0 hX hst hR hH hV ra rb rc rd (by rw [ya_act0] at hK; exact hK)
  refine g_iload hX dL_act_13 rfl ?_
  refine g_const hX dL_act_14 ?_
  refine z_icmp_ne hX dL_act_15 rw (ya_in rfl) (fun c1 => ?_) (fun c1 => ?_)
  rotate_left
  · subst c1
    exact ya_a1 hX hst hR hH hV ra rb rc rd (by rw [ya_act1] at hK; exact hK)
  refine g_iload hX dL_act_29 rfl ?_
  refine g_const hX dL_act_30 ?_
  refine z_icmp_ne hX dL_act_31 rw (ya_in rfl) (fun c2 => ?_) (fun c2 => ?_)
  rotate_left
  · subst c2
    exact ya_a2 hX hst hR hH hV ra rb rc rd (by rw [ya_act2] at hK; exact hK)
  refine g_iload hX dL_act_45 rfl ?_
  refine g_const hX dL_act_46 ?_
  refine z_icmp_ne hX dL_act_47 rw (ya_in rfl) (fun c3 => ?_) (fun c3 => ?_)
  rotate_left
  · subst c3
    exact ya_a3 hX hst hR hH hV ra rb rc rd (by rw [ya_act3] at hK; exact hK)
  refine g_iload hX dL_act_61 rfl ?_
  refine g_const hX dL_act_62 ?_
  refine z_icmp_ne hX dL_act_63 rw (ya_in rfl) (fun c4 => ?_) (fun c4 => ?_)
  rotate_left
  · subst c4
    exact ya_a4 hX hst hR hH hV ra rb rc rd (by rw [ya_act4] at hK; exact hK)
  refine g_iload hX dL_act_75 rfl ?_
  refine g_const hX dL_act_76 ?_
  refine z_icmp_ne hX dL_act_77 rw (ya_in rfl) (fun c5 => ?_) (fun c5 => ?_)
  rotate_left
  · subst c5
    exact ya_a5 hX hst hR hH hV ra rb rc rd (by rw [ya_act5] at hK; exact hK)
  refine g_iload hX dL_act_89 rfl ?_
  refine g_const hX dL_act_90 ?_
  refine z_icmp_ne hX dL_act_92 rw (ya_in rfl) (fun c6 => ?_) (fun c6 => ?_)
  rotate_left
  · subst c6
    exact ya_a6 hX hst hR hH hV ra rb rc rd (by rw [ya_act6] at hK; exact hK)
  refine g_iload hX dL_act_103 rfl ?_
  refine g_const hX dL_act_104 ?_
  refine z_icmp_ne hX dL_act_106 rw (ya_in rfl) (fun c7 => ?_) (fun c7 => ?_)
  rotate_left
  · subst c7
    exact ya_a7 hX hst hR hH hV ra rb rc rd (by rw [ya_act7] at hK; exact hK)
  refine g_iload hX dL_act_117 rfl ?_
  refine g_const hX dL_act_118 ?_
  refine z_icmp_ne hX dL_act_120 rw (ya_in rfl) (fun c8 => ?_) (fun c8 => ?_)
  rotate_left
  · subst c8
    exact ya_a8 hX hst hR hH hV ra rb rc rd (by rw [ya_act8] at hK; exact hK)
  refine g_iload hX dL_act_149 rfl ?_
  refine g_const hX dL_act_150 ?_
  refine z_icmp_ne hX dL_act_152 rw (ya_in rfl) (fun c9 => ?_) (fun c9 => ?_)
  rotate_left
  · subst c9
    exact ya_a9 hX hst hR hH hV ra rb rc rd (by rw [ya_act9] at hK; exact hK)
  refine g_iload hX dL_act_181 rfl ?_
  refine g_const hX dL_act_182 ?_
  refine z_icmp_ne hX dL_act_184 rw (ya_in rfl) (fun c10 => ?_) (fun c10 => ?_)
  rotate_left
  · subst c10
    exact ya_a10 hX hst hR hH hV ra rb rc rd (by rw [ya_act10] at hK; exact hK)
  refine g_iload hX dL_act_198 rfl ?_
  refine g_const hX dL_act_199 ?_
  refine z_icmp_ne hX dL_act_201 rw (ya_in rfl) (fun c11 => ?_) (fun c11 => ?_)
  rotate_left
  · subst c11
    exact ya_a11 hX hst hR hH hV ra rb rc rd (by rw [ya_act11] at hK; exact hK)
  refine g_iload hX dL_act_212 rfl ?_
  refine g_const hX dL_act_213 ?_
  refine z_icmp_ne hX dL_act_215 rw (ya_in rfl) (fun c12 => ?_) (fun c12 => ?_)
  rotate_left
  · subst c12
    exact ya_a12 hX hst hR hH hV ra rb rc rd (by rw [ya_act12] at hK; exact hK)
  refine g_iload hX dL_act_226 rfl ?_
  refine g_const hX dL_act_227 ?_
  refine z_icmp_ne hX dL_act_229 rw (ya_in rfl) (fun c13 => ?_) (fun c13 => ?_)
  rotate_left
  · subst c13
    exact ya_a13 hX hst hR hH hV ra rb rc rd (by rw [ya_act13] at hK; exact hK)
  refine g_iload hX dL_act_243 rfl ?_
  refine g_const hX dL_act_244 ?_
  refine z_icmp_ne hX dL_act_246 rw (ya_in rfl) (fun c14 => ?_) (fun c14 => ?_)
  rotate_left
  · subst c14
    exact ya_a14 hX hst hR hH hV ra rb rc rd (by rw [ya_act14] at hK; exact hK)
  refine g_iload hX dL_act_271 rfl ?_
  refine g_const hX dL_act_272 ?_
  refine z_icmp_ne hX dL_act_274 rw (ya_in rfl) (fun c15 => ?_) (fun c15 => ?_)
  rotate_left
  · subst c15
    exact ya_a15 hX hst hR hH hV ra rb rc rd (by rw [ya_act15] at hK; exact hK)
  refine g_iload hX dL_act_297 rfl ?_
  refine g_const hX dL_act_298 ?_
  refine z_icmp_ne hX dL_act_300 rw (ya_in rfl) (fun c16 => ?_) (fun c16 => ?_)
  rotate_left
  · subst c16
    exact ya_a16 hX hst hR hH hV ra rb rc rd (by rw [ya_act16] at hK; exact hK)
  refine g_iload hX dL_act_311 rfl ?_
  refine g_const hX dL_act_312 ?_
  refine z_icmp_ne hX dL_act_314 rw (ya_in rfl) (fun c17 => ?_) (fun c17 => ?_)
  rotate_left
  · subst c17
    exact ya_a17 hX hst hR hH hV ra rb rc rd (by rw [ya_act17] at hK; exact hK)
  refine g_iload hX dL_act_328 rfl ?_
  refine g_const hX dL_act_329 ?_
  refine z_icmp_ne hX dL_act_331 rw (ya_in rfl) (fun c18 => ?_) (fun c18 => ?_)
  rotate_left
  · subst c18
    exact ya_a18 hX hst hR hH hV ra rb rc rd (by rw [ya_act18] at hK; exact hK)
  refine g_iload hX dL_act_345 rfl ?_
  refine g_const hX dL_act_346 ?_
  refine z_icmp_ne hX dL_act_348 rw (ya_in rfl) (fun c19 => ?_) (fun c19 => ?_)
  rotate_left
  · subst c19
    exact ya_a19 hX hst hR hH hV ra rb rc rd (by rw [ya_act19] at hK; exact hK)
  refine g_iload hX dL_act_360 rfl ?_
  refine g_const hX dL_act_361 ?_
  refine z_icmp_ne hX dL_act_363 rw (ya_in rfl) (fun c20 => ?_) (fun c20 => ?_)
  rotate_left
  · subst c20
    exact ya_a20 hX hst hR hH hV ra rb rc rd (by rw [ya_act20] at hK; exact hK)
  refine g_iload hX dL_act_375 rfl ?_
  refine g_const hX dL_act_376 ?_
  refine z_icmp_ne hX dL_act_378 rw (ya_in rfl) (fun c21 => ?_) (fun c21 => ?_)
  rotate_left
  · subst c21
    exact ya_a21 hX hst hR hH hV ra rb rc rd (by rw [ya_act21] at hK; exact hK)
  refine g_iload hX dL_act_392 rfl ?_
  refine g_const hX dL_act_393 ?_
  refine z_icmp_ne hX dL_act_395 rw (ya_in rfl) (fun c22 => ?_) (fun c22 => ?_)
  rotate_left
  · subst c22
    exact ya_a22 hX hst hR hH hV ra rb rc rd (by rw [ya_act22] at hK; exact hK)
  refine g_iload hX dL_act_411 rfl ?_
  refine g_const hX dL_act_412 ?_
  refine z_icmp_ne hX dL_act_414 rw (ya_in rfl) (fun c23 => ?_) (fun c23 => ?_)
  rotate_left
  · subst c23
    exact ya_a23 hX hst hR hH hV ra rb rc rd (by rw [ya_act23] at hK; exact hK)
  refine g_iload hX dL_act_428 rfl ?_
  refine g_const hX dL_act_429 ?_
  refine z_icmp_ne hX dL_act_431 rw (ya_in rfl) (fun c24 => ?_) (fun c24 => ?_)
  rotate_left
  · subst c24
    exact ya_a24 hX hst hR hH hV ra rb rc rd (by rw [ya_act24] at hK; exact hK)
  exact ya_a25 hX hst hR hH hV ra rb rc rd (by rw [show ya_act σ w a b c d = ya_cv ya_I ya_I ya_I (oc_sung σ a) from by unfold ya_act; simp only [if_neg c0, if_neg c1, if_neg c2, if_neg c3, if_neg c4, if_neg c5, if_neg c6, if_neg c7, if_neg c8, if_neg c9, if_neg c10, if_neg c11, if_neg c12, if_neg c13, if_neg c14, if_neg c15, if_neg c16, if_neg c17, if_neg c18, if_neg c19, if_neg c20, if_neg c21, if_neg c22, if_neg c23, if_neg c24, if_false]] at hK; exact hK)

section Y3
variable {X : hX} {d : hD} {pc n t i : Nat} {lv st rest : List Value} {M : hM} {sz cs ss : Nat} {h : Nat} {A : Nat → Nat → Nat} {ow : Nat → Nat × Nat} {σ σ' : SG} {τ : Nat → Nat → Int} {v w a b c d9 : Int}
theorem l_act (hX : Cok X d) (hst : X.1.2.1.stackTraces = false) (hat : AtSX d pc mL_act 6 n) (hH : HX X.2.2.2.2.2.2.2.2.2 h A ow σ τ M) (hV : SV σ) (rw9 : inR w) (ra : inR a) (rb : inR b) (rc : inR c) (rd : inR d9) (e : ya_act σ w a b c d9 = (v, σ')) (hc : cs + 10 ≤ d.2.2.2.2.1.cells) (hs : ss + 250 ≤ d.2.2.2.2.1.slots) (hW : (rest.map fun v => v.category).sum ≤ 8) (kk : ∀ (A' : Nat → Nat → Nat) (ow' : Nat → Nat × Nat) (τ' : Nat → Nat → Int) (M' : hM) (s9 : Nat), HX X.2.2.2.2.2.2.2.2.2 h A' ow' σ' τ' M' → SV σ' → G X n lv (.int (iZ v) :: rest) M' s9 (cs + 10) (ss + 250)) : G X pc lv (.int (iZ d9) :: .int (iZ c) :: .int (iZ b) :: .int (iZ a) :: .int (iZ w) :: .ref h :: rest) M sz cs ss := by
  refine g_cSX6 (c2 := cs + 10) (s2 := ss + 250) hX (s_L_act hst) hat hW ⟨rfl, rfl, hc, hs⟩ ?_
  refine ⟨h, A, ow, σ, τ, w, a, b, c, d9, rfl, hH, hV, rw9, ra, rb, rc, rd, fun A1 ow1 τ1 M1 s1 hH1 hV1 => ?_⟩
  rw [e] at hH1 hV1 ⊢
  exact Kc_i (kk A1 ow1 τ1 M1 s1 hH1 hV1)
end Y3
