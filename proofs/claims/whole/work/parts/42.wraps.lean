/-! the law's calls of the system: what is thrown becomes a number -/
theorem res9_0 {E : Int → String} {o : OC} (h : o.1 = 0) : res9 E o = .inl (some (.int (iZ o.2.1))) := if_pos h
theorem res9_1 {a b c : String} {o : OC} (h : o.1 = 1) : res9 (E3 a b c) o = .inr a := by
  unfold res9 E3
  rw [h]
  rfl
theorem res9_2 {a b c : String} {o : OC} (h : o.1 = 2) : res9 (E3 a b c) o = .inr b := by
  unfold res9 E3
  rw [h]
  rfl
theorem res9_3 {a b c : String} {o : OC} (h : o.1 = 3) : res9 (E3 a b c) o = .inr c := by
  unfold res9 E3
  rw [h]
  rfl

theorem ocr_text (σ : SG) (a b : Int) : (oc_text σ a b).1 = 0 ∨ (oc_text σ a b).1 = 1 ∨ (oc_text σ a b).1 = 2 := by
  unfold oc_text
  (repeat' split) <;> simp

theorem ocr_row_0_13 (σ : SG) (a m s : Int) : (oc_row 0 13 σ a m s).1 = 0 ∨ (oc_row 0 13 σ a m s).1 = 1 ∨ (oc_row 0 13 σ a m s).1 = 2 ∨ (oc_row 0 13 σ a m s).1 = 3 := by
  unfold oc_row
  (repeat' split) <;> simp

theorem ocr_tune (σ : SG) (a lo hi : Int) : (oc_tune σ a lo hi).1 = 0 ∨ (oc_tune σ a lo hi).1 = 1 ∨ (oc_tune σ a lo hi).1 = 2 := by
  unfold oc_tune
  (repeat' split) <;> simp

theorem ocr_row_1_24 (σ : SG) (a m s : Int) : (oc_row 1 24 σ a m s).1 = 0 ∨ (oc_row 1 24 σ a m s).1 = 1 ∨ (oc_row 1 24 σ a m s).1 = 2 ∨ (oc_row 1 24 σ a m s).1 = 3 := by
  unfold oc_row
  (repeat' split) <;> simp

theorem ocr_fits (σ : SG) (a b : Int) : (oc_fits σ a b).1 = 0 ∨ (oc_fits σ a b).1 = 1 := by
  unfold oc_fits
  (repeat' split) <;> simp

theorem ocr_clashes (σ : SG) (a b : Int) : (oc_clashes σ a b).1 = 0 ∨ (oc_clashes σ a b).1 = 1 ∨ (oc_clashes σ a b).1 = 2 := by
  unfold oc_clashes
  (repeat' split) <;> simp

theorem ocr_best (σ : SG) (a : Int) : (oc_best σ a).1 = 0 ∨ (oc_best σ a).1 = 1 := by
  unfold oc_best
  (repeat' split) <;> simp

theorem ocr_alike (σ : SG) (a : Int) : (oc_alike σ a).1 = 0 ∨ (oc_alike σ a).1 = 1 := by
  unfold oc_alike
  (repeat' split) <;> simp

theorem ocr_allow_0_12 (σ : SG) (a b : Int) : (oc_allow 0 12 σ a b).1 = 0 ∨ (oc_allow 0 12 σ a b).1 = 1 := by
  unfold oc_allow
  (repeat' split) <;> simp

theorem ocv_allow_0_12 {σ : SG} (hV : SV σ) {a b : Int} (h : (oc_allow 0 12 σ a b).1 = 0) : (oc_allow 0 12 σ a b).2.1 = 0 ∨ (oc_allow 0 12 σ a b).2.1 = 1 := by
  unfold oc_allow at h ⊢
  split at h
  · cases h
  · rename_i q
    rw [if_neg q]
    exact (hV.t a.toNat).2.2.1

theorem ocr_allow_1_23 (σ : SG) (a b : Int) : (oc_allow 1 23 σ a b).1 = 0 ∨ (oc_allow 1 23 σ a b).1 = 1 := by
  unfold oc_allow
  (repeat' split) <;> simp

theorem ocv_allow_1_23 {σ : SG} (hV : SV σ) {a b : Int} (h : (oc_allow 1 23 σ a b).1 = 0) : (oc_allow 1 23 σ a b).2.1 = 0 ∨ (oc_allow 1 23 σ a b).2.1 = 1 := by
  unfold oc_allow at h ⊢
  split at h
  · cases h
  · rename_i q
    rw [if_neg q]
    exact (hV.u a.toNat).2.2.2.1

theorem ocr_shift (σ : SG) (a lo hi : Int) : (oc_shift σ a lo hi).1 = 0 ∨ (oc_shift σ a lo hi).1 = 1 ∨ (oc_shift σ a lo hi).1 = 2 := by
  unfold oc_shift
  (repeat' split) <;> simp

theorem ocr_easter (σ : SG) (y : Int) : (oc_easter σ y).1 = 0 ∨ (oc_easter σ y).1 = 1 := by
  unfold oc_easter
  (repeat' split) <;> simp

theorem ocr_weekday (σ : SG) (y m d : Int) : (oc_weekday σ y m d).1 = 0 ∨ (oc_weekday σ y m d).1 = 1 := by
  unfold oc_weekday
  (repeat' split) <;> simp

theorem ocr_feast (σ : SG) (r po m d : Int) : (oc_feast σ r po m d).1 = 0 ∨ (oc_feast σ r po m d).1 = 1 ∨ (oc_feast σ r po m d).1 = 2 := by
  unfold oc_feast
  (repeat' split) <;> simp

theorem ocr_moving (σ : SG) (r po d : Int) : (oc_moving σ r po d).1 = 0 ∨ (oc_moving σ r po d).1 = 1 ∨ (oc_moving σ r po d).1 = 2 := by
  unfold oc_moving
  (repeat' split) <;> simp

theorem ocr_sundays (σ : SG) (r : Int) : (oc_sundays σ r).1 = 0 ∨ (oc_sundays σ r).1 = 1 := by
  unfold oc_sundays
  (repeat' split) <;> simp

theorem ocr_reading (σ : SG) (a b th : Int) : (oc_reading σ a b th).1 = 0 ∨ (oc_reading σ a b th).1 = 1 ∨ (oc_reading σ a b th).1 = 2 := by
  unfold oc_reading
  (repeat' split) <;> simp

theorem ocr_kept (σ : SG) (y m d : Int) : (oc_kept σ y m d).1 = 0 ∨ (oc_kept σ y m d).1 = 1 := by
  unfold oc_kept
  (repeat' split) <;> simp

theorem ocr_when (σ : SG) (a y : Int) : (oc_when σ a y).1 = 0 ∨ (oc_when σ a y).1 = 1 ∨ (oc_when σ a y).1 = 2 := by
  unfold oc_when
  (repeat' split) <;> simp

theorem ocr_theme (σ : SG) (y m d : Int) : (oc_theme σ y m d).1 = 0 ∨ (oc_theme σ y m d).1 = 1 := by
  unfold oc_theme
  (repeat' split) <;> simp

theorem ocr_why (σ : SG) (a y m d : Int) : (oc_why σ a y m d).1 = 0 ∨ (oc_why σ a y m d).1 = 1 ∨ (oc_why σ a y m d).1 = 2 ∨ (oc_why σ a y m d).1 = 3 := by
  unfold oc_why
  (repeat' split) <;> simp

theorem ocr_sing (σ : SG) (y m d : Int) : (oc_sing σ y m d).1 = 0 ∨ (oc_sing σ y m d).1 = 1 ∨ (oc_sing σ y m d).1 = 2 := by
  unfold oc_sing
  (repeat' split) <;> simp

theorem ocr_service (σ : SG) (a b : Int) : (oc_service σ a b).1 = 0 ∨ (oc_service σ a b).1 = 1 ∨ (oc_service σ a b).1 = 2 := by
  unfold oc_service
  (repeat' split) <;> simp

theorem ocr_sung (σ : SG) (a : Int) : (oc_sung σ a).1 = 0 ∨ (oc_sung σ a).1 = 1 := by
  unfold oc_sung
  (repeat' split) <;> simp

def sp_L_text (g : hG) : hS := fun as M sz K => ∃ (h : Nat) (A : Nat → Nat → Nat) (ow : Nat → Nat × Nat) (σ : SG) (τ : Nat → Nat → Int) (a b : Int) (o : Nat) (C : hM) (f : Nat → Int64), as = [.ref h, .int (iZ a), .int (iZ b), .ref o] ∧ HX g.2.2.2.2 h A ow σ τ C ∧ SV σ ∧ inR a ∧ inR b ∧ C o = none ∧ M = jn C (sg o f) ∧ KL g.2.2.2.2 h o (oc_text σ a b) K
theorem s_L_text {l : Launch} {g : hG} (hst : l.stackTraces = false) : Ctr l g mL_text (sp_L_text g) := by
  refine Ctr.mk9 hst (by decide) ?_ ?_
  · rintro as M sz K ⟨h, A, ow, σ, τ, a, b, o, C, f, rfl, hH, hV, ra, rb, hco, rfl, hK⟩
    exact ⟨by simp [mL_text], cat_ok rfl⟩
  rintro X as M sz K hX rfl rfl hR ⟨h, A, ow, σ, τ, a, b, o, C, f, rfl, hH, hV, ra, rb, hco, rfl, hK⟩
  show G X 0 [.ref h, .int (iZ a), .int (iZ b), .ref o, U9] [] (jn C (sg o f)) sz 0 0
  refine g_aload hX dL_text_0 rfl rfl ?_
  refine g_const hX dL_text_1 ?_
  refine g_aload hX dL_text_2 rfl rfl ?_
  refine g_iload hX dL_text_3 rfl ?_
  refine g_iload hX dL_text_4 rfl ?_
  refine g_cVf (As := [.int (iZ a), .int (iZ b)]) (rest := [.int (iZ 0), .ref o]) (c2 := 9) (s2 := 243) hX (s_X9_text hst) dL_text_5 hH.ob rfl rfl (by first | exact Nat.le_of_ble_eq_true rfl | simp [cat_rf, Value.category]) ⟨rfl, rfl, by decide, by decide⟩ (sg_d hco) ?_
  refine ⟨h, A, ow, σ, τ, a, b, rfl, hH, hV, ra, rb, fun A1 ow1 τ1 C1 s1 hH1 hV1 hd1 hs1 => ?_⟩
  have hco1 := sg_o hd1
  rcases ocr_text σ a b with h0 | h0 | h0
  · rw [res9_0 h0]
    refine Kc_i ?_
    refine g_i2l hX dL_text_8 ?_
    refine g_last hX dL_text_9 (jn_f (sg_s o f)) vin_0 ?_
    rw [jn_out]
    refine g_goto hX dL_text_10 ?_
    refine g_const hX dL_text_21 ?_
    refine g_iret hX hR dL_text_22 rfl rfl (by decide) (by decide) ?_
    have h9 := hK A1 ow1 τ1 C1 s1 _ hH1 hV1 hco1 (fun _ => updL_0 f _)
    rw [h0] at h9
    exact h9
  · rw [res9_1 h0]
    refine Kc_x (gx_catch hX [] (0, 10, 13, 13) [(0, 10, 17, 15)] rfl (fun _ h9 => absurd h9 List.not_mem_nil) (by decide) (by decide) ⟨218, 229, by decide +kernel, by decide +kernel⟩ (fun q => ?_))
    refine g_astore hX dL_text_13 rfl ?_
    dsimp only [List.set]
    refine g_const hX dL_text_15 ?_
    refine g_iret hX hR dL_text_16 rfl rfl (by decide) (by decide) ?_
    have h9 := hK A1 ow1 τ1 C1 s1 f hH1 hV1 hco1 (fun z => absurd (h0.symm.trans z) (by decide))
    rw [h0] at h9
    exact h9
  · rw [res9_2 h0]
    refine Kc_x (gx_catch hX [(0, 10, 13, 13)] (0, 10, 17, 15) [] rfl (List.forall_mem_cons.mpr ⟨⟨by decide, 218, "java/lang/IllegalArgumentException", by decide +kernel, List.mem_of_getElem? (i := 2) rfl⟩, fun _ h9 => absurd h9 List.not_mem_nil⟩) (by decide) (by decide) ⟨219, 298, by decide +kernel, by decide +kernel⟩ (fun q => ?_))
    refine g_astore hX dL_text_17 rfl ?_
    dsimp only [List.set]
    refine g_const hX dL_text_19 ?_
    refine g_iret hX hR dL_text_20 rfl rfl (by decide) (by decide) ?_
    have h9 := hK A1 ow1 τ1 C1 s1 f hH1 hV1 hco1 (fun z => absurd (h0.symm.trans z) (by decide))
    rw [h0] at h9
    exact h9

def sp_L_line (g : hG) : hS := fun as M sz K => ∃ (h : Nat) (A : Nat → Nat → Nat) (ow : Nat → Nat × Nat) (σ : SG) (τ : Nat → Nat → Int) (a m s : Int) (o : Nat) (C : hM) (f : Nat → Int64), as = [.ref h, .int (iZ a), .int (iZ m), .int (iZ s), .ref o] ∧ HX g.2.2.2.2 h A ow σ τ C ∧ SV σ ∧ inR a ∧ inR m ∧ inR s ∧ C o = none ∧ M = jn C (sg o f) ∧ KL g.2.2.2.2 h o (oc_row 0 13 σ a m s) K
theorem s_L_line {l : Launch} {g : hG} (hst : l.stackTraces = false) : Ctr l g mL_line (sp_L_line g) := by
  refine Ctr.mk9 hst (by decide) ?_ ?_
  · rintro as M sz K ⟨h, A, ow, σ, τ, a, m, s, o, C, f, rfl, hH, hV, ra, rm, rs, hco, rfl, hK⟩
    exact ⟨by simp [mL_line], cat_ok rfl⟩
  rintro X as M sz K hX rfl rfl hR ⟨h, A, ow, σ, τ, a, m, s, o, C, f, rfl, hH, hV, ra, rm, rs, hco, rfl, hK⟩
  show G X 0 [.ref h, .int (iZ a), .int (iZ m), .int (iZ s), .ref o, U9] [] (jn C (sg o f)) sz 0 0
  refine g_aload hX dL_line_0 rfl rfl ?_
  refine g_const hX dL_line_2 ?_
  refine g_aload hX dL_line_3 rfl rfl ?_
  refine g_iload hX dL_line_4 rfl ?_
  refine g_iload hX dL_line_5 rfl ?_
  refine g_iload hX dL_line_6 rfl ?_
  refine g_cVf (As := [.int (iZ a), .int (iZ m), .int (iZ s)]) (rest := [.int (iZ 0), .ref o]) (c2 := 4) (s2 := 24) hX (s_X9_line hst) dL_line_7 hH.ob rfl rfl (by first | exact Nat.le_of_ble_eq_true rfl | simp [cat_rf, Value.category]) ⟨rfl, rfl, by decide, by decide⟩ (sg_d hco) ?_
  refine ⟨h, A, ow, σ, τ, a, m, s, rfl, hH, hV, ra, rm, rs, fun A1 ow1 τ1 C1 s1 hH1 hV1 hd1 hs1 => ?_⟩
  have hco1 := sg_o hd1
  rcases ocr_row_0_13 σ a m s with h0 | h0 | h0 | h0
  · rw [res9_0 h0]
    refine Kc_i ?_
    refine g_i2l hX dL_line_10 ?_
    refine g_last hX dL_line_11 (jn_f (sg_s o f)) vin_0 ?_
    rw [jn_out]
    refine g_goto hX dL_line_12 ?_
    refine g_const hX dL_line_27 ?_
    refine g_iret hX hR dL_line_28 rfl rfl (by decide) (by decide) ?_
    have h9 := hK A1 ow1 τ1 C1 s1 _ hH1 hV1 hco1 (fun _ => updL_0 f _)
    rw [h0] at h9
    exact h9
  · rw [res9_1 h0]
    refine Kc_x (gx_catch hX [] (0, 12, 15, 21) [(0, 12, 19, 13), (0, 12, 23, 15)] rfl (fun _ h9 => absurd h9 List.not_mem_nil) (by decide) (by decide) ⟨427, 441, by decide +kernel, by decide +kernel⟩ (fun q => ?_))
    refine g_astore hX dL_line_15 rfl ?_
    dsimp only [List.set]
    refine g_const hX dL_line_17 ?_
    refine g_iret hX hR dL_line_18 rfl rfl (by decide) (by decide) ?_
    have h9 := hK A1 ow1 τ1 C1 s1 f hH1 hV1 hco1 (fun z => absurd (h0.symm.trans z) (by decide))
    rw [h0] at h9
    exact h9
  · rw [res9_2 h0]
    refine Kc_x (gx_catch hX [(0, 12, 15, 21)] (0, 12, 19, 13) [(0, 12, 23, 15)] rfl (List.forall_mem_cons.mpr ⟨⟨by decide, 427, "java/lang/IndexOutOfBoundsException", by decide +kernel, List.mem_of_getElem? (i := 1) rfl⟩, fun _ h9 => absurd h9 List.not_mem_nil⟩) (by decide) (by decide) ⟨218, 229, by decide +kernel, by decide +kernel⟩ (fun q => ?_))
    refine g_astore hX dL_line_19 rfl ?_
    dsimp only [List.set]
    refine g_const hX dL_line_21 ?_
    refine g_iret hX hR dL_line_22 rfl rfl (by decide) (by decide) ?_
    have h9 := hK A1 ow1 τ1 C1 s1 f hH1 hV1 hco1 (fun z => absurd (h0.symm.trans z) (by decide))
    rw [h0] at h9
    exact h9
  · rw [res9_3 h0]
    refine Kc_x (gx_catch hX [(0, 12, 15, 21), (0, 12, 19, 13)] (0, 12, 23, 15) [] rfl (List.forall_mem_cons.mpr ⟨⟨by decide, 427, "java/lang/IndexOutOfBoundsException", by decide +kernel, List.mem_of_getElem? (i := 3) rfl⟩, List.forall_mem_cons.mpr ⟨⟨by decide, 218, "java/lang/IllegalArgumentException", by decide +kernel, List.mem_of_getElem? (i := 2) rfl⟩, fun _ h9 => absurd h9 List.not_mem_nil⟩⟩) (by decide) (by decide) ⟨219, 298, by decide +kernel, by decide +kernel⟩ (fun q => ?_))
    refine g_astore hX dL_line_23 rfl ?_
    dsimp only [List.set]
    refine g_const hX dL_line_25 ?_
    refine g_iret hX hR dL_line_26 rfl rfl (by decide) (by decide) ?_
    have h9 := hK A1 ow1 τ1 C1 s1 f hH1 hV1 hco1 (fun z => absurd (h0.symm.trans z) (by decide))
    rw [h0] at h9
    exact h9

def sp_L_tune (g : hG) : hS := fun as M sz K => ∃ (h : Nat) (A : Nat → Nat → Nat) (ow : Nat → Nat × Nat) (σ : SG) (τ : Nat → Nat → Int) (a lo hi : Int) (o : Nat) (C : hM) (f : Nat → Int64), as = [.ref h, .int (iZ a), .int (iZ lo), .int (iZ hi), .ref o] ∧ HX g.2.2.2.2 h A ow σ τ C ∧ SV σ ∧ inR a ∧ inR lo ∧ inR hi ∧ C o = none ∧ M = jn C (sg o f) ∧ KL g.2.2.2.2 h o (oc_tune σ a lo hi) K
theorem s_L_tune {l : Launch} {g : hG} (hst : l.stackTraces = false) : Ctr l g mL_tune (sp_L_tune g) := by
  refine Ctr.mk9 hst (by decide) ?_ ?_
  · rintro as M sz K ⟨h, A, ow, σ, τ, a, lo, hi, o, C, f, rfl, hH, hV, ra, rlo, rhi, hco, rfl, hK⟩
    exact ⟨by simp [mL_tune], cat_ok rfl⟩
  rintro X as M sz K hX rfl rfl hR ⟨h, A, ow, σ, τ, a, lo, hi, o, C, f, rfl, hH, hV, ra, rlo, rhi, hco, rfl, hK⟩
  show G X 0 [.ref h, .int (iZ a), .int (iZ lo), .int (iZ hi), .ref o, U9] [] (jn C (sg o f)) sz 0 0
  refine g_aload hX dL_tune_0 rfl rfl ?_
  refine g_const hX dL_tune_2 ?_
  refine g_aload hX dL_tune_3 rfl rfl ?_
  refine g_iload hX dL_tune_4 rfl ?_
  refine g_iload hX dL_tune_5 rfl ?_
  refine g_iload hX dL_tune_6 rfl ?_
  refine g_cVf (As := [.int (iZ a), .int (iZ lo), .int (iZ hi)]) (rest := [.int (iZ 0), .ref o]) (c2 := 10) (s2 := 250) hX (s_X9_tune hst) dL_tune_7 hH.ob rfl rfl (by first | exact Nat.le_of_ble_eq_true rfl | simp [cat_rf, Value.category]) ⟨rfl, rfl, by decide, by decide⟩ (sg_d hco) ?_
  refine ⟨h, A, ow, σ, τ, a, lo, hi, rfl, hH, hV, ra, rlo, rhi, fun A1 ow1 τ1 C1 s1 hH1 hV1 hd1 hs1 => ?_⟩
  have hco1 := sg_o hd1
  rcases ocr_tune σ a lo hi with h0 | h0 | h0
  · rw [res9_0 h0]
    refine Kc_i ?_
    refine g_i2l hX dL_tune_10 ?_
    refine g_last hX dL_tune_11 (jn_f (sg_s o f)) vin_0 ?_
    rw [jn_out]
    refine g_goto hX dL_tune_12 ?_
    refine g_const hX dL_tune_23 ?_
    refine g_iret hX hR dL_tune_24 rfl rfl (by decide) (by decide) ?_
    have h9 := hK A1 ow1 τ1 C1 s1 _ hH1 hV1 hco1 (fun _ => updL_0 f _)
    rw [h0] at h9
    exact h9
  · rw [res9_1 h0]
    refine Kc_x (gx_catch hX [] (0, 12, 15, 13) [(0, 12, 19, 15)] rfl (fun _ h9 => absurd h9 List.not_mem_nil) (by decide) (by decide) ⟨218, 229, by decide +kernel, by decide +kernel⟩ (fun q => ?_))
    refine g_astore hX dL_tune_15 rfl ?_
    dsimp only [List.set]
    refine g_const hX dL_tune_17 ?_
    refine g_iret hX hR dL_tune_18 rfl rfl (by decide) (by decide) ?_
    have h9 := hK A1 ow1 τ1 C1 s1 f hH1 hV1 hco1 (fun z => absurd (h0.symm.trans z) (by decide))
    rw [h0] at h9
    exact h9
  · rw [res9_2 h0]
    refine Kc_x (gx_catch hX [(0, 12, 15, 13)] (0, 12, 19, 15) [] rfl (List.forall_mem_cons.mpr ⟨⟨by decide, 218, "java/lang/IllegalArgumentException", by decide +kernel, List.mem_of_getElem? (i := 2) rfl⟩, fun _ h9 => absurd h9 List.not_mem_nil⟩) (by decide) (by decide) ⟨219, 298, by decide +kernel, by decide +kernel⟩ (fun q => ?_))
    refine g_astore hX dL_tune_19 rfl ?_
    dsimp only [List.set]
    refine g_const hX dL_tune_21 ?_
    refine g_iret hX hR dL_tune_22 rfl rfl (by decide) (by decide) ?_
    have h9 := hK A1 ow1 τ1 C1 s1 f hH1 hV1 hco1 (fun z => absurd (h0.symm.trans z) (by decide))
    rw [h0] at h9
    exact h9

def sp_L_phrase (g : hG) : hS := fun as M sz K => ∃ (h : Nat) (A : Nat → Nat → Nat) (ow : Nat → Nat × Nat) (σ : SG) (τ : Nat → Nat → Int) (a m s : Int) (o : Nat) (C : hM) (f : Nat → Int64), as = [.ref h, .int (iZ a), .int (iZ m), .int (iZ s), .ref o] ∧ HX g.2.2.2.2 h A ow σ τ C ∧ SV σ ∧ inR a ∧ inR m ∧ inR s ∧ C o = none ∧ M = jn C (sg o f) ∧ KL g.2.2.2.2 h o (oc_row 1 24 σ a m s) K
theorem s_L_phrase {l : Launch} {g : hG} (hst : l.stackTraces = false) : Ctr l g mL_phrase (sp_L_phrase g) := by
  refine Ctr.mk9 hst (by decide) ?_ ?_
  · rintro as M sz K ⟨h, A, ow, σ, τ, a, m, s, o, C, f, rfl, hH, hV, ra, rm, rs, hco, rfl, hK⟩
    exact ⟨by simp [mL_phrase], cat_ok rfl⟩
  rintro X as M sz K hX rfl rfl hR ⟨h, A, ow, σ, τ, a, m, s, o, C, f, rfl, hH, hV, ra, rm, rs, hco, rfl, hK⟩
  show G X 0 [.ref h, .int (iZ a), .int (iZ m), .int (iZ s), .ref o, U9] [] (jn C (sg o f)) sz 0 0
  refine g_aload hX dL_phrase_0 rfl rfl ?_
  refine g_const hX dL_phrase_2 ?_
  refine g_aload hX dL_phrase_3 rfl rfl ?_
  refine g_iload hX dL_phrase_4 rfl ?_
  refine g_iload hX dL_phrase_5 rfl ?_
  refine g_iload hX dL_phrase_6 rfl ?_
  refine g_cVf (As := [.int (iZ a), .int (iZ m), .int (iZ s)]) (rest := [.int (iZ 0), .ref o]) (c2 := 4) (s2 := 24) hX (s_X9_phrase hst) dL_phrase_7 hH.ob rfl rfl (by first | exact Nat.le_of_ble_eq_true rfl | simp [cat_rf, Value.category]) ⟨rfl, rfl, by decide, by decide⟩ (sg_d hco) ?_
  refine ⟨h, A, ow, σ, τ, a, m, s, rfl, hH, hV, ra, rm, rs, fun A1 ow1 τ1 C1 s1 hH1 hV1 hd1 hs1 => ?_⟩
  have hco1 := sg_o hd1
  rcases ocr_row_1_24 σ a m s with h0 | h0 | h0 | h0
  · rw [res9_0 h0]
    refine Kc_i ?_
    refine g_i2l hX dL_phrase_10 ?_
    refine g_last hX dL_phrase_11 (jn_f (sg_s o f)) vin_0 ?_
    rw [jn_out]
    refine g_goto hX dL_phrase_12 ?_
    refine g_const hX dL_phrase_27 ?_
    refine g_iret hX hR dL_phrase_28 rfl rfl (by decide) (by decide) ?_
    have h9 := hK A1 ow1 τ1 C1 s1 _ hH1 hV1 hco1 (fun _ => updL_0 f _)
    rw [h0] at h9
    exact h9
  · rw [res9_1 h0]
    refine Kc_x (gx_catch hX [] (0, 12, 15, 21) [(0, 12, 19, 13), (0, 12, 23, 15)] rfl (fun _ h9 => absurd h9 List.not_mem_nil) (by decide) (by decide) ⟨427, 441, by decide +kernel, by decide +kernel⟩ (fun q => ?_))
    refine g_astore hX dL_phrase_15 rfl ?_
    dsimp only [List.set]
    refine g_const hX dL_phrase_17 ?_
    refine g_iret hX hR dL_phrase_18 rfl rfl (by decide) (by decide) ?_
    have h9 := hK A1 ow1 τ1 C1 s1 f hH1 hV1 hco1 (fun z => absurd (h0.symm.trans z) (by decide))
    rw [h0] at h9
    exact h9
  · rw [res9_2 h0]
    refine Kc_x (gx_catch hX [(0, 12, 15, 21)] (0, 12, 19, 13) [(0, 12, 23, 15)] rfl (List.forall_mem_cons.mpr ⟨⟨by decide, 427, "java/lang/IndexOutOfBoundsException", by decide +kernel, List.mem_of_getElem? (i := 1) rfl⟩, fun _ h9 => absurd h9 List.not_mem_nil⟩) (by decide) (by decide) ⟨218, 229, by decide +kernel, by decide +kernel⟩ (fun q => ?_))
    refine g_astore hX dL_phrase_19 rfl ?_
    dsimp only [List.set]
    refine g_const hX dL_phrase_21 ?_
    refine g_iret hX hR dL_phrase_22 rfl rfl (by decide) (by decide) ?_
    have h9 := hK A1 ow1 τ1 C1 s1 f hH1 hV1 hco1 (fun z => absurd (h0.symm.trans z) (by decide))
    rw [h0] at h9
    exact h9
  · rw [res9_3 h0]
    refine Kc_x (gx_catch hX [(0, 12, 15, 21), (0, 12, 19, 13)] (0, 12, 23, 15) [] rfl (List.forall_mem_cons.mpr ⟨⟨by decide, 427, "java/lang/IndexOutOfBoundsException", by decide +kernel, List.mem_of_getElem? (i := 3) rfl⟩, List.forall_mem_cons.mpr ⟨⟨by decide, 218, "java/lang/IllegalArgumentException", by decide +kernel, List.mem_of_getElem? (i := 2) rfl⟩, fun _ h9 => absurd h9 List.not_mem_nil⟩⟩) (by decide) (by decide) ⟨219, 298, by decide +kernel, by decide +kernel⟩ (fun q => ?_))
    refine g_astore hX dL_phrase_23 rfl ?_
    dsimp only [List.set]
    refine g_const hX dL_phrase_25 ?_
    refine g_iret hX hR dL_phrase_26 rfl rfl (by decide) (by decide) ?_
    have h9 := hK A1 ow1 τ1 C1 s1 f hH1 hV1 hco1 (fun z => absurd (h0.symm.trans z) (by decide))
    rw [h0] at h9
    exact h9

def sp_L_fits (g : hG) : hS := fun as M sz K => ∃ (h : Nat) (A : Nat → Nat → Nat) (ow : Nat → Nat × Nat) (σ : SG) (τ : Nat → Nat → Int) (a b : Int) (o : Nat) (C : hM) (f : Nat → Int64), as = [.ref h, .int (iZ a), .int (iZ b), .ref o] ∧ HX g.2.2.2.2 h A ow σ τ C ∧ SV σ ∧ inR a ∧ inR b ∧ C o = none ∧ M = jn C (sg o f) ∧ KL g.2.2.2.2 h o (oc_fits σ a b) K
theorem s_L_fits {l : Launch} {g : hG} (hst : l.stackTraces = false) : Ctr l g mL_fits (sp_L_fits g) := by
  refine Ctr.mk9 hst (by decide) ?_ ?_
  · rintro as M sz K ⟨h, A, ow, σ, τ, a, b, o, C, f, rfl, hH, hV, ra, rb, hco, rfl, hK⟩
    exact ⟨by simp [mL_fits], cat_ok rfl⟩
  rintro X as M sz K hX rfl rfl hR ⟨h, A, ow, σ, τ, a, b, o, C, f, rfl, hH, hV, ra, rb, hco, rfl, hK⟩
  show G X 0 [.ref h, .int (iZ a), .int (iZ b), .ref o, U9] [] (jn C (sg o f)) sz 0 0
  refine g_aload hX dL_fits_0 rfl rfl ?_
  refine g_const hX dL_fits_1 ?_
  refine g_aload hX dL_fits_2 rfl rfl ?_
  refine g_iload hX dL_fits_3 rfl ?_
  refine g_iload hX dL_fits_4 rfl ?_
  refine g_cVf (As := [.int (iZ a), .int (iZ b)]) (rest := [.int (iZ 0), .ref o]) (c2 := 2) (s2 := 12) hX (s_X9_fits hst) dL_fits_5 hH.ob rfl rfl (by first | exact Nat.le_of_ble_eq_true rfl | simp [cat_rf, Value.category]) ⟨rfl, rfl, by decide, by decide⟩ (sg_d hco) ?_
  refine ⟨h, A, ow, σ, τ, a, b, rfl, hH, hV, ra, rb, fun A1 ow1 τ1 C1 s1 hH1 hV1 hd1 hs1 => ?_⟩
  have hco1 := sg_o hd1
  rcases ocr_fits σ a b with h0 | h0
  · rw [res9_0 h0]
    refine Kc_i ?_
    refine g_i2l hX dL_fits_8 ?_
    refine g_last hX dL_fits_9 (jn_f (sg_s o f)) vin_0 ?_
    rw [jn_out]
    refine g_goto hX dL_fits_10 ?_
    refine g_const hX dL_fits_17 ?_
    refine g_iret hX hR dL_fits_18 rfl rfl (by decide) (by decide) ?_
    have h9 := hK A1 ow1 τ1 C1 s1 _ hH1 hV1 hco1 (fun _ => updL_0 f _)
    rw [h0] at h9
    exact h9
  · rw [res9_1 h0]
    refine Kc_x (gx_catch hX [] (0, 10, 13, 21) [] rfl (fun _ h9 => absurd h9 List.not_mem_nil) (by decide) (by decide) ⟨427, 441, by decide +kernel, by decide +kernel⟩ (fun q => ?_))
    refine g_astore hX dL_fits_13 rfl ?_
    dsimp only [List.set]
    refine g_const hX dL_fits_15 ?_
    refine g_iret hX hR dL_fits_16 rfl rfl (by decide) (by decide) ?_
    have h9 := hK A1 ow1 τ1 C1 s1 f hH1 hV1 hco1 (fun z => absurd (h0.symm.trans z) (by decide))
    rw [h0] at h9
    exact h9

def sp_L_clashes (g : hG) : hS := fun as M sz K => ∃ (h : Nat) (A : Nat → Nat → Nat) (ow : Nat → Nat × Nat) (σ : SG) (τ : Nat → Nat → Int) (a b : Int) (o : Nat) (C : hM) (f : Nat → Int64), as = [.ref h, .int (iZ a), .int (iZ b), .ref o] ∧ HX g.2.2.2.2 h A ow σ τ C ∧ SV σ ∧ inR a ∧ inR b ∧ C o = none ∧ M = jn C (sg o f) ∧ KL g.2.2.2.2 h o (oc_clashes σ a b) K
theorem s_L_clashes {l : Launch} {g : hG} (hst : l.stackTraces = false) : Ctr l g mL_clashes (sp_L_clashes g) := by
  refine Ctr.mk9 hst (by decide) ?_ ?_
  · rintro as M sz K ⟨h, A, ow, σ, τ, a, b, o, C, f, rfl, hH, hV, ra, rb, hco, rfl, hK⟩
    exact ⟨by simp [mL_clashes], cat_ok rfl⟩
  rintro X as M sz K hX rfl rfl hR ⟨h, A, ow, σ, τ, a, b, o, C, f, rfl, hH, hV, ra, rb, hco, rfl, hK⟩
  show G X 0 [.ref h, .int (iZ a), .int (iZ b), .ref o, U9] [] (jn C (sg o f)) sz 0 0
  refine g_aload hX dL_clashes_0 rfl rfl ?_
  refine g_const hX dL_clashes_1 ?_
  refine g_aload hX dL_clashes_2 rfl rfl ?_
  refine g_iload hX dL_clashes_3 rfl ?_
  refine g_iload hX dL_clashes_4 rfl ?_
  refine g_cVf (As := [.int (iZ a), .int (iZ b)]) (rest := [.int (iZ 0), .ref o]) (c2 := 3) (s2 := 18) hX (s_X9_clashes hst) dL_clashes_5 hH.ob rfl rfl (by first | exact Nat.le_of_ble_eq_true rfl | simp [cat_rf, Value.category]) ⟨rfl, rfl, by decide, by decide⟩ (sg_d hco) ?_
  refine ⟨h, A, ow, σ, τ, a, b, rfl, hH, hV, ra, rb, fun A1 ow1 τ1 C1 s1 hH1 hV1 hd1 hs1 => ?_⟩
  have hco1 := sg_o hd1
  rcases ocr_clashes σ a b with h0 | h0 | h0
  · rw [res9_0 h0]
    refine Kc_i ?_
    refine g_i2l hX dL_clashes_8 ?_
    refine g_last hX dL_clashes_9 (jn_f (sg_s o f)) vin_0 ?_
    rw [jn_out]
    refine g_goto hX dL_clashes_10 ?_
    refine g_const hX dL_clashes_21 ?_
    refine g_iret hX hR dL_clashes_22 rfl rfl (by decide) (by decide) ?_
    have h9 := hK A1 ow1 τ1 C1 s1 _ hH1 hV1 hco1 (fun _ => updL_0 f _)
    rw [h0] at h9
    exact h9
  · rw [res9_1 h0]
    refine Kc_x (gx_catch hX [] (0, 10, 13, 21) [(0, 10, 17, 15)] rfl (fun _ h9 => absurd h9 List.not_mem_nil) (by decide) (by decide) ⟨427, 441, by decide +kernel, by decide +kernel⟩ (fun q => ?_))
    refine g_astore hX dL_clashes_13 rfl ?_
    dsimp only [List.set]
    refine g_const hX dL_clashes_15 ?_
    refine g_iret hX hR dL_clashes_16 rfl rfl (by decide) (by decide) ?_
    have h9 := hK A1 ow1 τ1 C1 s1 f hH1 hV1 hco1 (fun z => absurd (h0.symm.trans z) (by decide))
    rw [h0] at h9
    exact h9
  · rw [res9_2 h0]
    refine Kc_x (gx_catch hX [(0, 10, 13, 21)] (0, 10, 17, 15) [] rfl (List.forall_mem_cons.mpr ⟨⟨by decide, 427, "java/lang/IndexOutOfBoundsException", by decide +kernel, List.mem_of_getElem? (i := 3) rfl⟩, fun _ h9 => absurd h9 List.not_mem_nil⟩) (by decide) (by decide) ⟨219, 298, by decide +kernel, by decide +kernel⟩ (fun q => ?_))
    refine g_astore hX dL_clashes_17 rfl ?_
    dsimp only [List.set]
    refine g_const hX dL_clashes_19 ?_
    refine g_iret hX hR dL_clashes_20 rfl rfl (by decide) (by decide) ?_
    have h9 := hK A1 ow1 τ1 C1 s1 f hH1 hV1 hco1 (fun z => absurd (h0.symm.trans z) (by decide))
    rw [h0] at h9
    exact h9

def sp_L_best (g : hG) : hS := fun as M sz K => ∃ (h : Nat) (A : Nat → Nat → Nat) (ow : Nat → Nat × Nat) (σ : SG) (τ : Nat → Nat → Int) (a : Int) (o : Nat) (C : hM) (f : Nat → Int64), as = [.ref h, .int (iZ a), .ref o] ∧ HX g.2.2.2.2 h A ow σ τ C ∧ SV σ ∧ inR a ∧ C o = none ∧ M = jn C (sg o f) ∧ KL g.2.2.2.2 h o (oc_best σ a) K
theorem s_L_best {l : Launch} {g : hG} (hst : l.stackTraces = false) : Ctr l g mL_best (sp_L_best g) := by
  refine Ctr.mk9 hst (by decide) ?_ ?_
  · rintro as M sz K ⟨h, A, ow, σ, τ, a, o, C, f, rfl, hH, hV, ra, hco, rfl, hK⟩
    exact ⟨by simp [mL_best], cat_ok rfl⟩
  rintro X as M sz K hX rfl rfl hR ⟨h, A, ow, σ, τ, a, o, C, f, rfl, hH, hV, ra, hco, rfl, hK⟩
  show G X 0 [.ref h, .int (iZ a), .ref o, U9] [] (jn C (sg o f)) sz 0 0
  refine g_aload hX dL_best_0 rfl rfl ?_
  refine g_const hX dL_best_1 ?_
  refine g_aload hX dL_best_2 rfl rfl ?_
  refine g_iload hX dL_best_3 rfl ?_
  refine g_cVf (As := [.int (iZ a)]) (rest := [.int (iZ 0), .ref o]) (c2 := 1) (s2 := 6) hX (s_X9_best hst) dL_best_4 hH.ob rfl rfl (by first | exact Nat.le_of_ble_eq_true rfl | simp [cat_rf, Value.category]) ⟨rfl, rfl, by decide, by decide⟩ (sg_d hco) ?_
  refine ⟨h, A, ow, σ, τ, a, rfl, hH, hV, ra, fun A1 ow1 τ1 C1 s1 hH1 hV1 hd1 hs1 => ?_⟩
  have hco1 := sg_o hd1
  rcases ocr_best σ a with h0 | h0
  · rw [res9_0 h0]
    refine Kc_i ?_
    refine g_i2l hX dL_best_7 ?_
    refine g_last hX dL_best_8 (jn_f (sg_s o f)) vin_0 ?_
    rw [jn_out]
    refine g_goto hX dL_best_9 ?_
    refine g_const hX dL_best_15 ?_
    refine g_iret hX hR dL_best_16 rfl rfl (by decide) (by decide) ?_
    have h9 := hK A1 ow1 τ1 C1 s1 _ hH1 hV1 hco1 (fun _ => updL_0 f _)
    rw [h0] at h9
    exact h9
  · rw [res9_1 h0]
    refine Kc_x (gx_catch hX [] (0, 9, 12, 21) [] rfl (fun _ h9 => absurd h9 List.not_mem_nil) (by decide) (by decide) ⟨427, 441, by decide +kernel, by decide +kernel⟩ (fun q => ?_))
    refine g_astore hX dL_best_12 rfl ?_
    dsimp only [List.set]
    refine g_const hX dL_best_13 ?_
    refine g_iret hX hR dL_best_14 rfl rfl (by decide) (by decide) ?_
    have h9 := hK A1 ow1 τ1 C1 s1 f hH1 hV1 hco1 (fun z => absurd (h0.symm.trans z) (by decide))
    rw [h0] at h9
    exact h9

def sp_L_alike (g : hG) : hS := fun as M sz K => ∃ (h : Nat) (A : Nat → Nat → Nat) (ow : Nat → Nat × Nat) (σ : SG) (τ : Nat → Nat → Int) (a : Int) (o : Nat) (C : hM) (f : Nat → Int64), as = [.ref h, .int (iZ a), .ref o] ∧ HX g.2.2.2.2 h A ow σ τ C ∧ SV σ ∧ inR a ∧ C o = none ∧ M = jn C (sg o f) ∧ KL g.2.2.2.2 h o (oc_alike σ a) K
theorem s_L_alike {l : Launch} {g : hG} (hst : l.stackTraces = false) : Ctr l g mL_alike (sp_L_alike g) := by
  refine Ctr.mk9 hst (by decide) ?_ ?_
  · rintro as M sz K ⟨h, A, ow, σ, τ, a, o, C, f, rfl, hH, hV, ra, hco, rfl, hK⟩
    exact ⟨by simp [mL_alike], cat_ok rfl⟩
  rintro X as M sz K hX rfl rfl hR ⟨h, A, ow, σ, τ, a, o, C, f, rfl, hH, hV, ra, hco, rfl, hK⟩
  show G X 0 [.ref h, .int (iZ a), .ref o, U9] [] (jn C (sg o f)) sz 0 0
  refine g_aload hX dL_alike_0 rfl rfl ?_
  refine g_const hX dL_alike_1 ?_
  refine g_aload hX dL_alike_2 rfl rfl ?_
  refine g_iload hX dL_alike_3 rfl ?_
  refine g_cVf (As := [.int (iZ a)]) (rest := [.int (iZ 0), .ref o]) (c2 := 1) (s2 := 6) hX (s_X9_alike hst) dL_alike_4 hH.ob rfl rfl (by first | exact Nat.le_of_ble_eq_true rfl | simp [cat_rf, Value.category]) ⟨rfl, rfl, by decide, by decide⟩ (sg_d hco) ?_
  refine ⟨h, A, ow, σ, τ, a, rfl, hH, hV, ra, fun A1 ow1 τ1 C1 s1 hH1 hV1 hd1 hs1 => ?_⟩
  have hco1 := sg_o hd1
  rcases ocr_alike σ a with h0 | h0
  · rw [res9_0 h0]
    refine Kc_i ?_
    refine g_i2l hX dL_alike_7 ?_
    refine g_last hX dL_alike_8 (jn_f (sg_s o f)) vin_0 ?_
    rw [jn_out]
    refine g_goto hX dL_alike_9 ?_
    refine g_const hX dL_alike_15 ?_
    refine g_iret hX hR dL_alike_16 rfl rfl (by decide) (by decide) ?_
    have h9 := hK A1 ow1 τ1 C1 s1 _ hH1 hV1 hco1 (fun _ => updL_0 f _)
    rw [h0] at h9
    exact h9
  · rw [res9_1 h0]
    refine Kc_x (gx_catch hX [] (0, 9, 12, 21) [] rfl (fun _ h9 => absurd h9 List.not_mem_nil) (by decide) (by decide) ⟨427, 441, by decide +kernel, by decide +kernel⟩ (fun q => ?_))
    refine g_astore hX dL_alike_12 rfl ?_
    dsimp only [List.set]
    refine g_const hX dL_alike_13 ?_
    refine g_iret hX hR dL_alike_14 rfl rfl (by decide) (by decide) ?_
    have h9 := hK A1 ow1 τ1 C1 s1 f hH1 hV1 hco1 (fun z => absurd (h0.symm.trans z) (by decide))
    rw [h0] at h9
    exact h9

def sp_L_allowText (g : hG) : hS := fun as M sz K => ∃ (h : Nat) (A : Nat → Nat → Nat) (ow : Nat → Nat × Nat) (σ : SG) (τ : Nat → Nat → Int) (a b : Int) (o : Nat) (C : hM) (f : Nat → Int64), as = [.ref h, .int (iZ a), .int (iZ b), .ref o] ∧ HX g.2.2.2.2 h A ow σ τ C ∧ SV σ ∧ inR a ∧ (b = 0 ∨ b = 1) ∧ C o = none ∧ M = jn C (sg o f) ∧ KL g.2.2.2.2 h o (oc_allow 0 12 σ a b) K
theorem s_L_allowText {l : Launch} {g : hG} (hst : l.stackTraces = false) : Ctr l g mL_allowText (sp_L_allowText g) := by
  refine Ctr.mk9 hst (by decide) ?_ ?_
  · rintro as M sz K ⟨h, A, ow, σ, τ, a, b, o, C, f, rfl, hH, hV, ra, rb, hco, rfl, hK⟩
    exact ⟨by simp [mL_allowText], cat_ok rfl⟩
  rintro X as M sz K hX rfl rfl hR ⟨h, A, ow, σ, τ, a, b, o, C, f, rfl, hH, hV, ra, rb, hco, rfl, hK⟩
  show G X 0 [.ref h, .int (iZ a), .int (iZ b), .ref o, U9] [] (jn C (sg o f)) sz 0 0
  refine g_aload hX dL_allowText_0 rfl rfl ?_
  refine g_const hX dL_allowText_1 ?_
  refine g_aload hX dL_allowText_2 rfl rfl ?_
  refine g_iload hX dL_allowText_3 rfl ?_
  refine g_iload hX dL_allowText_4 rfl ?_
  refine g_cVf (As := [.int (iZ a), .int (iZ b)]) (rest := [.int (iZ 0), .ref o]) (c2 := 1) (s2 := 6) hX (s_X9_allowText hst) dL_allowText_5 hH.ob rfl rfl (by first | exact Nat.le_of_ble_eq_true rfl | simp [cat_rf, Value.category]) ⟨rfl, rfl, by decide, by decide⟩ (sg_d hco) ?_
  refine ⟨h, A, ow, σ, τ, a, b, rfl, hH, hV, ra, rb, fun A1 ow1 τ1 C1 s1 hH1 hV1 hd1 hs1 => ?_⟩
  have hco1 := sg_o hd1
  rcases ocr_allow_0_12 σ a b with h0 | h0
  · rw [res9_0 h0]
    refine Kc_i ?_
    rcases ocv_allow_0_12 hV (b := b) h0 with hv9 | hv9
    · rw [hv9]
      refine z_if_eq hX dL_allowText_8 (by constructor <;> omega) (fun c8 => ?_) (fun c8 => absurd rfl c8)
      refine g_lconst hX dL_allowText_15 ?_
      refine g_last hX dL_allowText_16 (jn_f (sg_s o f)) vin_0 ?_
      rw [jn_out]
      refine g_goto hX dL_allowText_17 ?_
      refine g_const hX dL_allowText_24 ?_
      refine g_iret hX hR dL_allowText_25 rfl rfl (by decide) (by decide) ?_
      have h9 := hK A1 ow1 τ1 C1 s1 _ hH1 hV1 hco1 (fun _ => (updL_0 f _).trans (il_0.trans (by rw [hv9])))
      rw [h0] at h9
      exact h9
    · rw [hv9]
      refine z_if_eq hX dL_allowText_8 (by constructor <;> omega) (fun c8 => absurd c8 (by omega)) (fun c8 => ?_)
      refine g_lconst hX dL_allowText_11 ?_
      refine g_goto hX dL_allowText_12 ?_
      refine g_last hX dL_allowText_16 (jn_f (sg_s o f)) vin_0 ?_
      rw [jn_out]
      refine g_goto hX dL_allowText_17 ?_
      refine g_const hX dL_allowText_24 ?_
      refine g_iret hX hR dL_allowText_25 rfl rfl (by decide) (by decide) ?_
      have h9 := hK A1 ow1 τ1 C1 s1 _ hH1 hV1 hco1 (fun _ => (updL_0 f _).trans (il_1.trans (by rw [hv9])))
      rw [h0] at h9
      exact h9
  · rw [res9_1 h0]
    refine Kc_x (gx_catch hX [] (0, 17, 20, 21) [] rfl (fun _ h9 => absurd h9 List.not_mem_nil) (by decide) (by decide) ⟨427, 441, by decide +kernel, by decide +kernel⟩ (fun q => ?_))
    refine g_astore hX dL_allowText_20 rfl ?_
    dsimp only [List.set]
    refine g_const hX dL_allowText_22 ?_
    refine g_iret hX hR dL_allowText_23 rfl rfl (by decide) (by decide) ?_
    have h9 := hK A1 ow1 τ1 C1 s1 f hH1 hV1 hco1 (fun z => absurd (h0.symm.trans z) (by decide))
    rw [h0] at h9
    exact h9

def sp_L_allowTune (g : hG) : hS := fun as M sz K => ∃ (h : Nat) (A : Nat → Nat → Nat) (ow : Nat → Nat × Nat) (σ : SG) (τ : Nat → Nat → Int) (a b : Int) (o : Nat) (C : hM) (f : Nat → Int64), as = [.ref h, .int (iZ a), .int (iZ b), .ref o] ∧ HX g.2.2.2.2 h A ow σ τ C ∧ SV σ ∧ inR a ∧ (b = 0 ∨ b = 1) ∧ C o = none ∧ M = jn C (sg o f) ∧ KL g.2.2.2.2 h o (oc_allow 1 23 σ a b) K
theorem s_L_allowTune {l : Launch} {g : hG} (hst : l.stackTraces = false) : Ctr l g mL_allowTune (sp_L_allowTune g) := by
  refine Ctr.mk9 hst (by decide) ?_ ?_
  · rintro as M sz K ⟨h, A, ow, σ, τ, a, b, o, C, f, rfl, hH, hV, ra, rb, hco, rfl, hK⟩
    exact ⟨by simp [mL_allowTune], cat_ok rfl⟩
  rintro X as M sz K hX rfl rfl hR ⟨h, A, ow, σ, τ, a, b, o, C, f, rfl, hH, hV, ra, rb, hco, rfl, hK⟩
  show G X 0 [.ref h, .int (iZ a), .int (iZ b), .ref o, U9] [] (jn C (sg o f)) sz 0 0
  refine g_aload hX dL_allowTune_0 rfl rfl ?_
  refine g_const hX dL_allowTune_1 ?_
  refine g_aload hX dL_allowTune_2 rfl rfl ?_
  refine g_iload hX dL_allowTune_3 rfl ?_
  refine g_iload hX dL_allowTune_4 rfl ?_
  refine g_cVf (As := [.int (iZ a), .int (iZ b)]) (rest := [.int (iZ 0), .ref o]) (c2 := 1) (s2 := 6) hX (s_X9_allowTune hst) dL_allowTune_5 hH.ob rfl rfl (by first | exact Nat.le_of_ble_eq_true rfl | simp [cat_rf, Value.category]) ⟨rfl, rfl, by decide, by decide⟩ (sg_d hco) ?_
  refine ⟨h, A, ow, σ, τ, a, b, rfl, hH, hV, ra, rb, fun A1 ow1 τ1 C1 s1 hH1 hV1 hd1 hs1 => ?_⟩
  have hco1 := sg_o hd1
  rcases ocr_allow_1_23 σ a b with h0 | h0
  · rw [res9_0 h0]
    refine Kc_i ?_
    rcases ocv_allow_1_23 hV (b := b) h0 with hv9 | hv9
    · rw [hv9]
      refine z_if_eq hX dL_allowTune_8 (by constructor <;> omega) (fun c8 => ?_) (fun c8 => absurd rfl c8)
      refine g_lconst hX dL_allowTune_15 ?_
      refine g_last hX dL_allowTune_16 (jn_f (sg_s o f)) vin_0 ?_
      rw [jn_out]
      refine g_goto hX dL_allowTune_17 ?_
      refine g_const hX dL_allowTune_24 ?_
      refine g_iret hX hR dL_allowTune_25 rfl rfl (by decide) (by decide) ?_
      have h9 := hK A1 ow1 τ1 C1 s1 _ hH1 hV1 hco1 (fun _ => (updL_0 f _).trans (il_0.trans (by rw [hv9])))
      rw [h0] at h9
      exact h9
    · rw [hv9]
      refine z_if_eq hX dL_allowTune_8 (by constructor <;> omega) (fun c8 => absurd c8 (by omega)) (fun c8 => ?_)
      refine g_lconst hX dL_allowTune_11 ?_
      refine g_goto hX dL_allowTune_12 ?_
      refine g_last hX dL_allowTune_16 (jn_f (sg_s o f)) vin_0 ?_
      rw [jn_out]
      refine g_goto hX dL_allowTune_17 ?_
      refine g_const hX dL_allowTune_24 ?_
      refine g_iret hX hR dL_allowTune_25 rfl rfl (by decide) (by decide) ?_
      have h9 := hK A1 ow1 τ1 C1 s1 _ hH1 hV1 hco1 (fun _ => (updL_0 f _).trans (il_1.trans (by rw [hv9])))
      rw [h0] at h9
      exact h9
  · rw [res9_1 h0]
    refine Kc_x (gx_catch hX [] (0, 17, 20, 21) [] rfl (fun _ h9 => absurd h9 List.not_mem_nil) (by decide) (by decide) ⟨427, 441, by decide +kernel, by decide +kernel⟩ (fun q => ?_))
    refine g_astore hX dL_allowTune_20 rfl ?_
    dsimp only [List.set]
    refine g_const hX dL_allowTune_22 ?_
    refine g_iret hX hR dL_allowTune_23 rfl rfl (by decide) (by decide) ?_
    have h9 := hK A1 ow1 τ1 C1 s1 f hH1 hV1 hco1 (fun z => absurd (h0.symm.trans z) (by decide))
    rw [h0] at h9
    exact h9

def sp_L_shift (g : hG) : hS := fun as M sz K => ∃ (h : Nat) (A : Nat → Nat → Nat) (ow : Nat → Nat × Nat) (σ : SG) (τ : Nat → Nat → Int) (a lo hi : Int) (o : Nat) (C : hM) (f : Nat → Int64), as = [.ref h, .int (iZ a), .int (iZ lo), .int (iZ hi), .ref o] ∧ HX g.2.2.2.2 h A ow σ τ C ∧ SV σ ∧ inR a ∧ inR lo ∧ inR hi ∧ C o = none ∧ M = jn C (sg o f) ∧ KL g.2.2.2.2 h o (oc_shift σ a lo hi) K
theorem s_L_shift {l : Launch} {g : hG} (hst : l.stackTraces = false) : Ctr l g mL_shift (sp_L_shift g) := by
  refine Ctr.mk9 hst (by decide) ?_ ?_
  · rintro as M sz K ⟨h, A, ow, σ, τ, a, lo, hi, o, C, f, rfl, hH, hV, ra, rlo, rhi, hco, rfl, hK⟩
    exact ⟨by simp [mL_shift], cat_ok rfl⟩
  rintro X as M sz K hX rfl rfl hR ⟨h, A, ow, σ, τ, a, lo, hi, o, C, f, rfl, hH, hV, ra, rlo, rhi, hco, rfl, hK⟩
  show G X 0 [.ref h, .int (iZ a), .int (iZ lo), .int (iZ hi), .ref o, U9] [] (jn C (sg o f)) sz 0 0
  refine g_aload hX dL_shift_0 rfl rfl ?_
  refine g_const hX dL_shift_2 ?_
  refine g_aload hX dL_shift_3 rfl rfl ?_
  refine g_iload hX dL_shift_4 rfl ?_
  refine g_iload hX dL_shift_5 rfl ?_
  refine g_iload hX dL_shift_6 rfl ?_
  refine g_cVf (As := [.int (iZ a), .int (iZ lo), .int (iZ hi)]) (rest := [.int (iZ 0), .ref o]) (c2 := 3) (s2 := 18) hX (s_X9_shift hst) dL_shift_7 hH.ob rfl rfl (by first | exact Nat.le_of_ble_eq_true rfl | simp [cat_rf, Value.category]) ⟨rfl, rfl, by decide, by decide⟩ (sg_d hco) ?_
  refine ⟨h, A, ow, σ, τ, a, lo, hi, rfl, hH, hV, ra, rlo, rhi, fun A1 ow1 τ1 C1 s1 hH1 hV1 hd1 hs1 => ?_⟩
  have hco1 := sg_o hd1
  rcases ocr_shift σ a lo hi with h0 | h0 | h0
  · rw [res9_0 h0]
    refine Kc_i ?_
    refine g_i2l hX dL_shift_10 ?_
    refine g_last hX dL_shift_11 (jn_f (sg_s o f)) vin_0 ?_
    rw [jn_out]
    refine g_goto hX dL_shift_12 ?_
    refine g_const hX dL_shift_23 ?_
    refine g_iret hX hR dL_shift_24 rfl rfl (by decide) (by decide) ?_
    have h9 := hK A1 ow1 τ1 C1 s1 _ hH1 hV1 hco1 (fun _ => updL_0 f _)
    rw [h0] at h9
    exact h9
  · rw [res9_1 h0]
    refine Kc_x (gx_catch hX [] (0, 12, 15, 21) [(0, 12, 19, 13)] rfl (fun _ h9 => absurd h9 List.not_mem_nil) (by decide) (by decide) ⟨427, 441, by decide +kernel, by decide +kernel⟩ (fun q => ?_))
    refine g_astore hX dL_shift_15 rfl ?_
    dsimp only [List.set]
    refine g_const hX dL_shift_17 ?_
    refine g_iret hX hR dL_shift_18 rfl rfl (by decide) (by decide) ?_
    have h9 := hK A1 ow1 τ1 C1 s1 f hH1 hV1 hco1 (fun z => absurd (h0.symm.trans z) (by decide))
    rw [h0] at h9
    exact h9
  · rw [res9_2 h0]
    refine Kc_x (gx_catch hX [(0, 12, 15, 21)] (0, 12, 19, 13) [] rfl (List.forall_mem_cons.mpr ⟨⟨by decide, 427, "java/lang/IndexOutOfBoundsException", by decide +kernel, List.mem_of_getElem? (i := 1) rfl⟩, fun _ h9 => absurd h9 List.not_mem_nil⟩) (by decide) (by decide) ⟨218, 229, by decide +kernel, by decide +kernel⟩ (fun q => ?_))
    refine g_astore hX dL_shift_19 rfl ?_
    dsimp only [List.set]
    refine g_const hX dL_shift_21 ?_
    refine g_iret hX hR dL_shift_22 rfl rfl (by decide) (by decide) ?_
    have h9 := hK A1 ow1 τ1 C1 s1 f hH1 hV1 hco1 (fun z => absurd (h0.symm.trans z) (by decide))
    rw [h0] at h9
    exact h9

def sp_L_easter (g : hG) : hS := fun as M sz K => ∃ (h : Nat) (A : Nat → Nat → Nat) (ow : Nat → Nat × Nat) (σ : SG) (τ : Nat → Nat → Int) (y : Int) (o : Nat) (C : hM) (f : Nat → Int64), as = [.ref h, .int (iZ y), .ref o] ∧ HX g.2.2.2.2 h A ow σ τ C ∧ SV σ ∧ inR y ∧ C o = none ∧ M = jn C (sg o f) ∧ KL g.2.2.2.2 h o (oc_easter σ y) K
theorem s_L_easter {l : Launch} {g : hG} (hst : l.stackTraces = false) : Ctr l g mL_easter (sp_L_easter g) := by
  refine Ctr.mk9 hst (by decide) ?_ ?_
  · rintro as M sz K ⟨h, A, ow, σ, τ, y, o, C, f, rfl, hH, hV, ry, hco, rfl, hK⟩
    exact ⟨by simp [mL_easter], cat_ok rfl⟩
  rintro X as M sz K hX rfl rfl hR ⟨h, A, ow, σ, τ, y, o, C, f, rfl, hH, hV, ry, hco, rfl, hK⟩
  show G X 0 [.ref h, .int (iZ y), .ref o, U9] [] (jn C (sg o f)) sz 0 0
  refine g_aload hX dL_easter_0 rfl rfl ?_
  refine g_const hX dL_easter_1 ?_
  refine g_aload hX dL_easter_2 rfl rfl ?_
  refine g_iload hX dL_easter_3 rfl ?_
  refine g_cVf (As := [.int (iZ y)]) (rest := [.int (iZ 0), .ref o]) (c2 := 1) (s2 := 6) hX (s_X9_easter hst) dL_easter_4 hH.ob rfl rfl (by first | exact Nat.le_of_ble_eq_true rfl | simp [cat_rf, Value.category]) ⟨rfl, rfl, by decide, by decide⟩ (sg_d hco) ?_
  refine ⟨h, A, ow, σ, τ, y, rfl, hH, hV, ry, fun A1 ow1 τ1 C1 s1 hH1 hV1 hd1 hs1 => ?_⟩
  have hco1 := sg_o hd1
  rcases ocr_easter σ y with h0 | h0
  · rw [res9_0 h0]
    refine Kc_i ?_
    refine g_i2l hX dL_easter_7 ?_
    refine g_last hX dL_easter_8 (jn_f (sg_s o f)) vin_0 ?_
    rw [jn_out]
    refine g_goto hX dL_easter_9 ?_
    refine g_const hX dL_easter_15 ?_
    refine g_iret hX hR dL_easter_16 rfl rfl (by decide) (by decide) ?_
    have h9 := hK A1 ow1 τ1 C1 s1 _ hH1 hV1 hco1 (fun _ => updL_0 f _)
    rw [h0] at h9
    exact h9
  · rw [res9_1 h0]
    refine Kc_x (gx_catch hX [] (0, 9, 12, 13) [] rfl (fun _ h9 => absurd h9 List.not_mem_nil) (by decide) (by decide) ⟨218, 229, by decide +kernel, by decide +kernel⟩ (fun q => ?_))
    refine g_astore hX dL_easter_12 rfl ?_
    dsimp only [List.set]
    refine g_const hX dL_easter_13 ?_
    refine g_iret hX hR dL_easter_14 rfl rfl (by decide) (by decide) ?_
    have h9 := hK A1 ow1 τ1 C1 s1 f hH1 hV1 hco1 (fun z => absurd (h0.symm.trans z) (by decide))
    rw [h0] at h9
    exact h9

def sp_L_easterAnew (g : hG) : hS := fun as M sz K => ∃ (h : Nat) (A : Nat → Nat → Nat) (ow : Nat → Nat × Nat) (σ : SG) (τ : Nat → Nat → Int) (y : Int) (o : Nat) (C : hM) (f : Nat → Int64), as = [.ref h, .int (iZ y), .ref o] ∧ HX g.2.2.2.2 h A ow σ τ C ∧ SV σ ∧ inR y ∧ C o = none ∧ M = jn C (sg o f) ∧ KL g.2.2.2.2 h o (oc_easter σ y) K
theorem s_L_easterAnew {l : Launch} {g : hG} (hst : l.stackTraces = false) : Ctr l g mL_easterAnew (sp_L_easterAnew g) := by
  refine Ctr.mk9 hst (by decide) ?_ ?_
  · rintro as M sz K ⟨h, A, ow, σ, τ, y, o, C, f, rfl, hH, hV, ry, hco, rfl, hK⟩
    exact ⟨by simp [mL_easterAnew], cat_ok rfl⟩
  rintro X as M sz K hX rfl rfl hR ⟨h, A, ow, σ, τ, y, o, C, f, rfl, hH, hV, ry, hco, rfl, hK⟩
  show G X 0 [.ref h, .int (iZ y), .ref o, U9] [] (jn C (sg o f)) sz 0 0
  refine g_aload hX dL_easterAnew_0 rfl rfl ?_
  refine g_const hX dL_easterAnew_1 ?_
  refine g_aload hX dL_easterAnew_2 rfl rfl ?_
  refine g_iload hX dL_easterAnew_3 rfl ?_
  refine g_cVf (As := [.int (iZ y)]) (rest := [.int (iZ 0), .ref o]) (c2 := 1) (s2 := 6) hX (s_X9_easterAnew hst) dL_easterAnew_4 hH.ob rfl rfl (by first | exact Nat.le_of_ble_eq_true rfl | simp [cat_rf, Value.category]) ⟨rfl, rfl, by decide, by decide⟩ (sg_d hco) ?_
  refine ⟨h, A, ow, σ, τ, y, rfl, hH, hV, ry, fun A1 ow1 τ1 C1 s1 hH1 hV1 hd1 hs1 => ?_⟩
  have hco1 := sg_o hd1
  rcases ocr_easter σ y with h0 | h0
  · rw [res9_0 h0]
    refine Kc_i ?_
    refine g_i2l hX dL_easterAnew_7 ?_
    refine g_last hX dL_easterAnew_8 (jn_f (sg_s o f)) vin_0 ?_
    rw [jn_out]
    refine g_goto hX dL_easterAnew_9 ?_
    refine g_const hX dL_easterAnew_15 ?_
    refine g_iret hX hR dL_easterAnew_16 rfl rfl (by decide) (by decide) ?_
    have h9 := hK A1 ow1 τ1 C1 s1 _ hH1 hV1 hco1 (fun _ => updL_0 f _)
    rw [h0] at h9
    exact h9
  · rw [res9_1 h0]
    refine Kc_x (gx_catch hX [] (0, 9, 12, 13) [] rfl (fun _ h9 => absurd h9 List.not_mem_nil) (by decide) (by decide) ⟨218, 229, by decide +kernel, by decide +kernel⟩ (fun q => ?_))
    refine g_astore hX dL_easterAnew_12 rfl ?_
    dsimp only [List.set]
    refine g_const hX dL_easterAnew_13 ?_
    refine g_iret hX hR dL_easterAnew_14 rfl rfl (by decide) (by decide) ?_
    have h9 := hK A1 ow1 τ1 C1 s1 f hH1 hV1 hco1 (fun z => absurd (h0.symm.trans z) (by decide))
    rw [h0] at h9
    exact h9

def sp_L_weekday (g : hG) : hS := fun as M sz K => ∃ (h : Nat) (A : Nat → Nat → Nat) (ow : Nat → Nat × Nat) (σ : SG) (τ : Nat → Nat → Int) (y m d : Int) (o : Nat) (C : hM) (f : Nat → Int64), as = [.ref h, .int (iZ y), .int (iZ m), .int (iZ d), .ref o] ∧ HX g.2.2.2.2 h A ow σ τ C ∧ SV σ ∧ inR y ∧ inR m ∧ inR d ∧ C o = none ∧ M = jn C (sg o f) ∧ KL g.2.2.2.2 h o (oc_weekday σ y m d) K
theorem s_L_weekday {l : Launch} {g : hG} (hst : l.stackTraces = false) : Ctr l g mL_weekday (sp_L_weekday g) := by
  refine Ctr.mk9 hst (by decide) ?_ ?_
  · rintro as M sz K ⟨h, A, ow, σ, τ, y, m, d, o, C, f, rfl, hH, hV, ry, rm, rd, hco, rfl, hK⟩
    exact ⟨by simp [mL_weekday], cat_ok rfl⟩
  rintro X as M sz K hX rfl rfl hR ⟨h, A, ow, σ, τ, y, m, d, o, C, f, rfl, hH, hV, ry, rm, rd, hco, rfl, hK⟩
  show G X 0 [.ref h, .int (iZ y), .int (iZ m), .int (iZ d), .ref o, U9] [] (jn C (sg o f)) sz 0 0
  refine g_aload hX dL_weekday_0 rfl rfl ?_
  refine g_const hX dL_weekday_2 ?_
  refine g_aload hX dL_weekday_3 rfl rfl ?_
  refine g_iload hX dL_weekday_4 rfl ?_
  refine g_iload hX dL_weekday_5 rfl ?_
  refine g_iload hX dL_weekday_6 rfl ?_
  refine g_cVf (As := [.int (iZ y), .int (iZ m), .int (iZ d)]) (rest := [.int (iZ 0), .ref o]) (c2 := 3) (s2 := 18) hX (s_X9_weekday hst) dL_weekday_7 hH.ob rfl rfl (by first | exact Nat.le_of_ble_eq_true rfl | simp [cat_rf, Value.category]) ⟨rfl, rfl, by decide, by decide⟩ (sg_d hco) ?_
  refine ⟨h, A, ow, σ, τ, y, m, d, rfl, hH, hV, ry, rm, rd, fun A1 ow1 τ1 C1 s1 hH1 hV1 hd1 hs1 => ?_⟩
  have hco1 := sg_o hd1
  rcases ocr_weekday σ y m d with h0 | h0
  · rw [res9_0 h0]
    refine Kc_i ?_
    refine g_i2l hX dL_weekday_10 ?_
    refine g_last hX dL_weekday_11 (jn_f (sg_s o f)) vin_0 ?_
    rw [jn_out]
    refine g_goto hX dL_weekday_12 ?_
    refine g_const hX dL_weekday_19 ?_
    refine g_iret hX hR dL_weekday_20 rfl rfl (by decide) (by decide) ?_
    have h9 := hK A1 ow1 τ1 C1 s1 _ hH1 hV1 hco1 (fun _ => updL_0 f _)
    rw [h0] at h9
    exact h9
  · rw [res9_1 h0]
    refine Kc_x (gx_catch hX [] (0, 12, 15, 13) [] rfl (fun _ h9 => absurd h9 List.not_mem_nil) (by decide) (by decide) ⟨218, 229, by decide +kernel, by decide +kernel⟩ (fun q => ?_))
    refine g_astore hX dL_weekday_15 rfl ?_
    dsimp only [List.set]
    refine g_const hX dL_weekday_17 ?_
    refine g_iret hX hR dL_weekday_18 rfl rfl (by decide) (by decide) ?_
    have h9 := hK A1 ow1 τ1 C1 s1 f hH1 hV1 hco1 (fun z => absurd (h0.symm.trans z) (by decide))
    rw [h0] at h9
    exact h9

def sp_L_feast (g : hG) : hS := fun as M sz K => ∃ (h : Nat) (A : Nat → Nat → Nat) (ow : Nat → Nat × Nat) (σ : SG) (τ : Nat → Nat → Int) (r po m d : Int) (o : Nat) (C : hM) (f : Nat → Int64), as = [.ref h, .int (iZ r), .int (iZ po), .int (iZ m), .int (iZ d), .ref o] ∧ HX g.2.2.2.2 h A ow σ τ C ∧ SV σ ∧ inR r ∧ (po = 0 ∨ po = 1) ∧ inR m ∧ inR d ∧ C o = none ∧ M = jn C (sg o f) ∧ KL g.2.2.2.2 h o (oc_feast σ r po m d) K
theorem s_L_feast {l : Launch} {g : hG} (hst : l.stackTraces = false) : Ctr l g mL_feast (sp_L_feast g) := by
  refine Ctr.mk9 hst (by decide) ?_ ?_
  · rintro as M sz K ⟨h, A, ow, σ, τ, r, po, m, d, o, C, f, rfl, hH, hV, rr, rpo, rm, rd, hco, rfl, hK⟩
    exact ⟨by simp [mL_feast], cat_ok rfl⟩
  rintro X as M sz K hX rfl rfl hR ⟨h, A, ow, σ, τ, r, po, m, d, o, C, f, rfl, hH, hV, rr, rpo, rm, rd, hco, rfl, hK⟩
  show G X 0 [.ref h, .int (iZ r), .int (iZ po), .int (iZ m), .int (iZ d), .ref o, U9] [] (jn C (sg o f)) sz 0 0
  refine g_aload hX dL_feast_0 rfl rfl ?_
  refine g_const hX dL_feast_2 ?_
  refine g_aload hX dL_feast_3 rfl rfl ?_
  refine g_iload hX dL_feast_4 rfl ?_
  refine g_iload hX dL_feast_5 rfl ?_
  refine g_iload hX dL_feast_6 rfl ?_
  refine g_iload hX dL_feast_7 rfl ?_
  refine g_cVf (As := [.int (iZ r), .int (iZ po), .int (iZ m), .int (iZ d)]) (rest := [.int (iZ 0), .ref o]) (c2 := 9) (s2 := 239) hX (s_X9_feast hst) dL_feast_9 hH.ob rfl rfl (by first | exact Nat.le_of_ble_eq_true rfl | simp [cat_rf, Value.category]) ⟨rfl, rfl, by decide, by decide⟩ (sg_d hco) ?_
  refine ⟨h, A, ow, σ, τ, r, po, m, d, rfl, hH, hV, rr, rpo, rm, rd, fun A1 ow1 τ1 C1 s1 hH1 hV1 hd1 hs1 => ?_⟩
  have hco1 := sg_o hd1
  rcases ocr_feast σ r po m d with h0 | h0 | h0
  · rw [res9_0 h0]
    refine Kc_i ?_
    refine g_i2l hX dL_feast_12 ?_
    refine g_last hX dL_feast_13 (jn_f (sg_s o f)) vin_0 ?_
    rw [jn_out]
    refine g_goto hX dL_feast_14 ?_
    refine g_const hX dL_feast_25 ?_
    refine g_iret hX hR dL_feast_26 rfl rfl (by decide) (by decide) ?_
    have h9 := hK A1 ow1 τ1 C1 s1 _ hH1 hV1 hco1 (fun _ => updL_0 f _)
    rw [h0] at h9
    exact h9
  · rw [res9_1 h0]
    refine Kc_x (gx_catch hX [] (0, 14, 17, 13) [(0, 14, 21, 15)] rfl (fun _ h9 => absurd h9 List.not_mem_nil) (by decide) (by decide) ⟨218, 229, by decide +kernel, by decide +kernel⟩ (fun q => ?_))
    refine g_astore hX dL_feast_17 rfl ?_
    dsimp only [List.set]
    refine g_const hX dL_feast_19 ?_
    refine g_iret hX hR dL_feast_20 rfl rfl (by decide) (by decide) ?_
    have h9 := hK A1 ow1 τ1 C1 s1 f hH1 hV1 hco1 (fun z => absurd (h0.symm.trans z) (by decide))
    rw [h0] at h9
    exact h9
  · rw [res9_2 h0]
    refine Kc_x (gx_catch hX [(0, 14, 17, 13)] (0, 14, 21, 15) [] rfl (List.forall_mem_cons.mpr ⟨⟨by decide, 218, "java/lang/IllegalArgumentException", by decide +kernel, List.mem_of_getElem? (i := 2) rfl⟩, fun _ h9 => absurd h9 List.not_mem_nil⟩) (by decide) (by decide) ⟨219, 298, by decide +kernel, by decide +kernel⟩ (fun q => ?_))
    refine g_astore hX dL_feast_21 rfl ?_
    dsimp only [List.set]
    refine g_const hX dL_feast_23 ?_
    refine g_iret hX hR dL_feast_24 rfl rfl (by decide) (by decide) ?_
    have h9 := hK A1 ow1 τ1 C1 s1 f hH1 hV1 hco1 (fun z => absurd (h0.symm.trans z) (by decide))
    rw [h0] at h9
    exact h9

def sp_L_moving (g : hG) : hS := fun as M sz K => ∃ (h : Nat) (A : Nat → Nat → Nat) (ow : Nat → Nat × Nat) (σ : SG) (τ : Nat → Nat → Int) (r po d : Int) (o : Nat) (C : hM) (f : Nat → Int64), as = [.ref h, .int (iZ r), .int (iZ po), .int (iZ d), .ref o] ∧ HX g.2.2.2.2 h A ow σ τ C ∧ SV σ ∧ inR r ∧ (po = 0 ∨ po = 1) ∧ inR d ∧ C o = none ∧ M = jn C (sg o f) ∧ KL g.2.2.2.2 h o (oc_moving σ r po d) K
theorem s_L_moving {l : Launch} {g : hG} (hst : l.stackTraces = false) : Ctr l g mL_moving (sp_L_moving g) := by
  refine Ctr.mk9 hst (by decide) ?_ ?_
  · rintro as M sz K ⟨h, A, ow, σ, τ, r, po, d, o, C, f, rfl, hH, hV, rr, rpo, rd, hco, rfl, hK⟩
    exact ⟨by simp [mL_moving], cat_ok rfl⟩
  rintro X as M sz K hX rfl rfl hR ⟨h, A, ow, σ, τ, r, po, d, o, C, f, rfl, hH, hV, rr, rpo, rd, hco, rfl, hK⟩
  show G X 0 [.ref h, .int (iZ r), .int (iZ po), .int (iZ d), .ref o, U9] [] (jn C (sg o f)) sz 0 0
  refine g_aload hX dL_moving_0 rfl rfl ?_
  refine g_const hX dL_moving_2 ?_
  refine g_aload hX dL_moving_3 rfl rfl ?_
  refine g_iload hX dL_moving_4 rfl ?_
  refine g_iload hX dL_moving_5 rfl ?_
  refine g_iload hX dL_moving_6 rfl ?_
  refine g_cVf (As := [.int (iZ r), .int (iZ po), .int (iZ d)]) (rest := [.int (iZ 0), .ref o]) (c2 := 7) (s2 := 227) hX (s_X9_moving hst) dL_moving_7 hH.ob rfl rfl (by first | exact Nat.le_of_ble_eq_true rfl | simp [cat_rf, Value.category]) ⟨rfl, rfl, by decide, by decide⟩ (sg_d hco) ?_
  refine ⟨h, A, ow, σ, τ, r, po, d, rfl, hH, hV, rr, rpo, rd, fun A1 ow1 τ1 C1 s1 hH1 hV1 hd1 hs1 => ?_⟩
  have hco1 := sg_o hd1
  rcases ocr_moving σ r po d with h0 | h0 | h0
  · rw [res9_0 h0]
    refine Kc_i ?_
    refine g_i2l hX dL_moving_10 ?_
    refine g_last hX dL_moving_11 (jn_f (sg_s o f)) vin_0 ?_
    rw [jn_out]
    refine g_goto hX dL_moving_12 ?_
    refine g_const hX dL_moving_23 ?_
    refine g_iret hX hR dL_moving_24 rfl rfl (by decide) (by decide) ?_
    have h9 := hK A1 ow1 τ1 C1 s1 _ hH1 hV1 hco1 (fun _ => updL_0 f _)
    rw [h0] at h9
    exact h9
  · rw [res9_1 h0]
    refine Kc_x (gx_catch hX [] (0, 12, 15, 13) [(0, 12, 19, 15)] rfl (fun _ h9 => absurd h9 List.not_mem_nil) (by decide) (by decide) ⟨218, 229, by decide +kernel, by decide +kernel⟩ (fun q => ?_))
    refine g_astore hX dL_moving_15 rfl ?_
    dsimp only [List.set]
    refine g_const hX dL_moving_17 ?_
    refine g_iret hX hR dL_moving_18 rfl rfl (by decide) (by decide) ?_
    have h9 := hK A1 ow1 τ1 C1 s1 f hH1 hV1 hco1 (fun z => absurd (h0.symm.trans z) (by decide))
    rw [h0] at h9
    exact h9
  · rw [res9_2 h0]
    refine Kc_x (gx_catch hX [(0, 12, 15, 13)] (0, 12, 19, 15) [] rfl (List.forall_mem_cons.mpr ⟨⟨by decide, 218, "java/lang/IllegalArgumentException", by decide +kernel, List.mem_of_getElem? (i := 2) rfl⟩, fun _ h9 => absurd h9 List.not_mem_nil⟩) (by decide) (by decide) ⟨219, 298, by decide +kernel, by decide +kernel⟩ (fun q => ?_))
    refine g_astore hX dL_moving_19 rfl ?_
    dsimp only [List.set]
    refine g_const hX dL_moving_21 ?_
    refine g_iret hX hR dL_moving_22 rfl rfl (by decide) (by decide) ?_
    have h9 := hK A1 ow1 τ1 C1 s1 f hH1 hV1 hco1 (fun z => absurd (h0.symm.trans z) (by decide))
    rw [h0] at h9
    exact h9

def sp_L_sundays (g : hG) : hS := fun as M sz K => ∃ (h : Nat) (A : Nat → Nat → Nat) (ow : Nat → Nat × Nat) (σ : SG) (τ : Nat → Nat → Int) (r : Int) (o : Nat) (C : hM) (f : Nat → Int64), as = [.ref h, .int (iZ r), .ref o] ∧ HX g.2.2.2.2 h A ow σ τ C ∧ SV σ ∧ inR r ∧ C o = none ∧ M = jn C (sg o f) ∧ KL g.2.2.2.2 h o (oc_sundays σ r) K
theorem s_L_sundays {l : Launch} {g : hG} (hst : l.stackTraces = false) : Ctr l g mL_sundays (sp_L_sundays g) := by
  refine Ctr.mk9 hst (by decide) ?_ ?_
  · rintro as M sz K ⟨h, A, ow, σ, τ, r, o, C, f, rfl, hH, hV, rr, hco, rfl, hK⟩
    exact ⟨by simp [mL_sundays], cat_ok rfl⟩
  rintro X as M sz K hX rfl rfl hR ⟨h, A, ow, σ, τ, r, o, C, f, rfl, hH, hV, rr, hco, rfl, hK⟩
  show G X 0 [.ref h, .int (iZ r), .ref o, U9] [] (jn C (sg o f)) sz 0 0
  refine g_aload hX dL_sundays_0 rfl rfl ?_
  refine g_const hX dL_sundays_1 ?_
  refine g_aload hX dL_sundays_2 rfl rfl ?_
  refine g_iload hX dL_sundays_3 rfl ?_
  refine g_cVf (As := [.int (iZ r)]) (rest := [.int (iZ 0), .ref o]) (c2 := 1) (s2 := 6) hX (s_X9_sundays hst) dL_sundays_4 hH.ob rfl rfl (by first | exact Nat.le_of_ble_eq_true rfl | simp [cat_rf, Value.category]) ⟨rfl, rfl, by decide, by decide⟩ (sg_d hco) ?_
  refine ⟨h, A, ow, σ, τ, r, rfl, hH, hV, rr, fun A1 ow1 τ1 C1 s1 hH1 hV1 hd1 hs1 => ?_⟩
  have hco1 := sg_o hd1
  rcases ocr_sundays σ r with h0 | h0
  · rw [res9_0 h0]
    refine Kc_i ?_
    refine g_i2l hX dL_sundays_7 ?_
    refine g_last hX dL_sundays_8 (jn_f (sg_s o f)) vin_0 ?_
    rw [jn_out]
    refine g_goto hX dL_sundays_9 ?_
    refine g_const hX dL_sundays_15 ?_
    refine g_iret hX hR dL_sundays_16 rfl rfl (by decide) (by decide) ?_
    have h9 := hK A1 ow1 τ1 C1 s1 _ hH1 hV1 hco1 (fun _ => updL_0 f _)
    rw [h0] at h9
    exact h9
  · rw [res9_1 h0]
    refine Kc_x (gx_catch hX [] (0, 9, 12, 13) [] rfl (fun _ h9 => absurd h9 List.not_mem_nil) (by decide) (by decide) ⟨218, 229, by decide +kernel, by decide +kernel⟩ (fun q => ?_))
    refine g_astore hX dL_sundays_12 rfl ?_
    dsimp only [List.set]
    refine g_const hX dL_sundays_13 ?_
    refine g_iret hX hR dL_sundays_14 rfl rfl (by decide) (by decide) ?_
    have h9 := hK A1 ow1 τ1 C1 s1 f hH1 hV1 hco1 (fun z => absurd (h0.symm.trans z) (by decide))
    rw [h0] at h9
    exact h9

def sp_L_reading (g : hG) : hS := fun as M sz K => ∃ (h : Nat) (A : Nat → Nat → Nat) (ow : Nat → Nat × Nat) (σ : SG) (τ : Nat → Nat → Int) (a b th : Int) (o : Nat) (C : hM) (f : Nat → Int64), as = [.ref h, .int (iZ a), .int (iZ b), .int (iZ th), .ref o] ∧ HX g.2.2.2.2 h A ow σ τ C ∧ SV σ ∧ inR a ∧ inR b ∧ inR th ∧ C o = none ∧ M = jn C (sg o f) ∧ KL g.2.2.2.2 h o (oc_reading σ a b th) K
theorem s_L_reading {l : Launch} {g : hG} (hst : l.stackTraces = false) : Ctr l g mL_reading (sp_L_reading g) := by
  refine Ctr.mk9 hst (by decide) ?_ ?_
  · rintro as M sz K ⟨h, A, ow, σ, τ, a, b, th, o, C, f, rfl, hH, hV, ra, rb, rth, hco, rfl, hK⟩
    exact ⟨by simp [mL_reading], cat_ok rfl⟩
  rintro X as M sz K hX rfl rfl hR ⟨h, A, ow, σ, τ, a, b, th, o, C, f, rfl, hH, hV, ra, rb, rth, hco, rfl, hK⟩
  show G X 0 [.ref h, .int (iZ a), .int (iZ b), .int (iZ th), .ref o, U9] [] (jn C (sg o f)) sz 0 0
  refine g_aload hX dL_reading_0 rfl rfl ?_
  refine g_const hX dL_reading_2 ?_
  refine g_aload hX dL_reading_3 rfl rfl ?_
  refine g_iload hX dL_reading_4 rfl ?_
  refine g_iload hX dL_reading_5 rfl ?_
  refine g_iload hX dL_reading_6 rfl ?_
  refine g_cVf (As := [.int (iZ a), .int (iZ b), .int (iZ th)]) (rest := [.int (iZ 0), .ref o]) (c2 := 3) (s2 := 18) hX (s_X9_reading hst) dL_reading_7 hH.ob rfl rfl (by first | exact Nat.le_of_ble_eq_true rfl | simp [cat_rf, Value.category]) ⟨rfl, rfl, by decide, by decide⟩ (sg_d hco) ?_
  refine ⟨h, A, ow, σ, τ, a, b, th, rfl, hH, hV, ra, rb, rth, fun A1 ow1 τ1 C1 s1 hH1 hV1 hd1 hs1 => ?_⟩
  have hco1 := sg_o hd1
  rcases ocr_reading σ a b th with h0 | h0 | h0
  · rw [res9_0 h0]
    refine Kc_i ?_
    refine g_i2l hX dL_reading_10 ?_
    refine g_last hX dL_reading_11 (jn_f (sg_s o f)) vin_0 ?_
    rw [jn_out]
    refine g_goto hX dL_reading_12 ?_
    refine g_const hX dL_reading_23 ?_
    refine g_iret hX hR dL_reading_24 rfl rfl (by decide) (by decide) ?_
    have h9 := hK A1 ow1 τ1 C1 s1 _ hH1 hV1 hco1 (fun _ => updL_0 f _)
    rw [h0] at h9
    exact h9
  · rw [res9_1 h0]
    refine Kc_x (gx_catch hX [] (0, 12, 15, 21) [(0, 12, 19, 13)] rfl (fun _ h9 => absurd h9 List.not_mem_nil) (by decide) (by decide) ⟨427, 441, by decide +kernel, by decide +kernel⟩ (fun q => ?_))
    refine g_astore hX dL_reading_15 rfl ?_
    dsimp only [List.set]
    refine g_const hX dL_reading_17 ?_
    refine g_iret hX hR dL_reading_18 rfl rfl (by decide) (by decide) ?_
    have h9 := hK A1 ow1 τ1 C1 s1 f hH1 hV1 hco1 (fun z => absurd (h0.symm.trans z) (by decide))
    rw [h0] at h9
    exact h9
  · rw [res9_2 h0]
    refine Kc_x (gx_catch hX [(0, 12, 15, 21)] (0, 12, 19, 13) [] rfl (List.forall_mem_cons.mpr ⟨⟨by decide, 427, "java/lang/IndexOutOfBoundsException", by decide +kernel, List.mem_of_getElem? (i := 1) rfl⟩, fun _ h9 => absurd h9 List.not_mem_nil⟩) (by decide) (by decide) ⟨218, 229, by decide +kernel, by decide +kernel⟩ (fun q => ?_))
    refine g_astore hX dL_reading_19 rfl ?_
    dsimp only [List.set]
    refine g_const hX dL_reading_21 ?_
    refine g_iret hX hR dL_reading_22 rfl rfl (by decide) (by decide) ?_
    have h9 := hK A1 ow1 τ1 C1 s1 f hH1 hV1 hco1 (fun z => absurd (h0.symm.trans z) (by decide))
    rw [h0] at h9
    exact h9

def sp_L_kept (g : hG) : hS := fun as M sz K => ∃ (h : Nat) (A : Nat → Nat → Nat) (ow : Nat → Nat × Nat) (σ : SG) (τ : Nat → Nat → Int) (y m d : Int) (o : Nat) (C : hM) (f : Nat → Int64), as = [.ref h, .int (iZ y), .int (iZ m), .int (iZ d), .ref o] ∧ HX g.2.2.2.2 h A ow σ τ C ∧ SV σ ∧ inR y ∧ inR m ∧ inR d ∧ C o = none ∧ M = jn C (sg o f) ∧ KL g.2.2.2.2 h o (oc_kept σ y m d) K
theorem s_L_kept {l : Launch} {g : hG} (hst : l.stackTraces = false) : Ctr l g mL_kept (sp_L_kept g) := by
  refine Ctr.mk9 hst (by decide) ?_ ?_
  · rintro as M sz K ⟨h, A, ow, σ, τ, y, m, d, o, C, f, rfl, hH, hV, ry, rm, rd, hco, rfl, hK⟩
    exact ⟨by simp [mL_kept], cat_ok rfl⟩
  rintro X as M sz K hX rfl rfl hR ⟨h, A, ow, σ, τ, y, m, d, o, C, f, rfl, hH, hV, ry, rm, rd, hco, rfl, hK⟩
  show G X 0 [.ref h, .int (iZ y), .int (iZ m), .int (iZ d), .ref o, U9] [] (jn C (sg o f)) sz 0 0
  refine g_aload hX dL_kept_0 rfl rfl ?_
  refine g_const hX dL_kept_2 ?_
  refine g_aload hX dL_kept_3 rfl rfl ?_
  refine g_iload hX dL_kept_4 rfl ?_
  refine g_iload hX dL_kept_5 rfl ?_
  refine g_iload hX dL_kept_6 rfl ?_
  refine g_cVf (As := [.int (iZ y), .int (iZ m), .int (iZ d)]) (rest := [.int (iZ 0), .ref o]) (c2 := 3) (s2 := 18) hX (s_X9_kept hst) dL_kept_7 hH.ob rfl rfl (by first | exact Nat.le_of_ble_eq_true rfl | simp [cat_rf, Value.category]) ⟨rfl, rfl, by decide, by decide⟩ (sg_d hco) ?_
  refine ⟨h, A, ow, σ, τ, y, m, d, rfl, hH, hV, ry, rm, rd, fun A1 ow1 τ1 C1 s1 hH1 hV1 hd1 hs1 => ?_⟩
  have hco1 := sg_o hd1
  rcases ocr_kept σ y m d with h0 | h0
  · rw [res9_0 h0]
    refine Kc_i ?_
    refine g_i2l hX dL_kept_10 ?_
    refine g_last hX dL_kept_11 (jn_f (sg_s o f)) vin_0 ?_
    rw [jn_out]
    refine g_goto hX dL_kept_12 ?_
    refine g_const hX dL_kept_19 ?_
    refine g_iret hX hR dL_kept_20 rfl rfl (by decide) (by decide) ?_
    have h9 := hK A1 ow1 τ1 C1 s1 _ hH1 hV1 hco1 (fun _ => updL_0 f _)
    rw [h0] at h9
    exact h9
  · rw [res9_1 h0]
    refine Kc_x (gx_catch hX [] (0, 12, 15, 13) [] rfl (fun _ h9 => absurd h9 List.not_mem_nil) (by decide) (by decide) ⟨218, 229, by decide +kernel, by decide +kernel⟩ (fun q => ?_))
    refine g_astore hX dL_kept_15 rfl ?_
    dsimp only [List.set]
    refine g_const hX dL_kept_17 ?_
    refine g_iret hX hR dL_kept_18 rfl rfl (by decide) (by decide) ?_
    have h9 := hK A1 ow1 τ1 C1 s1 f hH1 hV1 hco1 (fun z => absurd (h0.symm.trans z) (by decide))
    rw [h0] at h9
    exact h9

def sp_L_when (g : hG) : hS := fun as M sz K => ∃ (h : Nat) (A : Nat → Nat → Nat) (ow : Nat → Nat × Nat) (σ : SG) (τ : Nat → Nat → Int) (a y : Int) (o : Nat) (C : hM) (f : Nat → Int64), as = [.ref h, .int (iZ a), .int (iZ y), .ref o] ∧ HX g.2.2.2.2 h A ow σ τ C ∧ SV σ ∧ inR a ∧ inR y ∧ C o = none ∧ M = jn C (sg o f) ∧ KL g.2.2.2.2 h o (oc_when σ a y) K
theorem s_L_when {l : Launch} {g : hG} (hst : l.stackTraces = false) : Ctr l g mL_when (sp_L_when g) := by
  refine Ctr.mk9 hst (by decide) ?_ ?_
  · rintro as M sz K ⟨h, A, ow, σ, τ, a, y, o, C, f, rfl, hH, hV, ra, ry, hco, rfl, hK⟩
    exact ⟨by simp [mL_when], cat_ok rfl⟩
  rintro X as M sz K hX rfl rfl hR ⟨h, A, ow, σ, τ, a, y, o, C, f, rfl, hH, hV, ra, ry, hco, rfl, hK⟩
  show G X 0 [.ref h, .int (iZ a), .int (iZ y), .ref o, U9] [] (jn C (sg o f)) sz 0 0
  refine g_aload hX dL_when_0 rfl rfl ?_
  refine g_const hX dL_when_1 ?_
  refine g_aload hX dL_when_2 rfl rfl ?_
  refine g_iload hX dL_when_3 rfl ?_
  refine g_iload hX dL_when_4 rfl ?_
  refine g_cVf (As := [.int (iZ a), .int (iZ y)]) (rest := [.int (iZ 0), .ref o]) (c2 := 2) (s2 := 12) hX (s_X9_when hst) dL_when_5 hH.ob rfl rfl (by first | exact Nat.le_of_ble_eq_true rfl | simp [cat_rf, Value.category]) ⟨rfl, rfl, by decide, by decide⟩ (sg_d hco) ?_
  refine ⟨h, A, ow, σ, τ, a, y, rfl, hH, hV, ra, ry, fun A1 ow1 τ1 C1 s1 hH1 hV1 hd1 hs1 => ?_⟩
  have hco1 := sg_o hd1
  rcases ocr_when σ a y with h0 | h0 | h0
  · rw [res9_0 h0]
    refine Kc_i ?_
    refine g_i2l hX dL_when_8 ?_
    refine g_last hX dL_when_9 (jn_f (sg_s o f)) vin_0 ?_
    rw [jn_out]
    refine g_goto hX dL_when_10 ?_
    refine g_const hX dL_when_21 ?_
    refine g_iret hX hR dL_when_22 rfl rfl (by decide) (by decide) ?_
    have h9 := hK A1 ow1 τ1 C1 s1 _ hH1 hV1 hco1 (fun _ => updL_0 f _)
    rw [h0] at h9
    exact h9
  · rw [res9_1 h0]
    refine Kc_x (gx_catch hX [] (0, 10, 13, 21) [(0, 10, 17, 13)] rfl (fun _ h9 => absurd h9 List.not_mem_nil) (by decide) (by decide) ⟨427, 441, by decide +kernel, by decide +kernel⟩ (fun q => ?_))
    refine g_astore hX dL_when_13 rfl ?_
    dsimp only [List.set]
    refine g_const hX dL_when_15 ?_
    refine g_iret hX hR dL_when_16 rfl rfl (by decide) (by decide) ?_
    have h9 := hK A1 ow1 τ1 C1 s1 f hH1 hV1 hco1 (fun z => absurd (h0.symm.trans z) (by decide))
    rw [h0] at h9
    exact h9
  · rw [res9_2 h0]
    refine Kc_x (gx_catch hX [(0, 10, 13, 21)] (0, 10, 17, 13) [] rfl (List.forall_mem_cons.mpr ⟨⟨by decide, 427, "java/lang/IndexOutOfBoundsException", by decide +kernel, List.mem_of_getElem? (i := 1) rfl⟩, fun _ h9 => absurd h9 List.not_mem_nil⟩) (by decide) (by decide) ⟨218, 229, by decide +kernel, by decide +kernel⟩ (fun q => ?_))
    refine g_astore hX dL_when_17 rfl ?_
    dsimp only [List.set]
    refine g_const hX dL_when_19 ?_
    refine g_iret hX hR dL_when_20 rfl rfl (by decide) (by decide) ?_
    have h9 := hK A1 ow1 τ1 C1 s1 f hH1 hV1 hco1 (fun z => absurd (h0.symm.trans z) (by decide))
    rw [h0] at h9
    exact h9

def sp_L_whenAnew (g : hG) : hS := fun as M sz K => ∃ (h : Nat) (A : Nat → Nat → Nat) (ow : Nat → Nat × Nat) (σ : SG) (τ : Nat → Nat → Int) (a y : Int) (o : Nat) (C : hM) (f : Nat → Int64), as = [.ref h, .int (iZ a), .int (iZ y), .ref o] ∧ HX g.2.2.2.2 h A ow σ τ C ∧ SV σ ∧ inR a ∧ inR y ∧ C o = none ∧ M = jn C (sg o f) ∧ KL g.2.2.2.2 h o (oc_when σ a y) K
theorem s_L_whenAnew {l : Launch} {g : hG} (hst : l.stackTraces = false) : Ctr l g mL_whenAnew (sp_L_whenAnew g) := by
  refine Ctr.mk9 hst (by decide) ?_ ?_
  · rintro as M sz K ⟨h, A, ow, σ, τ, a, y, o, C, f, rfl, hH, hV, ra, ry, hco, rfl, hK⟩
    exact ⟨by simp [mL_whenAnew], cat_ok rfl⟩
  rintro X as M sz K hX rfl rfl hR ⟨h, A, ow, σ, τ, a, y, o, C, f, rfl, hH, hV, ra, ry, hco, rfl, hK⟩
  show G X 0 [.ref h, .int (iZ a), .int (iZ y), .ref o, U9] [] (jn C (sg o f)) sz 0 0
  refine g_aload hX dL_whenAnew_0 rfl rfl ?_
  refine g_const hX dL_whenAnew_1 ?_
  refine g_aload hX dL_whenAnew_2 rfl rfl ?_
  refine g_iload hX dL_whenAnew_3 rfl ?_
  refine g_iload hX dL_whenAnew_4 rfl ?_
  refine g_cVf (As := [.int (iZ a), .int (iZ y)]) (rest := [.int (iZ 0), .ref o]) (c2 := 2) (s2 := 12) hX (s_X9_whenAnew hst) dL_whenAnew_5 hH.ob rfl rfl (by first | exact Nat.le_of_ble_eq_true rfl | simp [cat_rf, Value.category]) ⟨rfl, rfl, by decide, by decide⟩ (sg_d hco) ?_
  refine ⟨h, A, ow, σ, τ, a, y, rfl, hH, hV, ra, ry, fun A1 ow1 τ1 C1 s1 hH1 hV1 hd1 hs1 => ?_⟩
  have hco1 := sg_o hd1
  rcases ocr_when σ a y with h0 | h0 | h0
  · rw [res9_0 h0]
    refine Kc_i ?_
    refine g_i2l hX dL_whenAnew_8 ?_
    refine g_last hX dL_whenAnew_9 (jn_f (sg_s o f)) vin_0 ?_
    rw [jn_out]
    refine g_goto hX dL_whenAnew_10 ?_
    refine g_const hX dL_whenAnew_21 ?_
    refine g_iret hX hR dL_whenAnew_22 rfl rfl (by decide) (by decide) ?_
    have h9 := hK A1 ow1 τ1 C1 s1 _ hH1 hV1 hco1 (fun _ => updL_0 f _)
    rw [h0] at h9
    exact h9
  · rw [res9_1 h0]
    refine Kc_x (gx_catch hX [] (0, 10, 13, 21) [(0, 10, 17, 13)] rfl (fun _ h9 => absurd h9 List.not_mem_nil) (by decide) (by decide) ⟨427, 441, by decide +kernel, by decide +kernel⟩ (fun q => ?_))
    refine g_astore hX dL_whenAnew_13 rfl ?_
    dsimp only [List.set]
    refine g_const hX dL_whenAnew_15 ?_
    refine g_iret hX hR dL_whenAnew_16 rfl rfl (by decide) (by decide) ?_
    have h9 := hK A1 ow1 τ1 C1 s1 f hH1 hV1 hco1 (fun z => absurd (h0.symm.trans z) (by decide))
    rw [h0] at h9
    exact h9
  · rw [res9_2 h0]
    refine Kc_x (gx_catch hX [(0, 10, 13, 21)] (0, 10, 17, 13) [] rfl (List.forall_mem_cons.mpr ⟨⟨by decide, 427, "java/lang/IndexOutOfBoundsException", by decide +kernel, List.mem_of_getElem? (i := 1) rfl⟩, fun _ h9 => absurd h9 List.not_mem_nil⟩) (by decide) (by decide) ⟨218, 229, by decide +kernel, by decide +kernel⟩ (fun q => ?_))
    refine g_astore hX dL_whenAnew_17 rfl ?_
    dsimp only [List.set]
    refine g_const hX dL_whenAnew_19 ?_
    refine g_iret hX hR dL_whenAnew_20 rfl rfl (by decide) (by decide) ?_
    have h9 := hK A1 ow1 τ1 C1 s1 f hH1 hV1 hco1 (fun z => absurd (h0.symm.trans z) (by decide))
    rw [h0] at h9
    exact h9

def sp_L_theme (g : hG) : hS := fun as M sz K => ∃ (h : Nat) (A : Nat → Nat → Nat) (ow : Nat → Nat × Nat) (σ : SG) (τ : Nat → Nat → Int) (y m d : Int) (o : Nat) (C : hM) (f : Nat → Int64), as = [.ref h, .int (iZ y), .int (iZ m), .int (iZ d), .ref o] ∧ HX g.2.2.2.2 h A ow σ τ C ∧ SV σ ∧ inR y ∧ inR m ∧ inR d ∧ C o = none ∧ M = jn C (sg o f) ∧ KL g.2.2.2.2 h o (oc_theme σ y m d) K
theorem s_L_theme {l : Launch} {g : hG} (hst : l.stackTraces = false) : Ctr l g mL_theme (sp_L_theme g) := by
  refine Ctr.mk9 hst (by decide) ?_ ?_
  · rintro as M sz K ⟨h, A, ow, σ, τ, y, m, d, o, C, f, rfl, hH, hV, ry, rm, rd, hco, rfl, hK⟩
    exact ⟨by simp [mL_theme], cat_ok rfl⟩
  rintro X as M sz K hX rfl rfl hR ⟨h, A, ow, σ, τ, y, m, d, o, C, f, rfl, hH, hV, ry, rm, rd, hco, rfl, hK⟩
  show G X 0 [.ref h, .int (iZ y), .int (iZ m), .int (iZ d), .ref o, U9] [] (jn C (sg o f)) sz 0 0
  refine g_aload hX dL_theme_0 rfl rfl ?_
  refine g_const hX dL_theme_2 ?_
  refine g_aload hX dL_theme_3 rfl rfl ?_
  refine g_iload hX dL_theme_4 rfl ?_
  refine g_iload hX dL_theme_5 rfl ?_
  refine g_iload hX dL_theme_6 rfl ?_
  refine g_cVf (As := [.int (iZ y), .int (iZ m), .int (iZ d)]) (rest := [.int (iZ 0), .ref o]) (c2 := 3) (s2 := 18) hX (s_X9_theme hst) dL_theme_7 hH.ob rfl rfl (by first | exact Nat.le_of_ble_eq_true rfl | simp [cat_rf, Value.category]) ⟨rfl, rfl, by decide, by decide⟩ (sg_d hco) ?_
  refine ⟨h, A, ow, σ, τ, y, m, d, rfl, hH, hV, ry, rm, rd, fun A1 ow1 τ1 C1 s1 hH1 hV1 hd1 hs1 => ?_⟩
  have hco1 := sg_o hd1
  rcases ocr_theme σ y m d with h0 | h0
  · rw [res9_0 h0]
    refine Kc_i ?_
    refine g_i2l hX dL_theme_10 ?_
    refine g_last hX dL_theme_11 (jn_f (sg_s o f)) vin_0 ?_
    rw [jn_out]
    refine g_goto hX dL_theme_12 ?_
    refine g_const hX dL_theme_19 ?_
    refine g_iret hX hR dL_theme_20 rfl rfl (by decide) (by decide) ?_
    have h9 := hK A1 ow1 τ1 C1 s1 _ hH1 hV1 hco1 (fun _ => updL_0 f _)
    rw [h0] at h9
    exact h9
  · rw [res9_1 h0]
    refine Kc_x (gx_catch hX [] (0, 12, 15, 13) [] rfl (fun _ h9 => absurd h9 List.not_mem_nil) (by decide) (by decide) ⟨218, 229, by decide +kernel, by decide +kernel⟩ (fun q => ?_))
    refine g_astore hX dL_theme_15 rfl ?_
    dsimp only [List.set]
    refine g_const hX dL_theme_17 ?_
    refine g_iret hX hR dL_theme_18 rfl rfl (by decide) (by decide) ?_
    have h9 := hK A1 ow1 τ1 C1 s1 f hH1 hV1 hco1 (fun z => absurd (h0.symm.trans z) (by decide))
    rw [h0] at h9
    exact h9

def sp_L_why (g : hG) : hS := fun as M sz K => ∃ (h : Nat) (A : Nat → Nat → Nat) (ow : Nat → Nat × Nat) (σ : SG) (τ : Nat → Nat → Int) (a y m d : Int) (o : Nat) (C : hM) (f : Nat → Int64), as = [.ref h, .int (iZ a), .int (iZ y), .int (iZ m), .int (iZ d), .ref o] ∧ HX g.2.2.2.2 h A ow σ τ C ∧ SV σ ∧ inR a ∧ inR y ∧ inR m ∧ inR d ∧ C o = none ∧ M = jn C (sg o f) ∧ KL g.2.2.2.2 h o (oc_why σ a y m d) K
theorem s_L_why {l : Launch} {g : hG} (hst : l.stackTraces = false) : Ctr l g mL_why (sp_L_why g) := by
  refine Ctr.mk9 hst (by decide) ?_ ?_
  · rintro as M sz K ⟨h, A, ow, σ, τ, a, y, m, d, o, C, f, rfl, hH, hV, ra, ry, rm, rd, hco, rfl, hK⟩
    exact ⟨by simp [mL_why], cat_ok rfl⟩
  rintro X as M sz K hX rfl rfl hR ⟨h, A, ow, σ, τ, a, y, m, d, o, C, f, rfl, hH, hV, ra, ry, rm, rd, hco, rfl, hK⟩
  show G X 0 [.ref h, .int (iZ a), .int (iZ y), .int (iZ m), .int (iZ d), .ref o, U9] [] (jn C (sg o f)) sz 0 0
  refine g_aload hX dL_why_0 rfl rfl ?_
  refine g_const hX dL_why_2 ?_
  refine g_aload hX dL_why_3 rfl rfl ?_
  refine g_iload hX dL_why_4 rfl ?_
  refine g_iload hX dL_why_5 rfl ?_
  refine g_iload hX dL_why_6 rfl ?_
  refine g_iload hX dL_why_7 rfl ?_
  refine g_cVf (As := [.int (iZ a), .int (iZ y), .int (iZ m), .int (iZ d)]) (rest := [.int (iZ 0), .ref o]) (c2 := 5) (s2 := 30) hX (s_X9_why hst) dL_why_9 hH.ob rfl rfl (by first | exact Nat.le_of_ble_eq_true rfl | simp [cat_rf, Value.category]) ⟨rfl, rfl, by decide, by decide⟩ (sg_d hco) ?_
  refine ⟨h, A, ow, σ, τ, a, y, m, d, rfl, hH, hV, ra, ry, rm, rd, fun A1 ow1 τ1 C1 s1 hH1 hV1 hd1 hs1 => ?_⟩
  have hco1 := sg_o hd1
  rcases ocr_why σ a y m d with h0 | h0 | h0 | h0
  · rw [res9_0 h0]
    refine Kc_i ?_
    refine g_i2l hX dL_why_12 ?_
    refine g_last hX dL_why_13 (jn_f (sg_s o f)) vin_0 ?_
    rw [jn_out]
    refine g_goto hX dL_why_14 ?_
    refine g_const hX dL_why_29 ?_
    refine g_iret hX hR dL_why_30 rfl rfl (by decide) (by decide) ?_
    have h9 := hK A1 ow1 τ1 C1 s1 _ hH1 hV1 hco1 (fun _ => updL_0 f _)
    rw [h0] at h9
    exact h9
  · rw [res9_1 h0]
    refine Kc_x (gx_catch hX [] (0, 14, 17, 21) [(0, 14, 21, 13), (0, 14, 25, 15)] rfl (fun _ h9 => absurd h9 List.not_mem_nil) (by decide) (by decide) ⟨427, 441, by decide +kernel, by decide +kernel⟩ (fun q => ?_))
    refine g_astore hX dL_why_17 rfl ?_
    dsimp only [List.set]
    refine g_const hX dL_why_19 ?_
    refine g_iret hX hR dL_why_20 rfl rfl (by decide) (by decide) ?_
    have h9 := hK A1 ow1 τ1 C1 s1 f hH1 hV1 hco1 (fun z => absurd (h0.symm.trans z) (by decide))
    rw [h0] at h9
    exact h9
  · rw [res9_2 h0]
    refine Kc_x (gx_catch hX [(0, 14, 17, 21)] (0, 14, 21, 13) [(0, 14, 25, 15)] rfl (List.forall_mem_cons.mpr ⟨⟨by decide, 427, "java/lang/IndexOutOfBoundsException", by decide +kernel, List.mem_of_getElem? (i := 1) rfl⟩, fun _ h9 => absurd h9 List.not_mem_nil⟩) (by decide) (by decide) ⟨218, 229, by decide +kernel, by decide +kernel⟩ (fun q => ?_))
    refine g_astore hX dL_why_21 rfl ?_
    dsimp only [List.set]
    refine g_const hX dL_why_23 ?_
    refine g_iret hX hR dL_why_24 rfl rfl (by decide) (by decide) ?_
    have h9 := hK A1 ow1 τ1 C1 s1 f hH1 hV1 hco1 (fun z => absurd (h0.symm.trans z) (by decide))
    rw [h0] at h9
    exact h9
  · rw [res9_3 h0]
    refine Kc_x (gx_catch hX [(0, 14, 17, 21), (0, 14, 21, 13)] (0, 14, 25, 15) [] rfl (List.forall_mem_cons.mpr ⟨⟨by decide, 427, "java/lang/IndexOutOfBoundsException", by decide +kernel, List.mem_of_getElem? (i := 3) rfl⟩, List.forall_mem_cons.mpr ⟨⟨by decide, 218, "java/lang/IllegalArgumentException", by decide +kernel, List.mem_of_getElem? (i := 2) rfl⟩, fun _ h9 => absurd h9 List.not_mem_nil⟩⟩) (by decide) (by decide) ⟨219, 298, by decide +kernel, by decide +kernel⟩ (fun q => ?_))
    refine g_astore hX dL_why_25 rfl ?_
    dsimp only [List.set]
    refine g_const hX dL_why_27 ?_
    refine g_iret hX hR dL_why_28 rfl rfl (by decide) (by decide) ?_
    have h9 := hK A1 ow1 τ1 C1 s1 f hH1 hV1 hco1 (fun z => absurd (h0.symm.trans z) (by decide))
    rw [h0] at h9
    exact h9

def sp_L_sing (g : hG) : hS := fun as M sz K => ∃ (h : Nat) (A : Nat → Nat → Nat) (ow : Nat → Nat × Nat) (σ : SG) (τ : Nat → Nat → Int) (y m d : Int) (o : Nat) (C : hM) (f : Nat → Int64), as = [.ref h, .int (iZ y), .int (iZ m), .int (iZ d), .ref o] ∧ HX g.2.2.2.2 h A ow σ τ C ∧ SV σ ∧ inR y ∧ inR m ∧ inR d ∧ C o = none ∧ M = jn C (sg o f) ∧ KL g.2.2.2.2 h o (oc_sing σ y m d) K
theorem s_L_sing {l : Launch} {g : hG} (hst : l.stackTraces = false) : Ctr l g mL_sing (sp_L_sing g) := by
  refine Ctr.mk9 hst (by decide) ?_ ?_
  · rintro as M sz K ⟨h, A, ow, σ, τ, y, m, d, o, C, f, rfl, hH, hV, ry, rm, rd, hco, rfl, hK⟩
    exact ⟨by simp [mL_sing], cat_ok rfl⟩
  rintro X as M sz K hX rfl rfl hR ⟨h, A, ow, σ, τ, y, m, d, o, C, f, rfl, hH, hV, ry, rm, rd, hco, rfl, hK⟩
  show G X 0 [.ref h, .int (iZ y), .int (iZ m), .int (iZ d), .ref o, U9] [] (jn C (sg o f)) sz 0 0
  refine g_aload hX dL_sing_0 rfl rfl ?_
  refine g_const hX dL_sing_2 ?_
  refine g_aload hX dL_sing_3 rfl rfl ?_
  refine g_iload hX dL_sing_4 rfl ?_
  refine g_iload hX dL_sing_5 rfl ?_
  refine g_iload hX dL_sing_6 rfl ?_
  refine g_cVf (As := [.int (iZ y), .int (iZ m), .int (iZ d)]) (rest := [.int (iZ 0), .ref o]) (c2 := 8) (s2 := 241) hX (s_X9_sing hst) dL_sing_7 hH.ob rfl rfl (by first | exact Nat.le_of_ble_eq_true rfl | simp [cat_rf, Value.category]) ⟨rfl, rfl, by decide, by decide⟩ (sg_d hco) ?_
  refine ⟨h, A, ow, σ, τ, y, m, d, rfl, hH, hV, ry, rm, rd, fun A1 ow1 τ1 C1 s1 hH1 hV1 hd1 hs1 => ?_⟩
  have hco1 := sg_o hd1
  rcases ocr_sing σ y m d with h0 | h0 | h0
  · rw [res9_0 h0]
    refine Kc_i ?_
    refine g_i2l hX dL_sing_10 ?_
    refine g_last hX dL_sing_11 (jn_f (sg_s o f)) vin_0 ?_
    rw [jn_out]
    refine g_goto hX dL_sing_12 ?_
    refine g_const hX dL_sing_23 ?_
    refine g_iret hX hR dL_sing_24 rfl rfl (by decide) (by decide) ?_
    have h9 := hK A1 ow1 τ1 C1 s1 _ hH1 hV1 hco1 (fun _ => updL_0 f _)
    rw [h0] at h9
    exact h9
  · rw [res9_1 h0]
    refine Kc_x (gx_catch hX [] (0, 12, 15, 13) [(0, 12, 19, 15)] rfl (fun _ h9 => absurd h9 List.not_mem_nil) (by decide) (by decide) ⟨218, 229, by decide +kernel, by decide +kernel⟩ (fun q => ?_))
    refine g_astore hX dL_sing_15 rfl ?_
    dsimp only [List.set]
    refine g_const hX dL_sing_17 ?_
    refine g_iret hX hR dL_sing_18 rfl rfl (by decide) (by decide) ?_
    have h9 := hK A1 ow1 τ1 C1 s1 f hH1 hV1 hco1 (fun z => absurd (h0.symm.trans z) (by decide))
    rw [h0] at h9
    exact h9
  · rw [res9_2 h0]
    refine Kc_x (gx_catch hX [(0, 12, 15, 13)] (0, 12, 19, 15) [] rfl (List.forall_mem_cons.mpr ⟨⟨by decide, 218, "java/lang/IllegalArgumentException", by decide +kernel, List.mem_of_getElem? (i := 2) rfl⟩, fun _ h9 => absurd h9 List.not_mem_nil⟩) (by decide) (by decide) ⟨219, 298, by decide +kernel, by decide +kernel⟩ (fun q => ?_))
    refine g_astore hX dL_sing_19 rfl ?_
    dsimp only [List.set]
    refine g_const hX dL_sing_21 ?_
    refine g_iret hX hR dL_sing_22 rfl rfl (by decide) (by decide) ?_
    have h9 := hK A1 ow1 τ1 C1 s1 f hH1 hV1 hco1 (fun z => absurd (h0.symm.trans z) (by decide))
    rw [h0] at h9
    exact h9

def sp_L_service (g : hG) : hS := fun as M sz K => ∃ (h : Nat) (A : Nat → Nat → Nat) (ow : Nat → Nat × Nat) (σ : SG) (τ : Nat → Nat → Int) (a b : Int) (o : Nat) (C : hM) (f : Nat → Int64), as = [.ref h, .int (iZ a), .int (iZ b), .ref o] ∧ HX g.2.2.2.2 h A ow σ τ C ∧ SV σ ∧ inR a ∧ inR b ∧ C o = none ∧ M = jn C (sg o f) ∧ KL g.2.2.2.2 h o (oc_service σ a b) K
theorem s_L_service {l : Launch} {g : hG} (hst : l.stackTraces = false) : Ctr l g mL_service (sp_L_service g) := by
  refine Ctr.mk9 hst (by decide) ?_ ?_
  · rintro as M sz K ⟨h, A, ow, σ, τ, a, b, o, C, f, rfl, hH, hV, ra, rb, hco, rfl, hK⟩
    exact ⟨by simp [mL_service], cat_ok rfl⟩
  rintro X as M sz K hX rfl rfl hR ⟨h, A, ow, σ, τ, a, b, o, C, f, rfl, hH, hV, ra, rb, hco, rfl, hK⟩
  show G X 0 [.ref h, .int (iZ a), .int (iZ b), .ref o, U9] [] (jn C (sg o f)) sz 0 0
  refine g_aload hX dL_service_0 rfl rfl ?_
  refine g_const hX dL_service_1 ?_
  refine g_aload hX dL_service_2 rfl rfl ?_
  refine g_iload hX dL_service_3 rfl ?_
  refine g_iload hX dL_service_4 rfl ?_
  refine g_cVf (As := [.int (iZ a), .int (iZ b)]) (rest := [.int (iZ 0), .ref o]) (c2 := 2) (s2 := 12) hX (s_X9_service hst) dL_service_5 hH.ob rfl rfl (by first | exact Nat.le_of_ble_eq_true rfl | simp [cat_rf, Value.category]) ⟨rfl, rfl, by decide, by decide⟩ (sg_d hco) ?_
  refine ⟨h, A, ow, σ, τ, a, b, rfl, hH, hV, ra, rb, fun A1 ow1 τ1 C1 s1 hH1 hV1 hd1 hs1 => ?_⟩
  have hco1 := sg_o hd1
  rcases ocr_service σ a b with h0 | h0 | h0
  · rw [res9_0 h0]
    refine Kc_i ?_
    refine g_i2l hX dL_service_8 ?_
    refine g_last hX dL_service_9 (jn_f (sg_s o f)) vin_0 ?_
    rw [jn_out]
    refine g_goto hX dL_service_10 ?_
    refine g_const hX dL_service_21 ?_
    refine g_iret hX hR dL_service_22 rfl rfl (by decide) (by decide) ?_
    have h9 := hK A1 ow1 τ1 C1 s1 _ hH1 hV1 hco1 (fun _ => updL_0 f _)
    rw [h0] at h9
    exact h9
  · rw [res9_1 h0]
    refine Kc_x (gx_catch hX [] (0, 10, 13, 21) [(0, 10, 17, 13)] rfl (fun _ h9 => absurd h9 List.not_mem_nil) (by decide) (by decide) ⟨427, 441, by decide +kernel, by decide +kernel⟩ (fun q => ?_))
    refine g_astore hX dL_service_13 rfl ?_
    dsimp only [List.set]
    refine g_const hX dL_service_15 ?_
    refine g_iret hX hR dL_service_16 rfl rfl (by decide) (by decide) ?_
    have h9 := hK A1 ow1 τ1 C1 s1 f hH1 hV1 hco1 (fun z => absurd (h0.symm.trans z) (by decide))
    rw [h0] at h9
    exact h9
  · rw [res9_2 h0]
    refine Kc_x (gx_catch hX [(0, 10, 13, 21)] (0, 10, 17, 13) [] rfl (List.forall_mem_cons.mpr ⟨⟨by decide, 427, "java/lang/IndexOutOfBoundsException", by decide +kernel, List.mem_of_getElem? (i := 1) rfl⟩, fun _ h9 => absurd h9 List.not_mem_nil⟩) (by decide) (by decide) ⟨218, 229, by decide +kernel, by decide +kernel⟩ (fun q => ?_))
    refine g_astore hX dL_service_17 rfl ?_
    dsimp only [List.set]
    refine g_const hX dL_service_19 ?_
    refine g_iret hX hR dL_service_20 rfl rfl (by decide) (by decide) ?_
    have h9 := hK A1 ow1 τ1 C1 s1 f hH1 hV1 hco1 (fun z => absurd (h0.symm.trans z) (by decide))
    rw [h0] at h9
    exact h9

def sp_L_sung (g : hG) : hS := fun as M sz K => ∃ (h : Nat) (A : Nat → Nat → Nat) (ow : Nat → Nat × Nat) (σ : SG) (τ : Nat → Nat → Int) (a : Int) (o : Nat) (C : hM) (f : Nat → Int64), as = [.ref h, .int (iZ a), .ref o] ∧ HX g.2.2.2.2 h A ow σ τ C ∧ SV σ ∧ inR a ∧ C o = none ∧ M = jn C (sg o f) ∧ KL g.2.2.2.2 h o (oc_sung σ a) K
theorem s_L_sung {l : Launch} {g : hG} (hst : l.stackTraces = false) : Ctr l g mL_sung (sp_L_sung g) := by
  refine Ctr.mk9 hst (by decide) ?_ ?_
  · rintro as M sz K ⟨h, A, ow, σ, τ, a, o, C, f, rfl, hH, hV, ra, hco, rfl, hK⟩
    exact ⟨by simp [mL_sung], cat_ok rfl⟩
  rintro X as M sz K hX rfl rfl hR ⟨h, A, ow, σ, τ, a, o, C, f, rfl, hH, hV, ra, hco, rfl, hK⟩
  show G X 0 [.ref h, .int (iZ a), .ref o, U9] [] (jn C (sg o f)) sz 0 0
  refine g_aload hX dL_sung_0 rfl rfl ?_
  refine g_const hX dL_sung_1 ?_
  refine g_aload hX dL_sung_2 rfl rfl ?_
  refine g_iload hX dL_sung_3 rfl ?_
  refine g_cVf (As := [.int (iZ a)]) (rest := [.int (iZ 0), .ref o]) (c2 := 1) (s2 := 6) hX (s_X9_sung hst) dL_sung_4 hH.ob rfl rfl (by first | exact Nat.le_of_ble_eq_true rfl | simp [cat_rf, Value.category]) ⟨rfl, rfl, by decide, by decide⟩ (sg_d hco) ?_
  refine ⟨h, A, ow, σ, τ, a, rfl, hH, hV, ra, fun A1 ow1 τ1 C1 s1 hH1 hV1 hd1 hs1 => ?_⟩
  have hco1 := sg_o hd1
  rcases ocr_sung σ a with h0 | h0
  · rw [res9_0 h0]
    refine Kc_i ?_
    refine g_i2l hX dL_sung_7 ?_
    refine g_last hX dL_sung_8 (jn_f (sg_s o f)) vin_0 ?_
    rw [jn_out]
    refine g_goto hX dL_sung_9 ?_
    refine g_const hX dL_sung_15 ?_
    refine g_iret hX hR dL_sung_16 rfl rfl (by decide) (by decide) ?_
    have h9 := hK A1 ow1 τ1 C1 s1 _ hH1 hV1 hco1 (fun _ => updL_0 f _)
    rw [h0] at h9
    exact h9
  · rw [res9_1 h0]
    refine Kc_x (gx_catch hX [] (0, 9, 12, 21) [] rfl (fun _ h9 => absurd h9 List.not_mem_nil) (by decide) (by decide) ⟨427, 441, by decide +kernel, by decide +kernel⟩ (fun q => ?_))
    refine g_astore hX dL_sung_12 rfl ?_
    dsimp only [List.set]
    refine g_const hX dL_sung_13 ?_
    refine g_iret hX hR dL_sung_14 rfl rfl (by decide) (by decide) ?_
    have h9 := hK A1 ow1 τ1 C1 s1 f hH1 hV1 hco1 (fun z => absurd (h0.symm.trans z) (by decide))
    rw [h0] at h9
    exact h9
