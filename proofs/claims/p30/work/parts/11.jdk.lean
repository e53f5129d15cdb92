theorem dJ7_copyOf_1904c_3 : AtGC mJ7_copyOf_1904c 3 6 := ⟨86, 590, 822, 821, 591, 606, by decide +kernel, rfl, by decide +kernel, by decide +kernel, by decide +kernel, by decide +kernel, by decide +kernel, by decide, by decide⟩
theorem dJ7_copyOf_6403c_1 : AtLC mJ7_copyOf_6403c 1 3 := ⟨110, 610, by decide +kernel, rfl, by decide +kernel⟩
theorem dJ7_copyOf_6403c_35 : AtCP mJ7_copyOf_6403c 35 38 := ⟨150, 614, 616, 615, 53, by decide +kernel, rfl, by decide +kernel, by decide +kernel, by decide +kernel, by decide +kernel, by decide, by decide⟩
theorem hup_hup (M : hM) (a : Nat) (x y : hC) : hup (hup M a x) a y = hup M a y := by
  funext q
  unfold hup
  split <;> rfl
theorem hup_comm (M : hM) {a b : Nat} (x y : hC) (h : a ≠ b) : hup (hup M a x) b y = hup (hup M b y) a x := by
  funext q
  unfold hup
  by_cases h1 : q = b
  · rw [if_pos h1, if_neg (by rw [h1]; exact Ne.symm h), if_pos h1]
  · rw [if_neg h1, if_neg h1]
theorem z_shr1 {a : Int} (ha : inR a) (h : 0 ≤ a) : iZ a >>> (iZ 1 &&& 31) = iZ (a / 2) := by
  have h1 := pk_shr (iZ a) (iZ 1 &&& 31) 1 (by decide)
  rw [zt ha] at h1
  have h2 : inR (a / 2) := by unfold inR at *; omega
  rw [← Int32.toInt_inj, h1, zt h2]
  simp [Int.shiftRight_eq_div_pow]

theorem plain_int : plainName "java/lang/Integer" = true ∨ plainName "java/lang/Integer" = false := by cases plainName "java/lang/Integer" <;> simp
def AtMmin (d : hD) (pc n : Nat) : Prop := ∃ index i1 i2 i3 i4 : Nat, decode d.2.1 pc = .ok (.invokestatic index, 3) ∧ pc + 3 = n ∧ lw_tbl[i1]? = some (Cond.methodLink d.1.cls index Lib.Math.min.name) ∧ lw_tbl[i2]? = some (Cond.static Lib.Math.min.name) ∧ lw_tbl[i3]? = some (Cond.initialized "java/lang/Math") ∧ lw_tbl[i4]? = some (Cond.code Lib.Math.min.name Lib.Math.min.code 2 (some .int)) ∧ 1 ≤ d.2.2.2.2.1.frames ∧ 21 ≤ d.2.2.2.2.1.locals
theorem z_mmin {X : hX} {d : hD} {pc n : Nat} {lv st : List Value} {M : hM} {sz cs ss : Nat} {a b : Int} (hX : Cok X d) (h : AtMmin d pc n) (ha : inR a) (hb9 : inR b) (hw : (st.map fun v => v.category).sum ≤ 8) (hc : cs ≤ d.2.2.2.2.1.cells) (hs : ss ≤ d.2.2.2.2.1.slots) (kk : G X n lv (.int (iZ (if b < a then b else a)) :: st) M sz cs ss) : G X pc lv (.int (iZ b) :: .int (iZ a) :: st) M sz cs ss := by
  obtain ⟨⟨p, l, e, R, s, m, args, below⟩, meth, c, A, Q, g⟩ := X
  obtain ⟨hx, hb, hml, hown, hts, hKS, hAz, hAn, hst9, hlk, hrt, hnm, hR, hex⟩ := hX
  intro H locs ls hz hM hA hS hl
  obtain ⟨index, i1, i2, i3, i4, h1, rfl, e1, e2, e3, e4, hf, hlo⟩ := h
  have hR' : R = d.2.2.2.2.1 := hR
  refine va_mmin hx hb hl.1.symm hown (hts.at i1 e1 rfl) (hts.at i2 e2 rfl) (hts.at i3 e3 rfl) (hts.at i4 e4 rfl) (by rw [hR']; exact hf) (by show _ ≤ R.locals; rw [hR']; omega) (by rw [hR']; exact hc) (by rw [hR']; exact hs) h1 ?_
  have e : (if iZ b < iZ a then iZ b else iZ a) = iZ (if b < a then b else a) := by
    by_cases q : b < a
    · rw [if_pos q, if_pos ((z_lt hb9 ha).mpr q)]
    · rw [if_neg q, if_neg (fun z9 => q ((z_lt hb9 ha).mp z9))]
  rw [e]
  exact kk H locs ls hz hM hA hS hl
def AtMmax (d : hD) (pc n : Nat) : Prop := ∃ index i1 i2 i3 i4 : Nat, decode d.2.1 pc = .ok (.invokestatic index, 3) ∧ pc + 3 = n ∧ lw_tbl[i1]? = some (Cond.methodLink d.1.cls index Lib.Math.max.name) ∧ lw_tbl[i2]? = some (Cond.static Lib.Math.max.name) ∧ lw_tbl[i3]? = some (Cond.initialized "java/lang/Math") ∧ lw_tbl[i4]? = some (Cond.code Lib.Math.max.name Lib.Math.max.code 2 (some .int)) ∧ 1 ≤ d.2.2.2.2.1.frames ∧ 21 ≤ d.2.2.2.2.1.locals
theorem z_mmax {X : hX} {d : hD} {pc n : Nat} {lv st : List Value} {M : hM} {sz cs ss : Nat} {a b : Int} (hX : Cok X d) (h : AtMmax d pc n) (ha : inR a) (hb9 : inR b) (hw : (st.map fun v => v.category).sum ≤ 8) (hc : cs ≤ d.2.2.2.2.1.cells) (hs : ss ≤ d.2.2.2.2.1.slots) (kk : G X n lv (.int (iZ (if a < b then b else a)) :: st) M sz cs ss) : G X pc lv (.int (iZ b) :: .int (iZ a) :: st) M sz cs ss := by
  obtain ⟨⟨p, l, e, R, s, m, args, below⟩, meth, c, A, Q, g⟩ := X
  obtain ⟨hx, hb, hml, hown, hts, hKS, hAz, hAn, hst9, hlk, hrt, hnm, hR, hex⟩ := hX
  intro H locs ls hz hM hA hS hl
  obtain ⟨index, i1, i2, i3, i4, h1, rfl, e1, e2, e3, e4, hf, hlo⟩ := h
  have hR' : R = d.2.2.2.2.1 := hR
  refine va_mmax hx hb hl.1.symm hown (hts.at i1 e1 rfl) (hts.at i2 e2 rfl) (hts.at i3 e3 rfl) (hts.at i4 e4 rfl) (by rw [hR']; exact hf) (by show _ ≤ R.locals; rw [hR']; omega) (by rw [hR']; exact hc) (by rw [hR']; exact hs) h1 ?_
  have e : (if iZ a < iZ b then iZ b else iZ a) = iZ (if a < b then b else a) := by
    by_cases q : a < b
    · rw [if_pos q, if_pos ((z_lt ha hb9).mpr q)]
    · rw [if_neg q, if_neg (fun z9 => q ((z_lt ha hb9).mp z9))]
  rw [e]
  exact kk H locs ls hz hM hA hS hl
theorem dmX8_put_53 : AtMmin mX8_put 53 56 := ⟨70, 436, 437, 52, 438, by decide +kernel, rfl, by decide +kernel, by decide +kernel, by decide +kernel, by decide +kernel, by decide, by decide⟩
theorem dmX9_shift_62 : AtMmin mX9_shift 62 65 := ⟨140, 686, 437, 52, 438, by decide +kernel, rfl, by decide +kernel, by decide +kernel, by decide +kernel, by decide +kernel, by decide, by decide⟩
theorem dmJx4a65c_grow_92f84_49 : AtMmax mJx4a65c_grow_92f84 49 52 := ⟨79, 617, 581, 52, 582, by decide +kernel, rfl, by decide +kernel, by decide +kernel, by decide +kernel, by decide +kernel, by decide, by decide⟩
theorem dmJ7_copyOf_6403c_32 : AtMmin mJ7_copyOf_6403c 32 35 := ⟨304, 613, 437, 52, 438, by decide +kernel, rfl, by decide +kernel, by decide +kernel, by decide +kernel, by decide +kernel, by decide, by decide⟩
theorem dmJ8_newLength_cabcc_3 : AtMmax mJ8_newLength_cabcc 3 6 := ⟨194, 580, 581, 52, 582, by decide +kernel, rfl, by decide +kernel, by decide +kernel, by decide +kernel, by decide +kernel, by decide, by decide⟩
def sp_J3_checkIndex_8e157 : hS := fun as M sz K => ∃ (i n : Int) (v : Value), as = [.int (iZ i), .int (iZ n), v] ∧ (0 ≤ i ∧ i < n ∧ n ≤ 100000) ∧ v = .null ∧ K (.inl (some (.int (iZ i)))) M sz
theorem s_J3_checkIndex_8e157 {l : Launch} {g : hG} (hst : l.stackTraces = false) : Ctr l g mJ3_checkIndex_8e157 sp_J3_checkIndex_8e157 := by
  refine Ctr.mk9 hst (by decide) ?_ ?_
  · rintro as M sz K ⟨i, n, v, rfl, hi, rfl, hK⟩
    exact ⟨by simp [mJ3_checkIndex_8e157], cat_ok rfl⟩
  rintro X as M sz K hX rfl rfl hR ⟨i, n, v, rfl, hi, rfl, hK⟩
  show G X 0 [.int (iZ i), .int (iZ n), .null] [] M sz 0 0
  refine g_iload hX dJ3_checkIndex_8e157_0 rfl ?_
  refine z_if_lt hX dJ3_checkIndex_8e157_1 (by constructor <;> omega) (fun c1 => ?_) (fun c1 => ?_)
  · exfalso; omega
  · refine g_iload hX dJ3_checkIndex_8e157_4 rfl ?_
    refine g_iload hX dJ3_checkIndex_8e157_5 rfl ?_
    refine z_icmp_lt hX dJ3_checkIndex_8e157_6 (by constructor <;> omega) (by constructor <;> omega) (fun c6 => ?_) (fun c6 => ?_)
    · refine g_iload hX dJ3_checkIndex_8e157_16 rfl ?_
      refine g_iret hX hR dJ3_checkIndex_8e157_17 rfl rfl (by decide) (by decide) ?_
      exact hK
    · exfalso; omega

def sp_J15_checkIndex_7cf53 : hS := fun as M sz K => ∃ (i n : Int), as = [.int (iZ i), .int (iZ n)] ∧ (0 ≤ i ∧ i < n ∧ n ≤ 100000) ∧ K (.inl (some (.int (iZ i)))) M sz
theorem s_J15_checkIndex_7cf53 {l : Launch} {g : hG} (hst : l.stackTraces = false) : Ctr l g mJ15_checkIndex_7cf53 sp_J15_checkIndex_7cf53 := by
  refine Ctr.mk9 hst (by decide) ?_ ?_
  · rintro as M sz K ⟨i, n, rfl, hi, hK⟩
    exact ⟨by simp [mJ15_checkIndex_7cf53], cat_ok rfl⟩
  rintro X as M sz K hX rfl rfl hR ⟨i, n, rfl, hi, hK⟩
  show G X 0 [.int (iZ i), .int (iZ n)] [] M sz 0 0
  refine g_iload hX dJ15_checkIndex_7cf53_0 rfl ?_
  refine g_iload hX dJ15_checkIndex_7cf53_1 rfl ?_
  refine g_null hX dJ15_checkIndex_7cf53_2 ?_
  refine g_cS3 (c2 := 0) (s2 := 0) hX (s_J3_checkIndex_8e157 hst) dJ15_checkIndex_7cf53_3 (by first | exact Nat.le_of_ble_eq_true rfl | simp [cat_rf, Value.category]) ⟨rfl, rfl, by decide, by decide⟩ ?_
  refine ⟨_, _, _, rfl, hi, rfl, Kc_i ?_⟩
  refine g_iret hX hR dJ15_checkIndex_7cf53_6 rfl rfl (by decide) (by decide) ?_
  exact hK

/-- a list: its object, its row, how many, which -/
def LSt (aD : Nat) (M : hM) (a ea : Nat) (n : Nat) (f : Nat → Nat) : Prop := ∃ mod : Int, M a = some (.inl (0, [.int (iZ mod), .ref ea, .int (iZ (n : Int))])) ∧ ((n = 0 ∧ ea = aD) ∨ ∃ (len : Nat) (f' : Nat → Option Nat), M ea = some (.inr (3, len, .inr (.inr f'))) ∧ 10 ≤ len ∧ len ≤ 100 ∧ n ≤ len ∧ ∀ i, i < n → f' i = some (f i))
theorem LSt.congr {aD : Nat} {M : hM} {a ea n : Nat} {f f2 : Nat → Nat} (h : LSt aD M a ea n f) (e : ∀ i, i < n → f i = f2 i) : LSt aD M a ea n f2 := by
  obtain ⟨mod, h1, h2 | ⟨len, f', h2, h3, h4, h5, h6⟩⟩ := h
  · exact ⟨mod, h1, Or.inl h2⟩
  · exact ⟨mod, h1, Or.inr ⟨len, f', h2, h3, h4, h5, fun i hi => by rw [← e i hi]; exact h6 i hi⟩⟩
theorem LSt.kept {aD : Nat} {M M' : hM} {a ea n : Nat} {f : Nat → Nat} (h : LSt aD M a ea n f) (h1 : M' a = M a) (h2 : M' ea = M ea) : LSt aD M' a ea n f := by
  obtain ⟨mod, g1, g2 | ⟨len, f', g2, g3⟩⟩ := h
  · exact ⟨mod, by rw [h1]; exact g1, Or.inl g2⟩
  · exact ⟨mod, by rw [h1]; exact g1, Or.inr ⟨len, f', by rw [h2]; exact g2, g3⟩⟩

def sp_Jx4a65c_elementData_915e3 : hS := fun as M sz K => ∃ (a ea len n : Nat) (i : Int) (v w : Value) (f' : Nat → Option Nat) (f : Nat → Nat), as = [.ref a, .int (iZ i)] ∧ M a = some (.inl (0, [v, .ref ea, w])) ∧ M ea = some (.inr (3, len, .inr (.inr f'))) ∧ (0 ≤ i ∧ i < n ∧ n ≤ len ∧ len ≤ 100) ∧ (∀ i, i < n → f' i = some (f i)) ∧ K (.inl (some (.ref (f i.toNat)))) M sz
theorem s_Jx4a65c_elementData_915e3 {l : Launch} {g : hG} (hst : l.stackTraces = false) : Ctr l g mJx4a65c_elementData_915e3 sp_Jx4a65c_elementData_915e3 := by
  refine Ctr.mk9 hst (by decide) ?_ ?_
  · rintro as M sz K ⟨a, ea, len, n, i, v, w, f', f, rfl, hm, hea, hi, hf, hK⟩
    exact ⟨by simp [mJx4a65c_elementData_915e3], cat_ok rfl⟩
  rintro X as M sz K hX rfl rfl hR ⟨a, ea, len, n, i, v, w, f', f, rfl, hm, hea, hi, hf, hK⟩
  show G X 0 [.ref a, .int (iZ i)] [] M sz 0 0
  refine g_aload hX dJx4a65c_elementData_915e3_0 rfl rfl ?_
  refine g_get hX dJx4a65c_elementData_915e3_1 (by assumption) rfl ?_
  refine g_iload hX dJx4a65c_elementData_915e3_4 rfl ?_
  refine z_aald hX dJx4a65c_elementData_915e3_5 hea (by omega) (by omega) (by omega) (hf i.toNat (by omega)) ?_
  refine g_aret hX hR dJx4a65c_elementData_915e3_6 rfl (by first | exact Or.inl ⟨_, rfl⟩ | exact Or.inr ⟨_, rfl⟩) (by first | rfl | exact isRefV_rf _) (by decide) (by decide) ?_
  exact hK

def sp_Jx4a65c_get_915e3 : hS := fun as M sz K => ∃ (aD a ea n : Nat) (i : Int) (f : Nat → Nat), as = [.ref a, .int (iZ i)] ∧ LSt aD M a ea n f ∧ (0 ≤ i ∧ i < n) ∧ K (.inl (some (.ref (f i.toNat)))) M sz
theorem s_Jx4a65c_get_915e3 {l : Launch} {g : hG} (hst : l.stackTraces = false) : Ctr l g mJx4a65c_get_915e3 sp_Jx4a65c_get_915e3 := by
  refine Ctr.mk9 hst (by decide) ?_ ?_
  · rintro as M sz K ⟨aD, a, ea, n, i, f, rfl, hL, hi, hK⟩
    exact ⟨by simp [mJx4a65c_get_915e3], cat_ok rfl⟩
  rintro X as M sz K hX rfl rfl hR ⟨aD, a, ea, n, i, f, rfl, hL, hi, hK⟩
  show G X 0 [.ref a, .int (iZ i)] [] M sz 0 0
  obtain ⟨mod, hm, h0 | ⟨len, f', hea, hl1, hl2, hl3, hf⟩⟩ := hL
  · omega
  refine g_iload hX dJx4a65c_get_915e3_0 rfl ?_
  refine g_aload hX dJx4a65c_get_915e3_1 rfl rfl ?_
  refine g_get hX dJx4a65c_get_915e3_2 (by assumption) rfl ?_
  refine g_cS2 (c2 := 0) (s2 := 0) hX (s_J15_checkIndex_7cf53 hst) dJx4a65c_get_915e3_5 (by first | exact Nat.le_of_ble_eq_true rfl | simp [cat_rf, Value.category]) ⟨rfl, rfl, by decide, by decide⟩ ?_
  refine ⟨_, _, rfl, by omega, Kc_i ?_⟩
  refine g_pop hX dJx4a65c_get_915e3_8 rfl ?_
  refine g_aload hX dJx4a65c_get_915e3_9 rfl rfl ?_
  refine g_iload hX dJx4a65c_get_915e3_10 rfl ?_
  refine g_cV1 (c2 := 0) (s2 := 0) hX (s_Jx4a65c_elementData_915e3 hst) dJx4a65c_get_915e3_11 (by assumption) (by first | exact Nat.le_of_ble_eq_true rfl | simp [cat_rf, Value.category]) ⟨rfl, rfl, by decide, by decide⟩ ?_
  refine ⟨_, _, _, _, _, _, _, _, f, rfl, hm, hea, ⟨hi.1, hi.2, hl3, hl2⟩, hf, Kc_i ?_⟩
  refine g_aret hX hR dJx4a65c_get_915e3_14 rfl (by first | exact Or.inl ⟨_, rfl⟩ | exact Or.inr ⟨_, rfl⟩) (by first | rfl | exact isRefV_rf _) (by decide) (by decide) ?_
  exact hK

def sp_Jx4a65c_size_8abf5 : hS := fun as M sz K => ∃ (aD a ea n : Nat) (f : Nat → Nat), as = [.ref a] ∧ LSt aD M a ea n f ∧ K (.inl (some (.int (iZ (n : Int))))) M sz
theorem s_Jx4a65c_size_8abf5 {l : Launch} {g : hG} (hst : l.stackTraces = false) : Ctr l g mJx4a65c_size_8abf5 sp_Jx4a65c_size_8abf5 := by
  refine Ctr.mk9 hst (by decide) ?_ ?_
  · rintro as M sz K ⟨aD, a, ea, n, f, rfl, hL, hK⟩
    exact ⟨by simp [mJx4a65c_size_8abf5], cat_ok rfl⟩
  rintro X as M sz K hX rfl rfl hR ⟨aD, a, ea, n, f, rfl, hL, hK⟩
  show G X 0 [.ref a] [] M sz 0 0
  obtain ⟨mod, hm, -⟩ := hL
  refine g_aload hX dJx4a65c_size_8abf5_0 rfl rfl ?_
  refine g_get hX dJx4a65c_size_8abf5_1 (by assumption) rfl ?_
  refine g_iret hX hR dJx4a65c_size_8abf5_4 rfl rfl (by decide) (by decide) ?_
  exact hK

def sp_Jx4a65c_isEmpty_aae02 : hS := fun as M sz K => ∃ (aD a ea n : Nat) (f : Nat → Nat), as = [.ref a] ∧ LSt aD M a ea n f ∧ n ≤ 100 ∧ K (.inl (some (.int (iZ (bZ ((n : Int) = 0)))))) M sz
theorem s_Jx4a65c_isEmpty_aae02 {l : Launch} {g : hG} (hst : l.stackTraces = false) : Ctr l g mJx4a65c_isEmpty_aae02 sp_Jx4a65c_isEmpty_aae02 := by
  refine Ctr.mk9 hst (by decide) ?_ ?_
  · rintro as M sz K ⟨aD, a, ea, n, f, rfl, hL, hn, hK⟩
    exact ⟨by simp [mJx4a65c_isEmpty_aae02], cat_ok rfl⟩
  rintro X as M sz K hX rfl rfl hR ⟨aD, a, ea, n, f, rfl, hL, hn, hK⟩
  show G X 0 [.ref a] [] M sz 0 0
  obtain ⟨mod, hm, -⟩ := hL
  refine g_aload hX dJx4a65c_isEmpty_aae02_0 rfl rfl ?_
  refine g_get hX dJx4a65c_isEmpty_aae02_1 (by assumption) rfl ?_
  refine z_if_ne hX dJx4a65c_isEmpty_aae02_4 (by constructor <;> omega) (fun c4 => ?_) (fun c4 => ?_)
  · refine g_const hX dJx4a65c_isEmpty_aae02_11 ?_
    refine g_iret hX hR dJx4a65c_isEmpty_aae02_12 rfl (by first | rfl | exact nar_b _ | exact nar_01 (by omega)) (by decide) (by decide) ?_
    exact kint hK (by unfold bZ; split <;> omega)
  · refine g_const hX dJx4a65c_isEmpty_aae02_7 ?_
    refine g_goto hX dJx4a65c_isEmpty_aae02_8 ?_
    refine g_iret hX hR dJx4a65c_isEmpty_aae02_12 rfl (by first | rfl | exact nar_b _ | exact nar_01 (by omega)) (by decide) (by decide) ?_
    exact kint hK (by unfold bZ; split <;> omega)

def sp_J8_newLength_cabcc : hS := fun as M sz K => ∃ (a b c : Int), as = [.int (iZ a), .int (iZ b), .int (iZ c)] ∧ (0 ≤ a ∧ a ≤ 100000 ∧ 1 ≤ b ∧ b ≤ 100000 ∧ 0 ≤ c ∧ c ≤ 100000) ∧ K (.inl (some (.int (iZ (a + if b < c then c else b))))) M sz
theorem s_J8_newLength_cabcc {l : Launch} {g : hG} (hst : l.stackTraces = false) : Ctr l g mJ8_newLength_cabcc sp_J8_newLength_cabcc := by
  refine Ctr.mk9 hst (by decide) ?_ ?_
  · rintro as M sz K ⟨a, b, c, rfl, h, hK⟩
    exact ⟨by simp [mJ8_newLength_cabcc], cat_ok rfl⟩
  rintro X as M sz K hX rfl rfl hR ⟨a, b, c, rfl, h, hK⟩
  show G X 0 [.int (iZ a), .int (iZ b), .int (iZ c), U9] [] M sz 0 0
  refine g_iload hX dJ8_newLength_cabcc_0 rfl ?_
  refine g_iload hX dJ8_newLength_cabcc_1 rfl ?_
  refine g_iload hX dJ8_newLength_cabcc_2 rfl ?_
  refine z_mmax hX dmJ8_newLength_cabcc_3 (by constructor <;> omega) (by constructor <;> omega) (by first | exact Nat.le_of_ble_eq_true rfl | simp [cat_rf, Value.category]) (by decide) (by decide) ?_
  have hmx : (if b < c then c else b) ≤ 100000 ∧ 1 ≤ (if b < c then c else b) := by split <;> omega
  refine z_iadd hX dJ8_newLength_cabcc_6 ?_
  refine g_istore hX dJ8_newLength_cabcc_7 ?_
  dsimp only [List.set]
  refine g_const hX dJ8_newLength_cabcc_8 ?_
  refine g_iload hX dJ8_newLength_cabcc_9 rfl ?_
  refine z_icmp_ge hX dJ8_newLength_cabcc_10 (by constructor <;> omega) (by constructor <;> omega) (fun c10 => ?_) (fun c10 => ?_)
  · exfalso; omega
  · refine g_iload hX dJ8_newLength_cabcc_13 rfl ?_
    refine g_const hX dJ8_newLength_cabcc_14 ?_
    refine z_icmp_gt hX dJ8_newLength_cabcc_16 (by constructor <;> omega) (by constructor <;> omega) (fun c16 => ?_) (fun c16 => ?_)
    · exfalso; omega
    · refine g_iload hX dJ8_newLength_cabcc_19 rfl ?_
      refine g_iret hX hR dJ8_newLength_cabcc_20 rfl rfl (by decide) (by decide) ?_
      exact hK

def sp_J7_fill_53178 : hS := fun as M sz K => ∃ (a len : Nat) (v : Int) (f0 : Nat → Int32), as = [.ref a, .int (iZ v)] ∧ M a = some (.inr (0, len, .inl f0)) ∧ len ≤ 1000 ∧ K (.inl none) (hup M a (.inr (0, len, .inl (fun _ => iZ v)))) sz
theorem s_J7_fill_53178 {l : Launch} {g : hG} (hst : l.stackTraces = false) : Ctr l g mJ7_fill_53178 sp_J7_fill_53178 := by
  refine Ctr.mk9 hst (by decide) ?_ ?_
  · rintro as M sz K ⟨a, len, v, f0, rfl, hm, hlen, hK⟩
    exact ⟨by simp [mJ7_fill_53178], cat_ok rfl⟩
  rintro X as M sz K hX rfl rfl hR ⟨a, len, v, f0, rfl, hm, hlen, hK⟩
  show G X 0 [.ref a, .int (iZ v), U9, U9] [] M sz 0 0
  have loop : ∀ (k9 i : Nat) (f : Nat → Int32), i + k9 = len → (∀ k, k < i → f k = iZ v) → G X 5 [.ref a, .int (iZ v), .int (iZ (i : Int)), .int (iZ (len : Int))] [] (hup M a (.inr (0, len, .inl f))) sz 0 0 := by
    intro k9
    induction k9 with
    | zero =>
      intro i f hi hf
      refine g_iload hX dJ7_fill_53178_5 rfl ?_
      refine g_iload hX dJ7_fill_53178_6 rfl ?_
      refine z_icmp_ge hX dJ7_fill_53178_7 (by constructor <;> omega) (by constructor <;> omega) (fun c7 => ?_) (fun c7 => ?_)
      · refine g_ext (f' := fun _ => iZ v) (hup_s _ _ _) (fun k hk => hf k (by omega)) ?_
        refine g_vret hX hR dJ7_fill_53178_20 rfl (by decide) (by decide) ?_
        rw [hup_hup]; exact hK
      · exfalso; omega
    | succ k9 ih =>
      intro i f hi hf
      refine g_iload hX dJ7_fill_53178_5 rfl ?_
      refine g_iload hX dJ7_fill_53178_6 rfl ?_
      refine z_icmp_ge hX dJ7_fill_53178_7 (by constructor <;> omega) (by constructor <;> omega) (fun c7 => ?_) (fun c7 => ?_)
      · exfalso; omega
      · refine g_aload hX dJ7_fill_53178_10 rfl rfl ?_
        refine g_iload hX dJ7_fill_53178_11 rfl ?_
        refine g_iload hX dJ7_fill_53178_12 rfl ?_
        refine z_iast hX dJ7_fill_53178_13 (hup_s _ _ _) (by omega) (by omega) (by omega) ?_
        refine z_iinc hX dJ7_fill_53178_14 rfl ?_
        dsimp only [List.set]
        refine g_goto hX dJ7_fill_53178_17 ?_
        rw [hup_hup]
        exact ih (i + 1) _ (by omega) (fun k hk => by
          unfold upd
          by_cases e : k = (i : Int).toNat
          · rw [if_pos e]
          · rw [if_neg e]; exact hf k (by omega))
  refine g_const hX dJ7_fill_53178_0 ?_
  refine g_istore hX dJ7_fill_53178_1 ?_
  dsimp only [List.set]
  refine g_aload hX dJ7_fill_53178_2 rfl rfl ?_
  refine z_alen hX dJ7_fill_53178_3 hm (by decide) ?_
  dsimp only
  refine g_istore hX dJ7_fill_53178_4 ?_
  dsimp only [List.set]
  have h9 := loop len 0 f0 (by omega) (fun k hk => absurd hk (Nat.not_lt_zero k))
  rw [show hup M a (.inr (0, len, .inl f0)) = M from by
    funext q
    unfold hup
    split
    · rename_i e; rw [e]; exact hm.symm
    · rfl] at h9
  exact h9
