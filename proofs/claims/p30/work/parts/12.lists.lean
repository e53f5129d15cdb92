/-! lists that grow, and the count of bits -/
def ush9 (x : Int32) (k : Int) : Int32 := (x.toUInt32 >>> ((iZ k).toUInt32 &&& Int32.toUInt32 31)).toInt32
def bc1 (x : Int32) : Int32 := x - (ush9 x 1 &&& iZ 1431655765)
def bc2 (x : Int32) : Int32 := (bc1 x &&& iZ 858993459) + (ush9 (bc1 x) 2 &&& iZ 858993459)
def bc3 (x : Int32) : Int32 := (bc2 x + ush9 (bc2 x) 4) &&& iZ 252645135
def bc4 (x : Int32) : Int32 := bc3 x + ush9 (bc3 x) 8
def bc5 (x : Int32) : Int32 := bc4 x + ush9 (bc4 x) 16
def bcE (x : Int32) : Int32 := bc5 x &&& iZ 63
def popK (m : Nat) : Nat → Nat
  | 0 => 0
  | s + 1 => popK m s + m / 2 ^ s % 2
def popN (m : Nat) : Nat := popK m 12
set_option maxRecDepth 100000 in
theorem bc_pop : ∀ m : Nat, m < 4096 → bcE (iZ (m : Int)) = iZ ((popN m : Nat) : Int) := by decide +kernel

def sp_J6_bitCount_0f7a4 : hS := fun as M sz K => ∃ m : Nat, as = [.int (iZ (m : Int))] ∧ m < 4096 ∧ K (.inl (some (.int (iZ ((popN m : Nat) : Int))))) M sz
theorem s_J6_bitCount_0f7a4 {l : Launch} {g : hG} (hst : l.stackTraces = false) : Ctr l g mJ6_bitCount_0f7a4 sp_J6_bitCount_0f7a4 := by
  refine Ctr.mk9 hst (by decide) ?_ ?_
  · rintro as M sz K ⟨m, rfl, hm, hK⟩
    exact ⟨by simp [mJ6_bitCount_0f7a4], cat_ok rfl⟩
  rintro X as M sz K hX rfl rfl hR ⟨m, rfl, hm, hK⟩
  show G X 0 [.int (iZ (m : Int))] [] M sz 0 0
  rw [← bc_pop m hm] at hK
  refine g_iload hX dJ6_bitCount_0f7a4_0 rfl ?_
  refine g_iload hX dJ6_bitCount_0f7a4_1 rfl ?_
  refine g_const hX dJ6_bitCount_0f7a4_2 ?_
  refine g_iushr hX dJ6_bitCount_0f7a4_3 ?_
  refine g_const hX dJ6_bitCount_0f7a4_4 ?_
  refine g_iand hX dJ6_bitCount_0f7a4_7 ?_
  refine g_isub hX dJ6_bitCount_0f7a4_8 ?_
  refine g_istore hX dJ6_bitCount_0f7a4_9 ?_
  dsimp only [List.set]
  refine g_iload hX dJ6_bitCount_0f7a4_10 rfl ?_
  refine g_const hX dJ6_bitCount_0f7a4_11 ?_
  refine g_iand hX dJ6_bitCount_0f7a4_14 ?_
  refine g_iload hX dJ6_bitCount_0f7a4_15 rfl ?_
  refine g_const hX dJ6_bitCount_0f7a4_16 ?_
  refine g_iushr hX dJ6_bitCount_0f7a4_17 ?_
  refine g_const hX dJ6_bitCount_0f7a4_18 ?_
  refine g_iand hX dJ6_bitCount_0f7a4_21 ?_
  refine g_iadd hX dJ6_bitCount_0f7a4_22 ?_
  refine g_istore hX dJ6_bitCount_0f7a4_23 ?_
  dsimp only [List.set]
  refine g_iload hX dJ6_bitCount_0f7a4_24 rfl ?_
  refine g_iload hX dJ6_bitCount_0f7a4_25 rfl ?_
  refine g_const hX dJ6_bitCount_0f7a4_26 ?_
  refine g_iushr hX dJ6_bitCount_0f7a4_27 ?_
  refine g_iadd hX dJ6_bitCount_0f7a4_28 ?_
  refine g_const hX dJ6_bitCount_0f7a4_29 ?_
  refine g_iand hX dJ6_bitCount_0f7a4_32 ?_
  refine g_istore hX dJ6_bitCount_0f7a4_33 ?_
  dsimp only [List.set]
  refine g_iload hX dJ6_bitCount_0f7a4_34 rfl ?_
  refine g_iload hX dJ6_bitCount_0f7a4_35 rfl ?_
  refine g_const hX dJ6_bitCount_0f7a4_36 ?_
  refine g_iushr hX dJ6_bitCount_0f7a4_38 ?_
  refine g_iadd hX dJ6_bitCount_0f7a4_39 ?_
  refine g_istore hX dJ6_bitCount_0f7a4_40 ?_
  dsimp only [List.set]
  refine g_iload hX dJ6_bitCount_0f7a4_41 rfl ?_
  refine g_iload hX dJ6_bitCount_0f7a4_42 rfl ?_
  refine g_const hX dJ6_bitCount_0f7a4_43 ?_
  refine g_iushr hX dJ6_bitCount_0f7a4_45 ?_
  refine g_iadd hX dJ6_bitCount_0f7a4_46 ?_
  refine g_istore hX dJ6_bitCount_0f7a4_47 ?_
  dsimp only [List.set]
  refine g_iload hX dJ6_bitCount_0f7a4_48 rfl ?_
  refine g_const hX dJ6_bitCount_0f7a4_49 ?_
  refine g_iand hX dJ6_bitCount_0f7a4_51 ?_
  refine g_iret hX hR dJ6_bitCount_0f7a4_52 rfl rfl (by decide) (by decide) ?_
  exact hK

/-- an object that a row of objects may hold -/
def CST (M : hM) (y : Nat) : Prop := ∃ (ci j : Nat) (fs : List Value) (q : vw_C), M y = some (.inl (ci, fs)) ∧ cls9[ci]? = some q ∧ lw_tbl[j]? = some (Cond.castable q.1 "java/lang/Object")
theorem CST.kept {M M' : hM} {y : Nat} (h : CST M y) (e : M' y = M y) : CST M' y := by
  obtain ⟨ci, j, fs, q, h1, h2⟩ := h
  exact ⟨ci, j, fs, q, by rw [e]; exact h1, h2⟩

def sp_J7_copyOf_6403c (g : hG) : hS := fun as M sz K => ∃ (a len N : Nat) (f : Nat → Option Nat), as = [.ref a, .int (iZ (N : Int)), .ref (g.1.2 99 0)] ∧ M a = some (.inr (3, len, .inr (.inr f))) ∧ (len ≤ N ∧ N ≤ 200) ∧ (∀ i, i < len → ∀ y, f i = some y → CST M y) ∧ K (.inl (some (.ref sz))) (hup M sz (.inr (3, N, .inr (.inr (fun k => if k < len then f k else none))))) (sz + 1)
theorem s_J7_copyOf_6403c {l : Launch} {g : hG} (hst : l.stackTraces = false) : Ctr l g mJ7_copyOf_6403c (sp_J7_copyOf_6403c g) := by
  refine Ctr.mk9 hst (by decide) ?_ ?_
  · rintro as M sz K ⟨a, len, N, f, rfl, hm, hN, hc, hK⟩
    exact ⟨by simp [mJ7_copyOf_6403c], cat_ok rfl⟩
  rintro X as M sz K hX rfl rfl hR ⟨a, len, N, f, rfl, hm, hN, hc, hK⟩
  show G X 0 [.ref a, .int (iZ (N : Int)), .ref (X.2.2.2.2.2.1.2 99 0), U9] [] M sz 0 0
  refine g_dom hX (fun hdom => ?_)
  refine g_aload hX dJ7_copyOf_6403c_0 rfl rfl ?_
  refine g_ldcM hX dJ7_copyOf_6403c_1 ?_
  refine g_acmp_ne (rx := some _) (ry := some _) hX dJ7_copyOf_6403c_3 rfl rfl (fun c3 => ?_) (fun c3 => ?_)
  · exact absurd rfl c3
  · refine g_iload hX dJ7_copyOf_6403c_6 rfl ?_
    refine g_newq hX dJ7_copyOf_6403c_7 (N := N) rfl (by omega) (by decide) (by show 0 + N ≤ 200; omega) ?_
    refine g_wide (k1 := 1) (n1 := 200) (by decide) (by omega) ?_
    have hne : ∀ (q : Nat) (x : hC), M q = some x → q ≠ sz := fun q x h9 e => by have := (hdom q x h9).1; omega
    have hm1 : hup M sz (.inr (3, N, .inr (.inr (fun _ => none)))) a = some (.inr (3, len, .inr (.inr f))) := by rw [hup_n _ _ (hne a _ hm)]; exact hm
    refine g_goto hX dJ7_copyOf_6403c_10 ?_
    refine g_astore hX dJ7_copyOf_6403c_24 rfl ?_
    dsimp only [List.set]
    refine g_aload hX dJ7_copyOf_6403c_25 rfl rfl ?_
    refine g_const hX dJ7_copyOf_6403c_26 ?_
    refine g_aload hX dJ7_copyOf_6403c_27 rfl rfl ?_
    refine g_const hX dJ7_copyOf_6403c_28 ?_
    refine g_aload hX dJ7_copyOf_6403c_29 rfl rfl ?_
    refine z_alen hX dJ7_copyOf_6403c_30 (by assumption) (by decide) ?_
    dsimp only
    refine g_iload hX dJ7_copyOf_6403c_31 rfl ?_
    refine z_mmin hX dmJ7_copyOf_6403c_32 (by constructor <;> omega) (by constructor <;> omega) (by first | exact Nat.le_of_ble_eq_true rfl | simp [cat_rf, Value.category]) (by decide) (by decide) ?_
    rw [if_neg (by omega)]
    refine g_acopy hX dJ7_copyOf_6403c_35 hm1 (hup_s _ _ _) (by omega) (by omega) (by omega) (by omega) (fun i hi y hy => ?_) ?_
    · obtain ⟨ci, j, fs, q, h1, h2⟩ := hc i hi y hy
      exact ⟨ci, j, fs, q, by rw [hup_n _ _ (hne y _ h1)]; exact h1, h2⟩
    refine g_aload hX dJ7_copyOf_6403c_38 rfl rfl ?_
    refine g_aret hX hR dJ7_copyOf_6403c_39 rfl (by first | exact Or.inl ⟨_, rfl⟩ | exact Or.inr ⟨_, rfl⟩) (by first | rfl | exact isRefV_rf _) (by decide) (by decide) ?_
    rw [hup_hup]; exact hK

def sp_J7_copyOf_1904c : hS := fun as M sz K => ∃ (a len N : Nat) (f : Nat → Option Nat), as = [.ref a, .int (iZ (N : Int))] ∧ M a = some (.inr (3, len, .inr (.inr f))) ∧ (len ≤ N ∧ N ≤ 200) ∧ (∀ i, i < len → ∀ y, f i = some y → CST M y) ∧ K (.inl (some (.ref sz))) (hup M sz (.inr (3, N, .inr (.inr (fun k => if k < len then f k else none))))) (sz + 1)
theorem s_J7_copyOf_1904c {l : Launch} {g : hG} (hst : l.stackTraces = false) : Ctr l g mJ7_copyOf_1904c sp_J7_copyOf_1904c := by
  refine Ctr.mk9 hst (by decide) ?_ ?_
  · rintro as M sz K ⟨a, len, N, f, rfl, hm, hN, hc, hK⟩
    exact ⟨by simp [mJ7_copyOf_1904c], cat_ok rfl⟩
  rintro X as M sz K hX rfl rfl hR ⟨a, len, N, f, rfl, hm, hN, hc, hK⟩
  show G X 0 [.ref a, .int (iZ (N : Int))] [] M sz 0 0
  refine g_aload hX dJ7_copyOf_1904c_0 rfl rfl ?_
  refine g_iload hX dJ7_copyOf_1904c_1 rfl ?_
  refine g_aload hX dJ7_copyOf_1904c_2 rfl rfl ?_
  refine g_getC hX dJ7_copyOf_1904c_3 hm (by first | exact Nat.le_of_ble_eq_true rfl | simp [cat_rf, Value.category]) ?_
  refine g_cS3 (c2 := 1) (s2 := 200) hX (s_J7_copyOf_6403c hst) dJ7_copyOf_1904c_6 (by first | exact Nat.le_of_ble_eq_true rfl | simp [cat_rf, Value.category]) ⟨rfl, rfl, by decide, by decide⟩ ?_
  refine ⟨_, _, _, _, rfl, hm, hN, hc, Kc_i ?_⟩
  refine g_aret hX hR dJ7_copyOf_1904c_9 rfl (by first | exact Or.inl ⟨_, rfl⟩ | exact Or.inr ⟨_, rfl⟩) (by first | rfl | exact isRefV_rf _) (by decide) (by decide) ?_
  exact hK

def sp_Jx4a65c_grow_92f84 (g : hG) : hS := fun as M sz K => ∃ (a ea len : Nat) (mn : Int) (v0 v2 : Value) (f : Nat → Option Nat), as = [.ref a, .int (iZ mn)] ∧
  ((ea = g.2.2.2.2 ∧ (1 ≤ mn ∧ mn ≤ 10) ∧ M a = some (.inl (0, [v0, .ref ea, v2])) ∧ K (.inl (some (.ref sz))) (hup (hup M sz (.inr (3, 10, .inr (.inr (fun _ => none))))) a (.inl (0, [v0, .ref sz, v2]))) (sz + 1)) ∨
   (M a = some (.inl (0, [v0, .ref ea, v2])) ∧ M ea = some (.inr (3, len, .inr (.inr f))) ∧ (10 ≤ len ∧ len ≤ 100 ∧ mn = len + 1) ∧ (∀ i, i < len → ∀ y, f i = some y → CST M y) ∧ K (.inl (some (.ref sz))) (hup (hup M sz (.inr (3, len + len / 2, .inr (.inr (fun k => if k < len then f k else none))))) a (.inl (0, [v0, .ref sz, v2]))) (sz + 1)))
theorem s_Jx4a65c_grow_92f84 {l : Launch} {g : hG} (hst : l.stackTraces = false) : Ctr l g mJx4a65c_grow_92f84 (sp_Jx4a65c_grow_92f84 g) := by
  refine Ctr.mk9 hst (by decide) ?_ ?_
  · rintro as M sz K ⟨a, ea, len, mn, v0, v2, f, rfl, h9⟩
    exact ⟨by simp [mJx4a65c_grow_92f84], cat_ok rfl⟩
  rintro X as M sz K hX rfl rfl hR ⟨a, ea, len, mn, v0, v2, f, rfl, h9⟩
  show G X 0 [.ref a, .int (iZ mn), U9, U9] [] M sz 0 0
  refine g_dom hX (fun hdom => ?_)
  rcases h9 with ⟨rfl, hmn, hm, hK⟩ | ⟨hm, hea, hl, hc, hK⟩
  · skip
    refine g_aload hX dJx4a65c_grow_92f84_0 rfl rfl ?_
    refine g_get hX dJx4a65c_grow_92f84_1 (by assumption) rfl ?_
    refine z_alenD hX dJx4a65c_grow_92f84_4 ?_
    refine g_istore hX dJx4a65c_grow_92f84_5 ?_
    dsimp only [List.set]
    refine g_iload hX dJx4a65c_grow_92f84_6 rfl ?_
    refine z_if_gt hX dJx4a65c_grow_92f84_7 (by constructor <;> omega) (fun c7 => ?_) (fun c7 => ?_)
    · first | (exfalso; omega) | exact absurd rfl c17
    · refine g_aload hX dJx4a65c_grow_92f84_10 rfl rfl ?_
      refine g_get hX dJx4a65c_grow_92f84_11 (by assumption) rfl ?_
      refine g_getsD hX dJx4a65c_grow_92f84_14 ?_
      refine g_acmp_eq (rx := some _) (ry := some _) hX dJx4a65c_grow_92f84_17 rfl rfl (fun c17 => ?_) (fun c17 => ?_)
      · refine g_aload hX dJx4a65c_grow_92f84_45 rfl rfl ?_
        refine g_const hX dJx4a65c_grow_92f84_46 ?_
        refine g_iload hX dJx4a65c_grow_92f84_48 rfl ?_
        refine z_mmax hX dmJx4a65c_grow_92f84_49 (by constructor <;> omega) (by constructor <;> omega) (by first | exact Nat.le_of_ble_eq_true rfl | simp [cat_rf, Value.category]) (by decide) (by decide) ?_
        rw [if_neg (by omega)]
        refine g_newq hX dJx4a65c_grow_92f84_52 (N := 10) rfl (by decide) (by decide) (by decide) ?_
        have hne : ∀ (q : Nat) (x : hC), M q = some x → q ≠ sz := fun q x h9 e => by have := (hdom q x h9).1; omega
        have hm1 : hup M sz (.inr (3, 10, .inr (.inr (fun _ => none)))) a = some (.inl (0, [v0, .ref X.2.2.2.2.2.2.2.2.2, v2])) := by rw [hup_n _ _ (hne a _ hm)]; exact hm
        refine g_dup_x1 hX dJx4a65c_grow_92f84_55 rfl rfl ?_
        refine g_put hX dJx4a65c_grow_92f84_56 (by assumption) (by simp) rfl rfl ?_
        dsimp only [List.set]
        refine g_aret hX hR dJx4a65c_grow_92f84_59 rfl (by first | exact Or.inl ⟨_, rfl⟩ | exact Or.inr ⟨_, rfl⟩) (by first | rfl | exact isRefV_rf _) (by decide) (by decide) ?_
        exact hK
      · first | (exfalso; omega) | exact absurd rfl c17
  · skip
    refine g_aload hX dJx4a65c_grow_92f84_0 rfl rfl ?_
    refine g_get hX dJx4a65c_grow_92f84_1 (by assumption) rfl ?_
    refine z_alen hX dJx4a65c_grow_92f84_4 (by assumption) (by decide) ?_
    dsimp only
    refine g_istore hX dJx4a65c_grow_92f84_5 ?_
    dsimp only [List.set]
    refine g_iload hX dJx4a65c_grow_92f84_6 rfl ?_
    refine z_if_gt hX dJx4a65c_grow_92f84_7 (by constructor <;> omega) (fun c7 => ?_) (fun c7 => ?_)
    · refine g_iload hX dJx4a65c_grow_92f84_20 rfl ?_
      refine g_iload hX dJx4a65c_grow_92f84_21 rfl ?_
      refine g_iload hX dJx4a65c_grow_92f84_22 rfl ?_
      refine z_isub hX dJx4a65c_grow_92f84_23 ?_
      refine g_iload hX dJx4a65c_grow_92f84_24 rfl ?_
      refine g_const hX dJx4a65c_grow_92f84_25 ?_
      refine g_ishr hX dJx4a65c_grow_92f84_26 ?_
      rw [z_shr1 (by constructor <;> omega) (by omega)]
      refine g_cS3 (c2 := 0) (s2 := 0) hX (s_J8_newLength_cabcc hst) dJx4a65c_grow_92f84_27 (by first | exact Nat.le_of_ble_eq_true rfl | simp [cat_rf, Value.category]) ⟨rfl, rfl, by decide, by decide⟩ ?_
      refine ⟨_, _, _, rfl, by omega, Kc_i ?_⟩
      rw [if_pos (by omega)]
      have e9 : (len : Int) + (len : Int) / 2 = ((len + len / 2 : Nat) : Int) := by omega
      rw [e9]
      refine g_istore hX dJx4a65c_grow_92f84_30 ?_
      dsimp only [List.set]
      refine g_aload hX dJx4a65c_grow_92f84_31 rfl rfl ?_
      refine g_aload hX dJx4a65c_grow_92f84_32 rfl rfl ?_
      refine g_get hX dJx4a65c_grow_92f84_33 (by assumption) rfl ?_
      refine g_iload hX dJx4a65c_grow_92f84_36 rfl ?_
      refine g_cS2 (c2 := 1) (s2 := 200) hX (s_J7_copyOf_1904c hst) dJx4a65c_grow_92f84_37 (by first | exact Nat.le_of_ble_eq_true rfl | simp [cat_rf, Value.category]) ⟨rfl, rfl, by decide, by decide⟩ ?_
      refine ⟨_, _, _, _, rfl, hea, by omega, hc, Kc_i ?_⟩
      have hne : ∀ (q : Nat) (x : hC), M q = some x → q ≠ sz := fun q x h9 e => by have := (hdom q x h9).1; omega
      have hm1 : hup M sz (.inr (3, len + len / 2, .inr (.inr (fun k => if k < len then f k else none)))) a = some (.inl (0, [v0, .ref ea, v2])) := by rw [hup_n _ _ (hne a _ hm)]; exact hm
      refine g_dup_x1 hX dJx4a65c_grow_92f84_40 rfl rfl ?_
      refine g_put hX dJx4a65c_grow_92f84_41 (by assumption) (by simp) rfl rfl ?_
      dsimp only [List.set]
      refine g_aret hX hR dJx4a65c_grow_92f84_44 rfl (by first | exact Or.inl ⟨_, rfl⟩ | exact Or.inr ⟨_, rfl⟩) (by first | rfl | exact isRefV_rf _) (by decide) (by decide) ?_
      exact hK
    · exfalso; omega

def sp_Jx4a65c_grow_d5877 (g : hG) : hS := fun as M sz K => ∃ (a ea len n : Nat) (v0 : Value) (f : Nat → Option Nat), as = [.ref a] ∧
  ((ea = g.2.2.2.2 ∧ n = 0 ∧ M a = some (.inl (0, [v0, .ref ea, .int (iZ (n : Int))])) ∧ K (.inl (some (.ref sz))) (hup (hup M sz (.inr (3, 10, .inr (.inr (fun _ => none))))) a (.inl (0, [v0, .ref sz, .int (iZ (n : Int))]))) (sz + 1)) ∨
   (M a = some (.inl (0, [v0, .ref ea, .int (iZ (n : Int))])) ∧ M ea = some (.inr (3, len, .inr (.inr f))) ∧ (10 ≤ len ∧ len ≤ 100 ∧ n = len) ∧ (∀ i, i < len → ∀ y, f i = some y → CST M y) ∧ K (.inl (some (.ref sz))) (hup (hup M sz (.inr (3, len + len / 2, .inr (.inr (fun k => if k < len then f k else none))))) a (.inl (0, [v0, .ref sz, .int (iZ (n : Int))]))) (sz + 1)))
theorem s_Jx4a65c_grow_d5877 {l : Launch} {g : hG} (hst : l.stackTraces = false) : Ctr l g mJx4a65c_grow_d5877 (sp_Jx4a65c_grow_d5877 g) := by
  refine Ctr.mk9 hst (by decide) ?_ ?_
  · rintro as M sz K ⟨a, ea, len, n, v0, f, rfl, h9⟩
    exact ⟨by simp [mJx4a65c_grow_d5877], cat_ok rfl⟩
  rintro X as M sz K hX rfl rfl hR ⟨a, ea, len, n, v0, f, rfl, h9⟩
  show G X 0 [.ref a] [] M sz 0 0
  rcases h9 with ⟨rfl, hn, hm, hK⟩ | ⟨hm, hea, hl, hc, hK⟩
  · skip
    refine g_aload hX dJx4a65c_grow_d5877_0 rfl rfl ?_
    refine g_aload hX dJx4a65c_grow_d5877_1 rfl rfl ?_
    refine g_get hX dJx4a65c_grow_d5877_2 (by assumption) rfl ?_
    refine g_const hX dJx4a65c_grow_d5877_5 ?_
    refine z_iadd hX dJx4a65c_grow_d5877_6 ?_
    refine g_cV1 (c2 := 1) (s2 := 200) hX (s_Jx4a65c_grow_92f84 hst) dJx4a65c_grow_d5877_7 (by assumption) (by first | exact Nat.le_of_ble_eq_true rfl | simp [cat_rf, Value.category]) ⟨rfl, rfl, by decide, by decide⟩ ?_
    exact ⟨_, _, 0, _, _, _, fun _ => none, rfl, Or.inl ⟨rfl, by omega, hm, Kc_i (by
      refine g_aret hX hR dJx4a65c_grow_d5877_10 rfl (by first | exact Or.inl ⟨_, rfl⟩ | exact Or.inr ⟨_, rfl⟩) rfl (by decide) (by decide) ?_
      exact hK)⟩⟩
  · skip
    refine g_aload hX dJx4a65c_grow_d5877_0 rfl rfl ?_
    refine g_aload hX dJx4a65c_grow_d5877_1 rfl rfl ?_
    refine g_get hX dJx4a65c_grow_d5877_2 (by assumption) rfl ?_
    refine g_const hX dJx4a65c_grow_d5877_5 ?_
    refine z_iadd hX dJx4a65c_grow_d5877_6 ?_
    refine g_cV1 (c2 := 1) (s2 := 200) hX (s_Jx4a65c_grow_92f84 hst) dJx4a65c_grow_d5877_7 (by assumption) (by first | exact Nat.le_of_ble_eq_true rfl | simp [cat_rf, Value.category]) ⟨rfl, rfl, by decide, by decide⟩ ?_
    exact ⟨_, _, len, _, _, _, f, rfl, Or.inr ⟨hm, hea, by omega, hc, Kc_i (by
      refine g_aret hX hR dJx4a65c_grow_d5877_10 rfl (by first | exact Or.inl ⟨_, rfl⟩ | exact Or.inr ⟨_, rfl⟩) rfl (by decide) (by decide) ?_
      exact hK)⟩⟩
