/-! the small objects: rows, rights, readings, texts, tunes, feasts, services -/
theorem nul9_0 : nul9 0 = .inl (fun _ => iZ 0) := rfl
theorem nul9_1 : nul9 1 = .inl (fun _ => iZ 0) := rfl
/-- rows: r its object, a and b its two rows of eight -/
def RW (M : hM) (r a b : Nat) (n : Int) (len mk : Nat → Int) : Prop := M r = some (.inl (4, [.ref a, .ref b, .int (iZ n)])) ∧ M a = some (.inr (0, 8, .inl (fun k => iZ (len k)))) ∧ M b = some (.inr (0, 8, .inl (fun k => iZ (mk k))))
def RR (n : Int) (len mk : Nat → Int) : Prop := (0 ≤ n ∧ n ≤ 8) ∧ ∀ k : Nat, (0 ≤ len k ∧ len k ≤ 12) ∧ (0 ≤ mk k ∧ mk k ≤ 4095) ∧ (n ≤ k → len k = 0 ∧ mk k = 0) ∧ ((k : Int) < n → 1 ≤ len k)
/-- what is new and what is kept -/
def FRM (M M' : hM) (r sz sz' : Nat) : Prop := (∀ q, q ≠ r → q < sz → M' q = M q) ∧ ∀ (q : Nat) (x : hC), M' q = some x → (∃ y, M q = some y) ∨ (sz ≤ q ∧ q < sz')

def sp_X3_init : hS := fun as M sz K => ∃ (r : Nat) (dd : Int) (v0 v1 : Value), as = [.ref r, .int (iZ dd)] ∧ M r = some (.inl (3, [v0, v1])) ∧ K (.inl none) (hup M r (.inl (3, [.int (iZ dd), .int (iZ 0)]))) sz
theorem s_X3_init {l : Launch} {g : hG} (hst : l.stackTraces = false) : Ctr l g mX3_init sp_X3_init := by
  refine Ctr.mk9 hst (by decide) ?_ ?_
  · rintro as M sz K ⟨r, dd, v0, v1, rfl, hm, hK⟩
    exact ⟨by simp [mX3_init], cat_ok rfl⟩
  rintro X as M sz K hX rfl rfl hR ⟨r, dd, v0, v1, rfl, hm, hK⟩
  show G X 0 [.ref r, .int (iZ dd)] [] M sz 0 0
  refine g_aload hX dX3_init_0 rfl rfl ?_
  refine g_obj hX dX3_init_1 ?_
  refine g_aload hX dX3_init_4 rfl rfl ?_
  refine g_const hX dX3_init_5 ?_
  refine g_put hX dX3_init_6 (by assumption) (by simp) rfl rfl ?_
  dsimp only [List.set]
  refine g_aload hX dX3_init_9 rfl rfl ?_
  refine g_iload hX dX3_init_10 rfl ?_
  refine g_put hX dX3_init_11 (by first | assumption | exact hup_s _ _ _ | (simp only [hup]; repeat (first | rw [if_pos rfl] | rw [if_neg (by omega)]); done) | (simp only [hup]; repeat (first | rw [if_pos rfl] | rw [if_neg (by omega)]); assumption)) (by simp) rfl rfl ?_
  dsimp only [List.set]
  refine g_vret hX hR dX3_init_14 rfl (by decide) (by decide) ?_
  rw [hup_hup]; exact hK

def sp_X3_setAllowed : hS := fun as M sz K => ∃ (r : Nat) (dd al b : Int), as = [.ref r, .int (iZ b)] ∧ M r = some (.inl (3, [.int (iZ dd), .int (iZ al)])) ∧ (b = 0 ∨ b = 1) ∧ (al = 0 ∨ al = 1) ∧ K (.inl (some (.int (iZ al)))) (hup M r (.inl (3, [.int (iZ dd), .int (iZ b)]))) sz
theorem s_X3_setAllowed {l : Launch} {g : hG} (hst : l.stackTraces = false) : Ctr l g mX3_setAllowed sp_X3_setAllowed := by
  refine Ctr.mk9 hst (by decide) ?_ ?_
  · rintro as M sz K ⟨r, dd, al, b, rfl, hm, hb, hal, hK⟩
    exact ⟨by simp [mX3_setAllowed], cat_ok rfl⟩
  rintro X as M sz K hX rfl rfl hR ⟨r, dd, al, b, rfl, hm, hb, hal, hK⟩
  show G X 0 [.ref r, .int (iZ b), U9] [] M sz 0 0
  refine g_aload hX dX3_setAllowed_0 rfl rfl ?_
  refine g_get hX dX3_setAllowed_1 (by assumption) rfl ?_
  refine g_istore hX dX3_setAllowed_4 ?_
  dsimp only [List.set]
  refine g_aload hX dX3_setAllowed_5 rfl rfl ?_
  refine g_iload hX dX3_setAllowed_6 rfl ?_
  refine g_put hX dX3_setAllowed_7 (by assumption) (by simp) (nar_01 hb) (fit_01 hb) ?_
  dsimp only [List.set]
  refine g_iload hX dX3_setAllowed_10 rfl ?_
  refine g_iret hX hR dX3_setAllowed_11 rfl (by first | rfl | exact nar_b _ | exact nar_01 (by omega)) (by decide) (by decide) ?_
  exact hK

def sp_X3_isFreeIn : hS := fun as M sz K => ∃ (r : Nat) (dd al y : Int), as = [.ref r, .int (iZ y)] ∧ M r = some (.inl (3, [.int (iZ dd), .int (iZ al)])) ∧ (al = 0 ∨ al = 1) ∧ (0 ≤ dd ∧ dd ≤ 5000) ∧ (0 ≤ y ∧ y ≤ 5000) ∧ K (.inl (some (.int (iZ (bZ (al = 1 ∨ dd + 70 < y)))))) M sz
theorem s_X3_isFreeIn {l : Launch} {g : hG} (hst : l.stackTraces = false) : Ctr l g mX3_isFreeIn sp_X3_isFreeIn := by
  refine Ctr.mk9 hst (by decide) ?_ ?_
  · rintro as M sz K ⟨r, dd, al, y, rfl, hm, hal, hdd, hy, hK⟩
    exact ⟨by simp [mX3_isFreeIn], cat_ok rfl⟩
  rintro X as M sz K hX rfl rfl hR ⟨r, dd, al, y, rfl, hm, hal, hdd, hy, hK⟩
  show G X 0 [.ref r, .int (iZ y)] [] M sz 0 0
  refine g_aload hX dX3_isFreeIn_0 rfl rfl ?_
  refine g_get hX dX3_isFreeIn_1 (by assumption) rfl ?_
  refine z_if_ne hX dX3_isFreeIn_4 (by constructor <;> omega) (fun c4 => ?_) (fun c4 => ?_)
  · refine g_const hX dX3_isFreeIn_18 ?_
    refine g_goto hX dX3_isFreeIn_19 ?_
    refine g_iret hX hR dX3_isFreeIn_23 rfl (by first | rfl | exact nar_b _ | exact nar_01 (by omega)) (by decide) (by decide) ?_
    exact kint hK (by unfold bZ; split <;> omega)
  · refine g_iload hX dX3_isFreeIn_7 rfl ?_
    refine g_aload hX dX3_isFreeIn_8 rfl rfl ?_
    refine g_get hX dX3_isFreeIn_9 (by assumption) rfl ?_
    refine z_isub hX dX3_isFreeIn_12 ?_
    refine g_const hX dX3_isFreeIn_13 ?_
    refine z_icmp_le hX dX3_isFreeIn_15 (by constructor <;> omega) (by constructor <;> omega) (fun c15 => ?_) (fun c15 => ?_)
    · refine g_const hX dX3_isFreeIn_22 ?_
      refine g_iret hX hR dX3_isFreeIn_23 rfl (by first | rfl | exact nar_b _ | exact nar_01 (by omega)) (by decide) (by decide) ?_
      exact kint hK (by unfold bZ; split <;> omega)
    · refine g_const hX dX3_isFreeIn_18 ?_
      refine g_goto hX dX3_isFreeIn_19 ?_
      refine g_iret hX hR dX3_isFreeIn_23 rfl (by first | rfl | exact nar_b _ | exact nar_01 (by omega)) (by decide) (by decide) ?_
      exact kint hK (by unfold bZ; split <;> omega)

def sp_X4_lengthAt : hS := fun as M sz K => ∃ (r a b : Nat) (n i : Int) (len mk : Nat → Int), as = [.ref r, .int (iZ i)] ∧ RW M r a b n len mk ∧ RR n len mk ∧ inR i ∧ K (.inl (some (.int (iZ (if 0 ≤ i then len i.toNat else 0))))) M sz
theorem s_X4_lengthAt {l : Launch} {g : hG} (hst : l.stackTraces = false) : Ctr l g mX4_lengthAt sp_X4_lengthAt := by
  refine Ctr.mk9 hst (by decide) ?_ ?_
  · rintro as M sz K ⟨r, a, b, n, i, len, mk, rfl, ⟨hm, ha, hb⟩, hR9, hi, hK⟩
    exact ⟨by simp [mX4_lengthAt], cat_ok rfl⟩
  rintro X as M sz K hX rfl rfl hR ⟨r, a, b, n, i, len, mk, rfl, ⟨hm, ha, hb⟩, hR9, hi, hK⟩
  show G X 0 [.ref r, .int (iZ i)] [] M sz 0 0
  obtain ⟨hn1, hn2⟩ := hR9.1
  refine g_iload hX dX4_lengthAt_0 rfl ?_
  refine z_if_lt hX dX4_lengthAt_1 (by first | assumption | (constructor <;> omega)) (fun c1 => ?_) (fun c1 => ?_)
  · refine g_const hX dX4_lengthAt_30 ?_
    refine g_iret hX hR dX4_lengthAt_31 rfl rfl (by decide) (by decide) ?_
    have hz9 := (hR9.2 i.toNat).2.2.1
    first | exact kint hK (by split <;> omega) | exact kint hK (by split <;> (first | omega | (rw [(hz9 (by omega)).1])))
  · refine g_iload hX dX4_lengthAt_4 rfl ?_
    refine g_aload hX dX4_lengthAt_5 rfl rfl ?_
    refine g_get hX dX4_lengthAt_6 (by assumption) rfl ?_
    refine z_icmp_ge hX dX4_lengthAt_9 (by first | assumption | (constructor <;> omega)) (by first | assumption | (constructor <;> omega)) (fun c9 => ?_) (fun c9 => ?_)
    · refine g_const hX dX4_lengthAt_30 ?_
      refine g_iret hX hR dX4_lengthAt_31 rfl rfl (by decide) (by decide) ?_
      have hz9 := (hR9.2 i.toNat).2.2.1
      first | exact kint hK (by split <;> omega) | exact kint hK (by split <;> (first | omega | (rw [(hz9 (by omega)).1])))
    · refine g_iload hX dX4_lengthAt_12 rfl ?_
      refine g_aload hX dX4_lengthAt_13 rfl rfl ?_
      refine g_get hX dX4_lengthAt_14 (by assumption) rfl ?_
      refine z_alen hX dX4_lengthAt_17 (by assumption) (by decide) ?_
      dsimp only
      refine z_icmp_ge hX dX4_lengthAt_18 (by first | assumption | (constructor <;> omega)) (by first | assumption | (constructor <;> omega)) (fun c18 => ?_) (fun c18 => ?_)
      · refine g_const hX dX4_lengthAt_30 ?_
        refine g_iret hX hR dX4_lengthAt_31 rfl rfl (by decide) (by decide) ?_
        have hz9 := (hR9.2 i.toNat).2.2.1
        first | exact kint hK (by split <;> omega) | exact kint hK (by split <;> (first | omega | (rw [(hz9 (by omega)).1])))
      · refine g_aload hX dX4_lengthAt_21 rfl rfl ?_
        refine g_get hX dX4_lengthAt_22 (by assumption) rfl ?_
        refine g_iload hX dX4_lengthAt_25 rfl ?_
        refine z_iald hX dX4_lengthAt_26 (by assumption) (by omega) (by omega) (by decide) rfl ?_
        refine g_goto hX dX4_lengthAt_27 ?_
        refine g_iret hX hR dX4_lengthAt_31 rfl rfl (by decide) (by decide) ?_
        have hz9 := (hR9.2 i.toNat).2.2.1
        first | exact kint hK (by split <;> omega) | exact kint hK (by split <;> (first | omega | (rw [(hz9 (by omega)).1])))

def sp_X4_marksAt : hS := fun as M sz K => ∃ (r a b : Nat) (n i : Int) (len mk : Nat → Int), as = [.ref r, .int (iZ i)] ∧ RW M r a b n len mk ∧ RR n len mk ∧ inR i ∧ K (.inl (some (.int (iZ (if 0 ≤ i then mk i.toNat else 0))))) M sz
theorem s_X4_marksAt {l : Launch} {g : hG} (hst : l.stackTraces = false) : Ctr l g mX4_marksAt sp_X4_marksAt := by
  refine Ctr.mk9 hst (by decide) ?_ ?_
  · rintro as M sz K ⟨r, a, b, n, i, len, mk, rfl, ⟨hm, ha, hb⟩, hR9, hi, hK⟩
    exact ⟨by simp [mX4_marksAt], cat_ok rfl⟩
  rintro X as M sz K hX rfl rfl hR ⟨r, a, b, n, i, len, mk, rfl, ⟨hm, ha, hb⟩, hR9, hi, hK⟩
  show G X 0 [.ref r, .int (iZ i)] [] M sz 0 0
  obtain ⟨hn1, hn2⟩ := hR9.1
  refine g_iload hX dX4_marksAt_0 rfl ?_
  refine z_if_lt hX dX4_marksAt_1 (by first | assumption | (constructor <;> omega)) (fun c1 => ?_) (fun c1 => ?_)
  · refine g_const hX dX4_marksAt_30 ?_
    refine g_iret hX hR dX4_marksAt_31 rfl rfl (by decide) (by decide) ?_
    have hz9 := (hR9.2 i.toNat).2.2.1
    first | exact kint hK (by split <;> omega) | exact kint hK (by split <;> (first | omega | (rw [(hz9 (by omega)).2])))
  · refine g_iload hX dX4_marksAt_4 rfl ?_
    refine g_aload hX dX4_marksAt_5 rfl rfl ?_
    refine g_get hX dX4_marksAt_6 (by assumption) rfl ?_
    refine z_icmp_ge hX dX4_marksAt_9 (by first | assumption | (constructor <;> omega)) (by first | assumption | (constructor <;> omega)) (fun c9 => ?_) (fun c9 => ?_)
    · refine g_const hX dX4_marksAt_30 ?_
      refine g_iret hX hR dX4_marksAt_31 rfl rfl (by decide) (by decide) ?_
      have hz9 := (hR9.2 i.toNat).2.2.1
      first | exact kint hK (by split <;> omega) | exact kint hK (by split <;> (first | omega | (rw [(hz9 (by omega)).2])))
    · refine g_iload hX dX4_marksAt_12 rfl ?_
      refine g_aload hX dX4_marksAt_13 rfl rfl ?_
      refine g_get hX dX4_marksAt_14 (by assumption) rfl ?_
      refine z_alen hX dX4_marksAt_17 (by assumption) (by decide) ?_
      dsimp only
      refine z_icmp_ge hX dX4_marksAt_18 (by first | assumption | (constructor <;> omega)) (by first | assumption | (constructor <;> omega)) (fun c18 => ?_) (fun c18 => ?_)
      · refine g_const hX dX4_marksAt_30 ?_
        refine g_iret hX hR dX4_marksAt_31 rfl rfl (by decide) (by decide) ?_
        have hz9 := (hR9.2 i.toNat).2.2.1
        first | exact kint hK (by split <;> omega) | exact kint hK (by split <;> (first | omega | (rw [(hz9 (by omega)).2])))
      · refine g_aload hX dX4_marksAt_21 rfl rfl ?_
        refine g_get hX dX4_marksAt_22 (by assumption) rfl ?_
        refine g_iload hX dX4_marksAt_25 rfl ?_
        refine z_iald hX dX4_marksAt_26 (by assumption) (by omega) (by omega) (by decide) rfl ?_
        refine g_goto hX dX4_marksAt_27 ?_
        refine g_iret hX hR dX4_marksAt_31 rfl rfl (by decide) (by decide) ?_
        have hz9 := (hR9.2 i.toNat).2.2.1
        first | exact kint hK (by split <;> omega) | exact kint hK (by split <;> (first | omega | (rw [(hz9 (by omega)).2])))

def sp_X4_append : hS := fun as M sz K => ∃ (r a b : Nat) (n x m : Int) (len mk : Nat → Int), as = [.ref r, .int (iZ x), .int (iZ m)] ∧ RW M r a b n len mk ∧ a ≠ b ∧ (0 ≤ n ∧ n < 8) ∧ K (.inl none) (hup (hup (hup M a (.inr (0, 8, .inl (upd (fun k => iZ (len k)) n.toNat (iZ x))))) b (.inr (0, 8, .inl (upd (fun k => iZ (mk k)) n.toNat (iZ m))))) r (.inl (4, [.ref a, .ref b, .int (iZ (n + 1))]))) sz
theorem s_X4_append {l : Launch} {g : hG} (hst : l.stackTraces = false) : Ctr l g mX4_append sp_X4_append := by
  refine Ctr.mk9 hst (by decide) ?_ ?_
  · rintro as M sz K ⟨r, a, b, n, x, m, len, mk, rfl, ⟨hm, ha, hb⟩, hab, hn, hK⟩
    exact ⟨by simp [mX4_append], cat_ok rfl⟩
  rintro X as M sz K hX rfl rfl hR ⟨r, a, b, n, x, m, len, mk, rfl, ⟨hm, ha, hb⟩, hab, hn, hK⟩
  show G X 0 [.ref r, .int (iZ x), .int (iZ m)] [] M sz 0 0
  have hra : r ≠ a := fun e => by rw [e, ha] at hm; cases hm
  have hrb : r ≠ b := fun e => by rw [e, hb] at hm; cases hm
  refine g_aload hX dX4_append_0 rfl rfl ?_
  refine g_get hX dX4_append_1 (by assumption) rfl ?_
  refine g_aload hX dX4_append_4 rfl rfl ?_
  refine g_get hX dX4_append_5 (by assumption) rfl ?_
  refine z_alen hX dX4_append_8 (by assumption) (by decide) ?_
  dsimp only
  refine z_icmp_ge hX dX4_append_9 (by constructor <;> omega) (by constructor <;> omega) (fun c9 => ?_) (fun c9 => ?_)
  · exfalso; omega
  · refine g_aload hX dX4_append_12 rfl rfl ?_
    refine g_get hX dX4_append_13 (by assumption) rfl ?_
    refine g_aload hX dX4_append_16 rfl rfl ?_
    refine g_get hX dX4_append_17 (by assumption) rfl ?_
    refine z_alen hX dX4_append_20 (by assumption) (by decide) ?_
    dsimp only
    refine z_icmp_ge hX dX4_append_21 (by constructor <;> omega) (by constructor <;> omega) (fun c21 => ?_) (fun c21 => ?_)
    · exfalso; omega
    · refine g_aload hX dX4_append_24 rfl rfl ?_
      refine g_get hX dX4_append_25 (by assumption) rfl ?_
      refine g_aload hX dX4_append_28 rfl rfl ?_
      refine g_get hX dX4_append_29 (by assumption) rfl ?_
      refine g_iload hX dX4_append_32 rfl ?_
      refine z_iast hX dX4_append_33 ha (by omega) (by omega) (by decide) ?_
      have hm1 : hup M a (.inr (0, 8, .inl (upd (fun k => iZ (len k)) n.toNat (iZ x)))) r = some (.inl (4, [.ref a, .ref b, .int (iZ n)])) := by rw [hup_n _ _ hra]; exact hm
      have hb1 : hup M a (.inr (0, 8, .inl (upd (fun k => iZ (len k)) n.toNat (iZ x)))) b = some (.inr (0, 8, .inl (fun k => iZ (mk k)))) := by rw [hup_n _ _ (Ne.symm hab)]; exact hb
      refine g_aload hX dX4_append_34 rfl rfl ?_
      refine g_get hX dX4_append_35 (by assumption) rfl ?_
      refine g_aload hX dX4_append_38 rfl rfl ?_
      refine g_get hX dX4_append_39 (by assumption) rfl ?_
      refine g_iload hX dX4_append_42 rfl ?_
      refine z_iast hX dX4_append_43 hb1 (by omega) (by omega) (by decide) ?_
      have hm2 : hup (hup M a (.inr (0, 8, .inl (upd (fun k => iZ (len k)) n.toNat (iZ x))))) b (.inr (0, 8, .inl (upd (fun k => iZ (mk k)) n.toNat (iZ m)))) r = some (.inl (4, [.ref a, .ref b, .int (iZ n)])) := by rw [hup_n _ _ hrb]; exact hm1
      refine g_aload hX dX4_append_44 rfl rfl ?_
      refine g_dup hX dX4_append_45 rfl ?_
      refine g_get hX dX4_append_46 (by assumption) rfl ?_
      refine g_const hX dX4_append_49 ?_
      refine z_iadd hX dX4_append_50 ?_
      refine g_put hX dX4_append_51 hm2 (by simp) rfl rfl ?_
      dsimp only [List.set]
      refine g_vret hX hR dX4_append_54 rfl (by decide) (by decide) ?_
      exact hK

def sp_X4_hasMetreFrom : hS := fun as M sz K => ∃ (r a b r2 a2 b2 : Nat) (n n2 f : Int) (len mk len2 mk2 : Nat → Int), as = [.ref r, .int (iZ f), .ref r2] ∧ RW M r a b n len mk ∧ RW M r2 a2 b2 n2 len2 mk2 ∧ RR n len mk ∧ RR n2 len2 mk2 ∧ (0 ≤ f ∧ f ≤ 8) ∧ K (.inl (some (.int (iZ (bZ (∀ k : Nat, k < n2.toNat → len (f + (k : Int)).toNat = len2 k)))))) M sz
theorem s_X4_hasMetreFrom {l : Launch} {g : hG} (hst : l.stackTraces = false) : Ctr l g mX4_hasMetreFrom sp_X4_hasMetreFrom := by
  refine Ctr.mk9 hst (by decide) ?_ ?_
  · rintro as M sz K ⟨r, a, b, r2, a2, b2, n, n2, f, len, mk, len2, mk2, rfl, hW1, hW2, hR1, hR2, hf, hK⟩
    exact ⟨by simp [mX4_hasMetreFrom], cat_ok rfl⟩
  rintro X as M sz K hX rfl rfl hR ⟨r, a, b, r2, a2, b2, n, n2, f, len, mk, len2, mk2, rfl, hW1, hW2, hR1, hR2, hf, hK⟩
  show G X 0 [.ref r, .int (iZ f), .ref r2, U9] [] M sz 0 0
  obtain ⟨hn1, hn2⟩ := hR2.1
  have loop : ∀ (k9 : Nat) (j : Int), 0 ≤ j → j + k9 = n2 → (∀ k : Nat, (k : Int) < j → len (f + (k : Int)).toNat = len2 k) → G X 2 [.ref r, .int (iZ f), .ref r2, .int (iZ j)] [] M sz 0 0 := by
    intro k9
    induction k9 with
    | zero => 
      intro j h0 h1 hj
      refine g_iload hX dX4_hasMetreFrom_2 rfl ?_
      refine g_aload hX dX4_hasMetreFrom_3 rfl rfl ?_
      refine g_get hX dX4_hasMetreFrom_4 (by first | exact hW2.1 | exact hW1.1) rfl ?_
      refine z_icmp_ge hX dX4_hasMetreFrom_7 (by constructor <;> omega) (by constructor <;> omega) (fun c7 => ?_) (fun c7 => ?_)
      · refine g_const hX dX4_hasMetreFrom_33 ?_
        refine g_iret hX hR dX4_hasMetreFrom_34 rfl (by first | rfl | exact nar_b _ | exact nar_01 (by omega)) (by decide) (by decide) ?_
        exact kint hK (bZ_t (fun k hk => hj k (by omega)))
      · exfalso; omega
    | succ k9 ih =>
    intro j h0 h1 hj
    refine g_iload hX dX4_hasMetreFrom_2 rfl ?_
    refine g_aload hX dX4_hasMetreFrom_3 rfl rfl ?_
    refine g_get hX dX4_hasMetreFrom_4 (by first | exact hW2.1 | exact hW1.1) rfl ?_
    refine z_icmp_ge hX dX4_hasMetreFrom_7 (by constructor <;> omega) (by constructor <;> omega) (fun c7 => ?_) (fun c7 => ?_)
    · refine g_const hX dX4_hasMetreFrom_33 ?_
      refine g_iret hX hR dX4_hasMetreFrom_34 rfl (by first | rfl | exact nar_b _ | exact nar_01 (by omega)) (by decide) (by decide) ?_
      exact kint hK (bZ_t (fun k hk => hj k (by omega)))
    · refine g_aload hX dX4_hasMetreFrom_10 rfl rfl ?_
      refine g_iload hX dX4_hasMetreFrom_11 rfl ?_
      refine g_iload hX dX4_hasMetreFrom_12 rfl ?_
      refine z_iadd hX dX4_hasMetreFrom_13 ?_
      refine g_cV1 (c2 := 0) (s2 := 0) hX (s_X4_lengthAt hst) dX4_hasMetreFrom_14 (by first | exact hW2.1 | exact hW1.1) (by first | exact Nat.le_of_ble_eq_true rfl | simp [cat_rf, Value.category]) ⟨rfl, rfl, by decide, by decide⟩ ?_
      refine ⟨_, _, _, _, _, _, _, rfl, hW1, hR1, by constructor <;> omega, Kc_i ?_⟩
      rw [if_pos (by omega)]
      have hla := (hR1.2 (f + j).toNat).1
      refine g_aload hX dX4_hasMetreFrom_17 rfl rfl ?_
      refine g_iload hX dX4_hasMetreFrom_18 rfl ?_
      refine g_cV1 (c2 := 0) (s2 := 0) hX (s_X4_lengthAt hst) dX4_hasMetreFrom_19 (by first | exact hW2.1 | exact hW1.1) (by first | exact Nat.le_of_ble_eq_true rfl | simp [cat_rf, Value.category]) ⟨rfl, rfl, by decide, by decide⟩ ?_
      refine ⟨_, _, _, _, _, _, _, rfl, hW2, hR2, by constructor <;> omega, Kc_i ?_⟩
      rw [if_pos (by omega)]
      have hlb := (hR2.2 j.toNat).1
      refine z_icmp_eq hX dX4_hasMetreFrom_22 (by constructor <;> omega) (by constructor <;> omega) (fun c22 => ?_) (fun c22 => ?_)
      · refine z_iinc hX dX4_hasMetreFrom_27 rfl ?_
        dsimp only [List.set]
        refine g_goto hX dX4_hasMetreFrom_30 ?_
        exact ih (j + 1) (by omega) (by omega) (fun k hk => by
          rcases (show (k : Int) < j ∨ (k : Int) = j by omega) with h9 | h9
          · exact hj k h9
          · have e9 : k = j.toNat := by omega
            rw [h9, e9]; exact c22)
      · refine g_const hX dX4_hasMetreFrom_25 ?_
        refine g_iret hX hR dX4_hasMetreFrom_26 rfl (by first | rfl | exact nar_b _ | exact nar_01 (by omega)) (by decide) (by decide) ?_
        exact kint hK (bZ_f (fun h => c22 (by
          have := h j.toNat (by omega)
          rw [show ((j.toNat : Nat) : Int) = j by omega] at this
          exact this)))
  refine g_const hX dX4_hasMetreFrom_0 ?_
  refine g_istore hX dX4_hasMetreFrom_1 ?_
  dsimp only [List.set]
  exact loop n2.toNat 0 (by omega) (by omega) (fun k hk => absurd hk (by omega))

def sp_X4_hasMetreOf : hS := fun as M sz K => ∃ (r a b r2 a2 b2 : Nat) (n n2 : Int) (len mk len2 mk2 : Nat → Int), as = [.ref r, .ref r2] ∧ RW M r a b n len mk ∧ RW M r2 a2 b2 n2 len2 mk2 ∧ RR n len mk ∧ RR n2 len2 mk2 ∧ K (.inl (some (.int (iZ (bZ (n = n2 ∧ ∀ k : Nat, k < n2.toNat → len k = len2 k)))))) M sz
theorem s_X4_hasMetreOf {l : Launch} {g : hG} (hst : l.stackTraces = false) : Ctr l g mX4_hasMetreOf sp_X4_hasMetreOf := by
  refine Ctr.mk9 hst (by decide) ?_ ?_
  · rintro as M sz K ⟨r, a, b, r2, a2, b2, n, n2, len, mk, len2, mk2, rfl, hW1, hW2, hR1, hR2, hK⟩
    exact ⟨by simp [mX4_hasMetreOf], cat_ok rfl⟩
  rintro X as M sz K hX rfl rfl hR ⟨r, a, b, r2, a2, b2, n, n2, len, mk, len2, mk2, rfl, hW1, hW2, hR1, hR2, hK⟩
  show G X 0 [.ref r, .ref r2] [] M sz 0 0
  obtain ⟨hn1, hn2⟩ := hR2.1
  obtain ⟨hn3, hn4⟩ := hR1.1
  refine g_aload hX dX4_hasMetreOf_0 rfl rfl ?_
  refine g_get hX dX4_hasMetreOf_1 (by first | exact hW1.1 | exact hW2.1) rfl ?_
  refine g_aload hX dX4_hasMetreOf_4 rfl rfl ?_
  refine g_get hX dX4_hasMetreOf_5 (by first | exact hW1.1 | exact hW2.1) rfl ?_
  refine z_icmp_ne hX dX4_hasMetreOf_8 (by constructor <;> omega) (by constructor <;> omega) (fun c8 => ?_) (fun c8 => ?_)
  · refine g_const hX dX4_hasMetreOf_24 ?_
    refine g_iret hX hR dX4_hasMetreOf_25 rfl (by first | rfl | exact nar_b _ | exact nar_01 (by omega)) (by decide) (by decide) ?_
    exact kint hK (by first | exact bZ_t ⟨c8, fun k hk => by have := c17 k hk; rwa [Int.zero_add] at this⟩ | exact bZ_f (fun h => c8 h.1) | exact bZ_f (fun h => c17 (fun k hk => by rw [Int.zero_add]; exact h.2 k hk)))
  · refine g_aload hX dX4_hasMetreOf_11 rfl rfl ?_
    refine g_const hX dX4_hasMetreOf_12 ?_
    refine g_aload hX dX4_hasMetreOf_13 rfl rfl ?_
    refine g_cV2 (c2 := 0) (s2 := 0) hX (s_X4_hasMetreFrom hst) dX4_hasMetreOf_14 (by first | exact hW1.1 | exact hW2.1) (by first | exact Nat.le_of_ble_eq_true rfl | simp [cat_rf, Value.category]) ⟨rfl, rfl, by decide, by decide⟩ ?_
    refine ⟨_, _, _, _, _, _, _, _, _, _, _, _, _, rfl, hW1, hW2, hR1, hR2, by omega, Kc_i ?_⟩
    refine z_ifb_eq hX dX4_hasMetreOf_17 (fun c17 => ?_) (fun c17 => ?_)
    · refine g_const hX dX4_hasMetreOf_24 ?_
      refine g_iret hX hR dX4_hasMetreOf_25 rfl (by first | rfl | exact nar_b _ | exact nar_01 (by omega)) (by decide) (by decide) ?_
      exact kint hK (by first | exact bZ_t ⟨c8, fun k hk => by have := c17 k hk; rwa [Int.zero_add] at this⟩ | exact bZ_f (fun h => c8 h.1) | exact bZ_f (fun h => c17 (fun k hk => by rw [Int.zero_add]; exact h.2 k hk)))
    · refine g_const hX dX4_hasMetreOf_20 ?_
      refine g_goto hX dX4_hasMetreOf_21 ?_
      refine g_iret hX hR dX4_hasMetreOf_25 rfl (by first | rfl | exact nar_b _ | exact nar_01 (by omega)) (by decide) (by decide) ?_
      exact kint hK (by first | exact bZ_t ⟨c8, fun k hk => by have := c17 k hk; rwa [Int.zero_add] at this⟩ | exact bZ_f (fun h => c8 h.1) | exact bZ_f (fun h => c17 (fun k hk => by rw [Int.zero_add]; exact h.2 k hk)))

theorem z_shrk {a : Int} (ha : inR a) (h : 0 ≤ a) : ∀ k : Nat, k < 16 → iZ a >>> (iZ (k : Int) &&& 31) = iZ (a / 2 ^ k) := by
  intro k hk
  have hs : ((iZ (k : Int) &&& 31).toBitVec.smod 32).toNat = k := by
    revert k
    decide
  have h1 := pk_shr (iZ a) (iZ (k : Int) &&& 31) k hs
  rw [zt ha] at h1
  have h3 : 0 ≤ a / 2 ^ k := Int.ediv_nonneg h (Int.le_of_lt (Int.pow_pos (by decide)))
  have h4 : a / 2 ^ k ≤ a := Int.ediv_le_self _ h
  have h2 : inR (a / 2 ^ k) := by unfold inR at *; omega
  rw [← Int32.toInt_inj, h1, zt h2]
  simp [Int.shiftRight_eq_div_pow]
theorem z_and1 {a : Int} (ha : inR a) (h : 0 ≤ a) : iZ a &&& iZ 1 = iZ (a % 2) := by
  obtain ⟨n, rfl⟩ : ∃ n : Nat, a = n := ⟨a.toNat, by omega⟩
  have h1 : n < 2 ^ 32 := by unfold inR at ha; omega
  have := pk_andN (n := n) h1 (m := iZ 1) 1 (by decide)
  refine (show iZ (n : Int) &&& iZ 1 = nI (n % 2 ^ 1) from this).trans ?_
  show Int32.ofNat (n % 2) = iZ ((n : Int) % 2)
  rw [z_n]
  rfl
abbrev thmP (th t : Int) : Prop := th / 2 ^ t.toNat % 2 = 1

def sp_X6_hasTheme : hS := fun as M sz K => ∃ (r : Nat) (th : Int) (t : Nat) (v0 v2 v3 : Value), as = [.ref r, .int (iZ (t : Int))] ∧ M r = some (.inl (6, [v0, .int (iZ th), v2, v3])) ∧ (0 ≤ th ∧ th ≤ 65535) ∧ t < 16 ∧ K (.inl (some (.int (iZ (bZ (thmP th (t : Int))))))) M sz
theorem s_X6_hasTheme {l : Launch} {g : hG} (hst : l.stackTraces = false) : Ctr l g mX6_hasTheme sp_X6_hasTheme := by
  refine Ctr.mk9 hst (by decide) ?_ ?_
  · rintro as M sz K ⟨r, th, t, v0, v2, v3, rfl, hm, hth, ht, hK⟩
    exact ⟨by simp [mX6_hasTheme], cat_ok rfl⟩
  rintro X as M sz K hX rfl rfl hR ⟨r, th, t, v0, v2, v3, rfl, hm, hth, ht, hK⟩
  show G X 0 [.ref r, .int (iZ (t : Int))] [] M sz 0 0
  have hq1 : 0 ≤ th / 2 ^ t := Int.ediv_nonneg hth.1 (Int.le_of_lt (Int.pow_pos (by decide)))
  have hq2 : th / 2 ^ t ≤ th := Int.ediv_le_self _ hth.1
  refine g_aload hX dX6_hasTheme_0 rfl rfl ?_
  refine g_get hX dX6_hasTheme_1 (by assumption) rfl ?_
  refine g_iload hX dX6_hasTheme_4 rfl ?_
  refine g_ishr hX dX6_hasTheme_5 ?_
  rw [z_shrk (by constructor <;> omega) (by omega) t (by omega)]
  refine g_const hX dX6_hasTheme_6 ?_
  refine g_iand hX dX6_hasTheme_7 ?_
  rw [z_and1 (by constructor <;> omega) (by omega)]
  refine g_const hX dX6_hasTheme_8 ?_
  refine z_icmp_ne hX dX6_hasTheme_9 (by constructor <;> omega) (by constructor <;> omega) (fun c9 => ?_) (fun c9 => ?_)
  · refine g_const hX dX6_hasTheme_16 ?_
    refine g_iret hX hR dX6_hasTheme_17 rfl (by first | rfl | exact nar_b _ | exact nar_01 (by omega)) (by decide) (by decide) ?_
    first | exact kint hK (bZ_t c9) | exact kint hK (bZ_f c9)
  · refine g_const hX dX6_hasTheme_12 ?_
    refine g_goto hX dX6_hasTheme_13 ?_
    refine g_iret hX hR dX6_hasTheme_17 rfl (by first | rfl | exact nar_b _ | exact nar_01 (by omega)) (by decide) (by decide) ?_
    first | exact kint hK (bZ_t c9) | exact kint hK (bZ_f c9)

def sp_X2_themeIn : hS := fun as M sz K => ∃ (r a : Nat) (c : Int) (f : Nat → Int), as = [.ref r, .int (iZ c)] ∧ M r = some (.inl (2, [.ref a])) ∧ M a = some (.inr (0, 3, .inl (fun k => iZ (f k)))) ∧ inR c ∧ K (.inl (some (.int (iZ (if 0 ≤ c ∧ c < 3 then f c.toNat else -100))))) M sz
theorem s_X2_themeIn {l : Launch} {g : hG} (hst : l.stackTraces = false) : Ctr l g mX2_themeIn sp_X2_themeIn := by
  refine Ctr.mk9 hst (by decide) ?_ ?_
  · rintro as M sz K ⟨r, a, c, f, rfl, hm, ha, hc, hK⟩
    exact ⟨by simp [mX2_themeIn], cat_ok rfl⟩
  rintro X as M sz K hX rfl rfl hR ⟨r, a, c, f, rfl, hm, ha, hc, hK⟩
  show G X 0 [.ref r, .int (iZ c)] [] M sz 0 0
  refine g_iload hX dX2_themeIn_0 rfl ?_
  refine z_if_lt hX dX2_themeIn_1 (by first | assumption | (constructor <;> omega)) (fun c1 => ?_) (fun c1 => ?_)
  · refine g_const hX dX2_themeIn_22 ?_
    refine g_iret hX hR dX2_themeIn_24 rfl rfl (by decide) (by decide) ?_
    exact kint hK (by split <;> omega)
  · refine g_iload hX dX2_themeIn_4 rfl ?_
    refine g_aload hX dX2_themeIn_5 rfl rfl ?_
    refine g_get hX dX2_themeIn_6 (by assumption) rfl ?_
    refine z_alen hX dX2_themeIn_9 (by assumption) (by decide) ?_
    dsimp only
    refine z_icmp_ge hX dX2_themeIn_10 (by first | assumption | (constructor <;> omega)) (by first | assumption | (constructor <;> omega)) (fun c10 => ?_) (fun c10 => ?_)
    · refine g_const hX dX2_themeIn_22 ?_
      refine g_iret hX hR dX2_themeIn_24 rfl rfl (by decide) (by decide) ?_
      exact kint hK (by split <;> omega)
    · refine g_aload hX dX2_themeIn_13 rfl rfl ?_
      refine g_get hX dX2_themeIn_14 (by assumption) rfl ?_
      refine g_iload hX dX2_themeIn_17 rfl ?_
      refine z_iald hX dX2_themeIn_18 (by assumption) (by omega) (by omega) (by decide) rfl ?_
      refine g_goto hX dX2_themeIn_19 ?_
      refine g_iret hX hR dX2_themeIn_24 rfl rfl (by decide) (by decide) ?_
      exact kint hK (by split <;> omega)

def sp_X2_replace : hS := fun as M sz K => ∃ (r a : Nat) (c t : Int) (f : Nat → Int), as = [.ref r, .int (iZ c), .int (iZ t)] ∧ M r = some (.inl (2, [.ref a])) ∧ M a = some (.inr (0, 3, .inl (fun k => iZ (f k)))) ∧ (0 ≤ c ∧ c < 3) ∧ K (.inl (some (.int (iZ (f c.toNat))))) (hup M a (.inr (0, 3, .inl (upd (fun k => iZ (f k)) c.toNat (iZ t))))) sz
theorem s_X2_replace {l : Launch} {g : hG} (hst : l.stackTraces = false) : Ctr l g mX2_replace sp_X2_replace := by
  refine Ctr.mk9 hst (by decide) ?_ ?_
  · rintro as M sz K ⟨r, a, c, t, f, rfl, hm, ha, hc, hK⟩
    exact ⟨by simp [mX2_replace], cat_ok rfl⟩
  rintro X as M sz K hX rfl rfl hR ⟨r, a, c, t, f, rfl, hm, ha, hc, hK⟩
  show G X 0 [.ref r, .int (iZ c), .int (iZ t), U9] [] M sz 0 0
  refine g_aload hX dX2_replace_0 rfl rfl ?_
  refine g_iload hX dX2_replace_1 rfl ?_
  refine g_cV1 (c2 := 0) (s2 := 0) hX (s_X2_themeIn hst) dX2_replace_2 (by assumption) (by first | exact Nat.le_of_ble_eq_true rfl | simp [cat_rf, Value.category]) ⟨rfl, rfl, by decide, by decide⟩ ?_
  refine ⟨_, _, _, _, rfl, hm, ha, by constructor <;> omega, Kc_i ?_⟩
  rw [if_pos (by omega)]
  refine g_istore hX dX2_replace_5 ?_
  dsimp only [List.set]
  refine g_iload hX dX2_replace_6 rfl ?_
  refine z_if_lt hX dX2_replace_7 (by constructor <;> omega) (fun c7 => ?_) (fun c7 => ?_)
  · exfalso; omega
  · refine g_iload hX dX2_replace_10 rfl ?_
    refine g_aload hX dX2_replace_11 rfl rfl ?_
    refine g_get hX dX2_replace_12 (by assumption) rfl ?_
    refine z_alen hX dX2_replace_15 (by assumption) (by decide) ?_
    dsimp only
    refine z_icmp_ge hX dX2_replace_16 (by constructor <;> omega) (by constructor <;> omega) (fun c16 => ?_) (fun c16 => ?_)
    · exfalso; omega
    · refine g_aload hX dX2_replace_19 rfl rfl ?_
      refine g_get hX dX2_replace_20 (by assumption) rfl ?_
      refine g_iload hX dX2_replace_23 rfl ?_
      refine g_iload hX dX2_replace_24 rfl ?_
      refine z_iast hX dX2_replace_25 ha (by omega) (by omega) (by decide) ?_
      refine g_iload hX dX2_replace_26 rfl ?_
      refine g_iret hX hR dX2_replace_27 rfl rfl (by decide) (by decide) ?_
      exact hK
