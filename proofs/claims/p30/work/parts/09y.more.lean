/-! further rules -/
theorem kint {K : hK} {M : hM} {sz : Nat} {a b : Int} (h : K (.inl (some (.int (iZ a)))) M sz) (e : a = b) : K (.inl (some (.int (iZ b)))) M sz := e ▸ h
theorem hv.ext {D : va_G} {dA : Nat → ClassId} {M : hM} {H : Heap} (h : hv D dA M H) {a k9 len : Nat} {f f' : Nat → Int32} (hm : M a = some (.inr (k9, len, .inl f))) (he : ∀ k, k < len → f k = f' k) : hv D dA (hup M a (.inr (k9, len, .inl f'))) H := by
  refine h.set ?_ (fun _ _ => rfl)
  have h1 : H[a]? = some (arrV (dA k9) len (fun j => .int (f j))) := h a _ hm
  show H[a]? = some (arrV (dA k9) len (fun j => .int (f' j)))
  rw [h1]
  unfold arrV
  congr 3
  funext j
  show Value.int (f j.val) = Value.int (f' j.val)
  rw [he j.val j.isLt]
section R5
variable {X : hX} {d : hD} {pc n t i a9 : Nat} {lv st : List Value} {M : hM} {sz cs ss : Nat} {a b : Int}
theorem z_alenM (hX : Cok X d) (h : At d pc .arraylength 1 n) (kk : G X n lv (.int (iZ 12) :: st) M sz cs ss) : G X pc lv (.ref X.2.2.2.2.2.2.2.2.1 :: st) M sz cs ss := g_alenM hX h kk
theorem z_alenD (hX : Cok X d) (h : At d pc .arraylength 1 n) (kk : G X n lv (.int (iZ 0) :: st) M sz cs ss) : G X pc lv (.ref X.2.2.2.2.2.2.2.2.2 :: st) M sz cs ss := g_alenD hX h kk
/-- an int array's places beyond its length say nothing -/
theorem g_ext {k9 len : Nat} {f f' : Nat → Int32} (hm : M a9 = some (.inr (k9, len, .inl f))) (he : ∀ k, k < len → f k = f' k) (kk : G X pc lv st (hup M a9 (.inr (k9, len, .inl f'))) sz cs ss) : G X pc lv st M sz cs ss := fun H locs ls hz hM hA hS hl => kk H locs ls hz (hM.ext hm he) (dom_up hA (hA a9 _ hm)) hS hl
theorem g_ext2 {k9 len : Nat} {f f' : Nat → Int32} (h0 : M a9 = some (.inr (k9, len, .inl f))) (he : ∀ k, k < len → f k = f' k) (kk : G X pc lv st (hup M a9 (.inr (k9, len, .inl f'))) sz cs ss) : G X pc lv st M sz cs ss := g_ext h0 he kk
/-! class objects and System.arraycopy -/
def getC9 : MethodName := ⟨"java/lang/Object", "getClass", "()Ljava/lang/Class;"⟩
def AtGC (d : hD) (pc n : Nat) : Prop := ∃ index i1 i2 i3 i4 i5 : Nat, decode d.2.1 pc = .ok (.invokevirtual index, 3) ∧ pc + 3 = n ∧ lw_tbl[i1]? = some (Cond.methodLink d.1.cls index getC9) ∧ lw_tbl[i2]? = some (Cond.declares getC9) ∧ lw_tbl[i3]? = some (Cond.selects "[Ljava/lang/Object;" getC9 getC9) ∧ lw_tbl[i4]? = some (Cond.instanceMethod getC9) ∧ lw_tbl[i5]? = some (Cond.native getC9) ∧ 1 ≤ d.2.2.2.2.1.frames ∧ 30 ≤ d.2.2.2.2.1.locals
theorem g_getC {len : Nat} {f : Nat → Option Nat} (hX : Cok X d) (h : AtGC d pc n) (hm : M a9 = some (.inr (3, len, .inr (.inr f)))) (hw : (st.map fun v => v.category).sum ≤ 8) (kk : G X n lv (.ref (X.2.2.2.2.2.1.2 99 0) :: st) M sz cs ss) : G X pc lv (.ref a9 :: st) M sz cs ss := by
  obtain ⟨⟨p, l, e, R, s, m, args, below⟩, meth, c, A, Q, g⟩ := X
  obtain ⟨hx, hb, hml, hown, hts, hKS, hAz, hAn, hst9, hlk, hrt, hnm, hR, hex⟩ := hX
  intro H locs ls hz hM hA hS hl
  obtain ⟨index, i1, i2, i3, i4, i5, h1, rfl, e1, e2, e3, e4, e5, hf, hlo⟩ := h
  obtain ⟨hK, -, -, -, -, -, -, -, -, hMi⟩ := hKS
  have hR' : R = d.2.2.2.2.1 := hR
  refine va_getC hx hb hl.1.symm hown (hts.at i1 e1 rfl) (hts.at i2 e2 rfl) (hts.at i3 e3 rfl) (hts.at i4 e4 rfl) (hts.at i5 e5 rfl) hMi ⟨_, hM a9 _ hm, rfl, ?_⟩ (by rw [hR']; exact hf) (by show _ ≤ R.locals; rw [hR']; omega) h1 (kk H locs ls hz hM hA hS hl)
  obtain ⟨_, _, _, _, _, k4⟩ := (hK.2 3 _ rfl).2
  exact k4
def AtLC (d : hD) (pc n : Nat) : Prop := ∃ index i1 : Nat, decode d.2.1 pc = .ok (.ldc index, 2) ∧ pc + 2 = n ∧ lw_tbl[i1]? = some (Cond.classLink d.1.cls index "[Ljava/lang/Object;")
theorem g_ldcM (hX : Cok X d) (h : AtLC d pc n) (kk : G X n lv (.ref (X.2.2.2.2.2.1.2 99 0) :: st) M sz cs ss) : G X pc lv st M sz cs ss := by
  obtain ⟨⟨p, l, e, R, s, m, args, below⟩, meth, c, A, Q, g⟩ := X
  obtain ⟨hx, hb, hml, hown, hts, hKS, hAz, hAn, hst9, hlk, hrt, hnm, hR, hex⟩ := hX
  intro H locs ls hz hM hA hS hl
  obtain ⟨index, i1, h1, rfl, e1⟩ := h
  obtain ⟨hK, -, -, -, -, -, -, -, -, hMi⟩ := hKS
  exact va_ldcM hx hb hown (hts.at i1 e1 rfl) hMi h1 (kk H locs ls hz hM hA hS hl)
def AtCP (d : hD) (pc n : Nat) : Prop := ∃ index i1 i2 i3 i4 : Nat, decode d.2.1 pc = .ok (.invokestatic index, 3) ∧ pc + 3 = n ∧ lw_tbl[i1]? = some (Cond.methodLink d.1.cls index arraycopyName) ∧ lw_tbl[i2]? = some (Cond.native arraycopyName) ∧ lw_tbl[i3]? = some (Cond.static arraycopyName) ∧ lw_tbl[i4]? = some (Cond.initialized "java/lang/System") ∧ 1 ≤ d.2.2.2.2.1.frames ∧ nativeFrameWords "java/lang/System" "arraycopy" 5 + 11 ≤ d.2.2.2.2.1.locals
theorem g_acopy {b9 n0 n1 : Nat} {f g9 : Nat → Option Nat} {z : Int} (hX : Cok X d) (h : AtCP d pc n) (hm0 : M a9 = some (.inr (3, n0, .inr (.inr f)))) (hm1 : M b9 = some (.inr (3, n1, .inr (.inr g9)))) (hz0 : 0 ≤ z) (hz1 : z ≤ n0) (hz2 : z ≤ n1) (hn0 : n0 < 100000)
    (hel : ∀ i : Nat, i < n0 → ∀ y : Nat, f i = some y → ∃ (ci j : Nat) (fs : List Value) (q : vw_C), M y = some (.inl (ci, fs)) ∧ cls9[ci]? = some q ∧ lw_tbl[j]? = some (Cond.castable q.1 "java/lang/Object"))
    (kk : G X n lv [] (hup M b9 (.inr (3, n1, .inr (.inr (fun k => if k < z.toNat then f k else g9 k))))) sz cs ss) : G X pc lv [.int (iZ z), .int (iZ 0), .ref b9, .int (iZ 0), .ref a9] M sz cs ss := by
  obtain ⟨⟨p, l, e, R, s, m, args, below⟩, meth, c, A, Q, G9⟩ := X
  obtain ⟨hx, hb, hml, hown, hts, hKS, hAz, hAn, hst9, hlk, hrt, hnm, hR, hex⟩ := hX
  intro H locs ls hz hM hA hS hl
  obtain ⟨index, i1, i2, i3, i4, hd1, rfl, e1, e2, e3, e4, hf, hlo⟩ := h
  have hR' : R = d.2.2.2.2.1 := hR
  have hzr : inR z := by unfold inR; omega
  have hcl : (iZ z).toNatClampNeg = z.toNat := z_cl hzr
  have hc00 : (iZ 0).toNatClampNeg = 0 := z_cl inR0
  have hK := hKS.1
  have hc0 : H[a9]? = some (vp_cell (G9.2.1 3) (n0, .inr (.inr (.inr (.inr f))))) := hM a9 _ hm0
  have hc1 : H[b9]? = some (vp_cell (G9.2.1 3) (n1, .inr (.inr (.inr (.inr g9))))) := hM b9 _ hm1
  have hn3 : ¬ iZ z < 0 := by rw [z_0, z_lt hzr inR0]; omega
  have h0n : ¬ iZ 0 < 0 := by rw [z_0, z_lt inR0 inR0]; omega
  have t0 : (iZ 0).toInt = 0 := zt inR0
  have tz : (iZ z).toInt = z := zt hzr
  intro T hT X0
  obtain ⟨-, k1, hk1, cm1, hkk1⟩ := (hK.2 3 _ rfl).1 n1 (fun j => va_rf (g9 j))
  obtain ⟨vm', X', step⟩ := X0.arraycopy hx hown (hts.at i1 e1 rfl) (hts.at i2 e2 rfl) (hts.at i3 e3 rfl) (hts.at i4 e4 rfl) (src := a9) (dst := b9) (cs := vp_cell (G9.2.1 3) (n0, .inr (.inr (.inr (.inr f))))) (cd := vp_cell (G9.2.1 3) (n1, .inr (.inr (.inr (.inr g9))))) (srcPos := iZ 0) (destPos := iZ 0) (n := iZ z) (by rw [hT]; exact hc0) (by rw [hT]; exact hc1)
    (fun _ h => by cases h) (fun _ h => by cases h) (fun h => by cases h) (fun h => by cases h) hk1 hk1 hkk1 hkk1 rfl h0n h0n hn3
    (by rw [t0, tz]; show ¬ _ > ((arrV _ n0 (fun j => va_rf (f j))).slots.size : Int); rw [arrV_size]; omega)
    (by rw [t0, tz]; show ¬ _ > ((arrV _ n1 (fun j => va_rf (g9 j))).slots.size : Int); rw [arrV_size]; omega)
    (fun vm₁ hal i hi => by
      rw [hcl] at hi
      rw [hc00, Nat.zero_add]
      have e : (vp_cell (G9.2.1 3) (n0, .inr (.inr (.inr (.inr f))))).slots.getD i .null = va_rf (f i) := by
        show (arrV _ n0 (fun j => va_rf (f j))).slots.getD _ _ = _
        rw [Array.getD_eq_getD_getElem?, arrV_read _ _ (by omega)]
        rfl
      rw [e]
      cases hy : f i with
      | none => exact ⟨rfl, trivial⟩
      | some y =>
        obtain ⟨ci, j, fs, q, hmy, hq, hj⟩ := hel i (by omega) y hy
        obtain ⟨r', hr', cellV, g1, g2, g3, -⟩ := hM y _ hmy
        have hcls := (hK.1 ci q hq).2
        obtain ⟨c0, t1, f1, f2, f3⟩ := Cond.castable_spec (hts.at j hj rfl)
        cases hcls.1.symm.trans f1
        obtain ⟨kC, hkC, -⟩ := hcls.2
        obtain ⟨kA, comp, r1, r2, r3, -⟩ := (hK.2 3 _ rfl).2
        cases hk1.symm.trans r1
        cases hkk1.symm.trans r2
        cases r3.symm.trans f2
        obtain ⟨kE, hkE, -⟩ := Vm.findClass_spec r3
        obtain ⟨kC', hkC', -⟩ := hal.2.2 _ _ hkC
        obtain ⟨kE', hkE', -⟩ := hal.2.2 _ _ hkE
        refine ⟨rfl, cellV, (show T.heap[y]? = some cellV by rw [hT]; exact g1), (fun q h => by rw [g3] at h; cases h), ⟨kC', by rw [g2]; exact hkC'⟩, ?_, ?_⟩
        · exact ⟨kE', hkE'⟩
        · show vm₁.assignable _ _ = true
          rw [hal.assignable, g2]
          exact f3)
    (g := F0 m pc ls [.int (iZ z), .int (iZ 0), .ref b9, .int (iZ 0), .ref a9]) rfl (by rw [hl.1]) (rest := []) rfl (by rw [hb]; exact hd1) (by rw [hR']; exact hf) (by show 2 * 0 + 0 + _ ≤ R.locals; rw [hR']; omega)
  have e1 : copied (vp_cell (G9.2.1 3) (n0, .inr (.inr (.inr (.inr f))))) (vp_cell (G9.2.1 3) (n1, .inr (.inr (.inr (.inr g9))))) (iZ 0) (iZ 0) (iZ z) = vp_cell (G9.2.1 3) (n1, .inr (.inr (.inr (.inr (fun k => if k < z.toNat then f k else g9 k))))) := by
    have h9 := va_copied (n1 := n1) (dp := (iZ 0).toNatClampNeg) (fun z => va_rf z) (G9.2.1 3) (G9.2.1 3) f g9 (show (iZ 0).toNatClampNeg + (iZ z).toNatClampNeg ≤ n0 by rw [hc00, hcl]; omega)
    rw [vp_cell_q, vp_cell_q, vp_cell_q]
    refine h9.trans ?_
    rw [hc00, hcl]
    unfold arrV
    congr 3
    funext j
    unfold va_cpy
    show va_rf (if 0 ≤ j.val ∧ j.val < 0 + z.toNat then f (0 + (j.val - 0)) else g9 j.val) = va_rf (if j.val < z.toNat then f j.val else g9 j.val)
    by_cases hj : j.val < z.toNat
    · rw [if_pos (by omega), if_pos hj, Nat.sub_zero, Nat.zero_add]
    · rw [if_neg (by omega), if_neg hj]
  rw [e1] at X' step
  have hlt : b9 < H.size := (Array.getElem?_eq_some_iff.mp hc1).1
  generalize hcell9 : vp_cell (G9.2.1 3) (n1, .inr (.inr (.inr (.inr (fun k => if k < z.toNat then f k else g9 k))))) = cell9 at X' step
  have hheap : ((T.setVm vm').setCell b9 cell9).heap = H.setIfInBounds b9 cell9 := by rw [← hT]; rfl
  have oq : ∀ q : Nat, q ≠ b9 → (H.setIfInBounds b9 cell9)[q]? = H[q]? := fun q hq => by simp [Array.getElem?_setIfInBounds, Ne.symm hq]
  obtain ⟨t, a1, b1⟩ := kk (H.setIfInBounds b9 cell9) _ ls (by simp; exact hz) (hM.set (show (H.setIfInBounds b9 cell9)[b9]? = some _ by rw [← hcell9]; simp [Array.getElem?_setIfInBounds, hlt]) oq) (dom_up hA (hA b9 _ hm1)) ⟨by simp; exact hS.1, fun q g1 g2 => by
      rw [oq q (fun e => g2 (by rw [e]; exact hA b9 _ hm1))]
      exact hS.2.1 q g1 g2, fun q hq => by
      rcases List.mem_append.mp hq with h | h
      · exact hS.2.2 q h
      · obtain ⟨z, -, hz⟩ := List.mem_map.mp h
        rw [← hz]
        exact hA b9 _ hm1⟩ hl _ hheap X'
  exact ⟨t, step t a1, b1⟩
end R5
