theorem uw_Jx4a65c : ∀ w ∈ u_ws RJx4a65c TJx4a65c 3, w ∈ lw_tbl ∧ tw w = true := by decide +kernel
theorem uw_X1 : ∀ w ∈ u_ws RX1 TX1 5, w ∈ lw_tbl ∧ tw w = true := by decide +kernel
theorem uw_X2 : ∀ w ∈ u_ws RX2 TX2 1, w ∈ lw_tbl ∧ tw w = true := by decide +kernel
theorem uw_X3 : ∀ w ∈ u_ws RX3 TX3 2, w ∈ lw_tbl ∧ tw w = true := by decide +kernel
theorem uw_X4 : ∀ w ∈ u_ws RX4 TX4 3, w ∈ lw_tbl ∧ tw w = true := by decide +kernel
theorem uw_X5 : ∀ w ∈ u_ws RX5 TX5 5, w ∈ lw_tbl ∧ tw w = true := by decide +kernel
theorem uw_X6 : ∀ w ∈ u_ws RX6 TX6 4, w ∈ lw_tbl ∧ tw w = true := by decide +kernel
theorem uw_X7 : ∀ w ∈ u_ws RX7 TX7 5, w ∈ lw_tbl ∧ tw w = true := by decide +kernel
theorem uw_X8 : ∀ w ∈ u_ws RX8 TX8 5, w ∈ lw_tbl ∧ tw w = true := by decide +kernel
theorem uw_X9 : ∀ w ∈ u_ws RX9 TX9 7, w ∈ lw_tbl ∧ tw w = true := by decide +kernel
def tyf9 : List (Nat → FieldType) := [tyJx4a65c, tyX1, tyX2, tyX3, tyX4, tyX5, tyX6, tyX7, tyX8, tyX9]
theorem c9_cases {P : Nat → vw_C → Prop} (h0 : P 0 (RJx4a65c, TJx4a65c, 3)) (h1 : P 1 (RX1, TX1, 5)) (h2 : P 2 (RX2, TX2, 1)) (h3 : P 3 (RX3, TX3, 2)) (h4 : P 4 (RX4, TX4, 3)) (h5 : P 5 (RX5, TX5, 5)) (h6 : P 6 (RX6, TX6, 4)) (h7 : P 7 (RX7, TX7, 5)) (h8 : P 8 (RX8, TX8, 5)) (h9 : P 9 (RX9, TX9, 7)) : ∀ (ci : Nat) (q : vw_C), cls9[ci]? = some q → P ci q := by
  intro ci q hq
  match ci, hq with
  | 0, hq => cases hq; exact h0
  | 1, hq => cases hq; exact h1
  | 2, hq => cases hq; exact h2
  | 3, hq => cases hq; exact h3
  | 4, hq => cases hq; exact h4
  | 5, hq => cases hq; exact h5
  | 6, hq => cases hq; exact h6
  | 7, hq => cases hq; exact h7
  | 8, hq => cases hq; exact h8
  | 9, hq => cases hq; exact h9
  | k + 10, hq => simp [cls9] at hq
theorem uw9 : ∀ (ci : Nat) (q : vw_C), cls9[ci]? = some q → ∀ w ∈ u_ws q.1 q.2.1 q.2.2, w ∈ lw_tbl ∧ tw w = true := c9_cases (P := fun _ q => ∀ w ∈ u_ws q.1 q.2.1 q.2.2, w ∈ lw_tbl ∧ tw w = true) uw_Jx4a65c uw_X1 uw_X2 uw_X3 uw_X4 uw_X5 uw_X6 uw_X7 uw_X8 uw_X9
theorem ty9 : ∀ (ci : Nat) (q : vw_C), cls9[ci]? = some q → ∀ k, k < q.2.2 → parseFieldDescriptor (q.2.1 k).2.2.1 = some ((tyf9.getD ci tyX9) k) := c9_cases (P := fun ci q => ∀ k, k < q.2.2 → parseFieldDescriptor (q.2.1 k).2.2.1 = some ((tyf9.getD ci tyX9) k)) tyJx4a65c_ok tyX1_ok tyX2_ok tyX3_ok tyX4_ok tyX5_ok tyX6_ok tyX7_ok tyX8_ok tyX9_ok
theorem nm9 : ∀ (ci : Nat) (q : vw_C), cls9[ci]? = some q → ∀ a, a < q.2.2 → ∀ b, b < q.2.2 → a ≠ b → (q.2.1 a).2.1 ≠ (q.2.1 b).2.1 := c9_cases (P := fun _ q => ∀ a, a < q.2.2 → ∀ b, b < q.2.2 → a ≠ b → (q.2.1 a).2.1 ≠ (q.2.1 b).2.1) nmJx4a65c nmX1 nmX2 nmX3 nmX4 nmX5 nmX6 nmX7 nmX8 nmX9
/-! fields -/
def AtFl (d : hD) (index : Nat) (q : vw_C) (k : Nat) : Prop :=
  (∃ i : Nat, lw_tbl[i]? = some (Cond.fieldLink d.1.cls index (q.2.1 k).1 (q.2.1 k).2.1 (q.2.1 k).2.2.1)) ∨
  (∃ (i j : Nat) (ref : String), lw_tbl[i]? = some (Cond.fieldLink d.1.cls index ref (q.2.1 k).2.1 (q.2.1 k).2.2.1) ∧ lw_tbl[j]? = some (Cond.sameField ref (q.2.1 k).1 (q.2.1 k).2.1 (q.2.1 k).2.2.1))
def AtFn (d : hD) (index : Nat) (q : vw_C) (k : Nat) : Prop := ∃ (i : Nat) (host : String), lw_tbl[i]? = some (Cond.fieldLinkNest d.1.cls index (q.2.1 k).1 (q.2.1 k).2.1 (q.2.1 k).2.2.1 host)
def AtF (d : hD) (pc ci k n : Nat) : Prop := ∃ (index : Nat) (q : vw_C), decode d.2.1 pc = .ok (.getfield index, 3) ∧ pc + 3 = n ∧ cls9[ci]? = some q ∧ k < q.2.2 ∧ (AtFl d index q k ∨ AtFn d index q k)
def AtP (d : hD) (pc ci k : Nat) (ty : FieldType) (n : Nat) : Prop := ∃ (index : Nat) (q : vw_C), decode d.2.1 pc = .ok (.putfield index, 3) ∧ pc + 3 = n ∧ cls9[ci]? = some q ∧ k < q.2.2 ∧ AtFl d index q k ∧ parseFieldDescriptor (q.2.1 k).2.2.1 = some ty ∧ ((q.2.1 k).2.2.2 = false ∨ ((q.2.1 k).2.2.2 = true ∧ d.1.name = "<init>" ∧ (q.2.1 k).1 = d.1.cls))
theorem fl_use {d : hD} {index : Nat} {q : vw_C} {k : Nat} {args : Array Value} {s : State} (hts : TW args s) (h : AtFl d index q k) : ∃ ref : String, (Cond.fieldLink d.1.cls index ref (q.2.1 k).2.1 (q.2.1 k).2.2.1).before args s = true ∧ ∀ x, s.fieldFound? (q.2.1 k).1 (q.2.1 k).2.1 (q.2.1 k).2.2.1 = some x → s.fieldFound? ref (q.2.1 k).2.1 (q.2.1 k).2.2.1 = some x := by
  rcases h with ⟨i, hi⟩ | ⟨i, j, ref, hi, hj⟩
  · exact ⟨_, hts.at i hi rfl, fun _ z => z⟩
  · exact ⟨ref, hts.at i hi rfl, u_same (hts.at j hj rfl)⟩
section R2
variable {X : hX} {d : hD} {pc n t i a ci k : Nat} {lv st : List Value} {M : hM} {sz cs ss : Nat}
theorem g_get {fs : List Value} {v : Value} (hX : Cok X d) (h : AtF d pc ci k n) (hm : M a = some (.inl (ci, fs))) (hv : fs[k]? = some v) (kk : G X n lv (v :: st) M sz cs ss) : G X pc lv (.ref a :: st) M sz cs ss := by
  obtain ⟨⟨p, l, e, R, s, m, args, below⟩, meth, c, A, Q, g⟩ := X
  obtain ⟨hx, hb, hml, hown, hts, hKS, hAz, hAn, hst9, hlk, hrt, hnm, hR, hex⟩ := hX
  intro H locs ls hz hM hA hS hl
  obtain ⟨index, ⟨C, T, N⟩, h1, rfl, hq, hk, hf⟩ := h
  rcases hf with hf | ⟨j, host, hj⟩
  · obtain ⟨ref, hl1, hsame⟩ := fl_use hts hf
    exact va_get (D := g.1) (Ts := u_ws C T N) hx hb (fun w hw => hts w (uw9 ci _ hq w hw).1 (uw9 ci _ hq w hw).2) (fun _ z => z) hown hKS.1 (hM.one hm) 0 rfl hq k hk hl1 hsame hv h1 (kk H locs ls hz hM hA hS hl)
  · exact va_getN (D := g.1) (Ts := u_ws C T N) hx hb (fun w hw => hts w (uw9 ci _ hq w hw).1 (uw9 ci _ hq w hw).2) (fun _ z => z) hown hKS.1 (hM.one hm) 0 rfl hq k hk (hts.at j hj rfl) (fun _ z => z) hv h1 (kk H locs ls hz hM hA hS hl)
theorem g_put {fs : List Value} {v : Value} {ty : FieldType} (hX : Cok X d) (h : AtP d pc ci k ty n) (hm : M a = some (.inl (ci, fs))) (hlen : k < fs.length) (hn : narrow ty v = v) (hfit : fits ty v = true) (kk : G X n lv st (hup M a (.inl (ci, fs.set k v))) sz cs ss) : G X pc lv (v :: .ref a :: st) M sz cs ss := by
  obtain ⟨⟨p, l, e, R, s, m, args, below⟩, meth, c, A, Q, g⟩ := X
  obtain ⟨hx, hb, hml, hown, hts, hKS, hAz, hAn, hst9, hlk, hrt, hnm, hR, hex⟩ := hX
  intro H locs ls hz hM hA hS hl
  obtain ⟨index, ⟨C, T, N⟩, h1, rfl, hq, hk, hf, hd, hfin⟩ := h
  obtain ⟨ref, hl1, hsame⟩ := fl_use hts hf
  have hts9 : ∀ w ∈ u_ws C T N, w.before args s = true := fun w hw => hts w (uw9 ci _ hq w hw).1 (uw9 ci _ hq w hw).2
  have hap := va_apart (own := d.1.cls) hts9 (fun _ z => z) _ (ty9 ci _ hq) (nm9 ci _ hq) hKS.1 hq
  obtain ⟨r, r1, cell, q1, q2, q3, q4⟩ := hM a _ hm
  have hr : r = (C, T, N) := Option.some.inj (r1.symm.trans hq)
  subst hr
  obtain ⟨hSl, hfc, kC, hkC, hkind⟩ := hKS.1.1 ci _ hq
  obtain ⟨cf, kf, fi, f, hi, hsl⟩ := hSl k hk
  have hlay := hts9 _ (u_in_lay hk)
  have hst := (u_facts hfc hkC (u_lays hts9 (fun _ z => z) hk) hi).1
  have fin : ∀ H' : Heap, H'[a]? = some (cell.setSlot f.slot v) → H'.size = H.size → (∀ q, q ≠ a → H'[q]? = H[q]?) → W p l e R s m args below meth c H' (locs ++ [⟨a, f.slot⟩]) cs ss Q (F0 m (pc + 3) ls st) := by
    intro H' e1 e2 e3
    rw [hsl] at e1
    refine kk H' _ ls (e2.trans hz) (hM.set ⟨_, hq, t_OB.to (V := updV (vp_V fs) k v) ⟨_, e1, q2, q3, t_set q4 hap hk v⟩ (fun j _ => vp_updV_set hlen v j)⟩ e3) ?_ (hS.put e2 e3 (hA a _ hm)) hl
    intro q x hx9
    by_cases eq : q = a
    · rw [eq]; exact hA a _ hm
    · rw [hup_n _ _ eq] at hx9; exact hA q x hx9
  rcases hfin with hfin | ⟨hfin, hin1, hdecl⟩
  · unfold u_lay at hlay
    rw [if_neg (by rw [hfin]; decide)] at hlay
    have h6 := u_store hfc hkC hkind hlay hi hd hn hfit
    exact W.putK hx hb (f := f) ⟨hown, hl1, ⟨_, _, _, hsame _ hi⟩, hst⟩ (by rw [q2]; exact h6) q1 q3 (by rw [hsl]; exact k2_hasslot (q4 k hk)) rfl rfl h1 fin
  · unfold u_lay at hlay
    rw [if_pos hfin] at hlay
    have hcf : m.cls = cf := by
      obtain ⟨_, _, c', _, _, _, -, -, hf', -, -, -, hown2, -⟩ := Cond.laysFinal_spec hlay
      have e1 : c' = cf := by have := hi.symm.trans hf'; simp at this; exact this.1.symm
      rw [hdecl] at hown2
      rw [← e1]; exact Option.some.inj (hown.symm.trans hown2)
    have h6 := u_fits hfc hkC hkind (Or.inr hlay) hi hd hn hfit
    exact W.putFinK hx hb hown hl1 (hsame _ hi) hst hcf (hnm.trans hin1) (by rw [q2]; exact h6) q1 q3 (by rw [hsl]; exact k2_hasslot (q4 k hk)) rfl rfl h1 fin
theorem g_iald {i : Int32} {len : Nat} {f : Nat → Int32} (hX : Cok X d) (h : At d pc .iaload 1 n) (hm : M a = some (.inr (0, len, .inl f))) (hin : vp_in i len) (kk : G X n lv (.int (f i.toNatClampNeg) :: st) M sz cs ss) : G X pc lv (.int i :: .ref a :: st) M sz cs ss := by
  obtain ⟨⟨p, l, e, R, s, m, args, below⟩, meth, c, A, Q, g⟩ := X
  obtain ⟨hx, hb, hml, hown, hts, hKS, hAz, hAn, hst9, hlk, hrt, hnm, hR, hex⟩ := hX
  intro H locs ls hz hM hA hS hl
  obtain ⟨h1, rfl⟩ := h
  exact va_iald (D := g.1) hx hb hKS.1 (hM.one hm) 0 0 rfl rfl hin h1 (kk H locs ls hz hM hA hS hl)
theorem g_aald {i : Int32} {len : Nat} {f : Nat → Option Nat} (hX : Cok X d) (h : At d pc .aaload 1 n) (hm : M a = some (.inr (3, len, .inr (.inr f)))) (hin : vp_in i len) (kk : G X n lv (va_rf (f i.toNatClampNeg) :: st) M sz cs ss) : G X pc lv (.int i :: .ref a :: st) M sz cs ss := by
  obtain ⟨⟨p, l, e, R, s, m, args, below⟩, meth, c, A, Q, g⟩ := X
  obtain ⟨hx, hb, hml, hown, hts, hKS, hAz, hAn, hst9, hlk, hrt, hnm, hR, hex⟩ := hX
  intro H locs ls hz hM hA hS hl
  obtain ⟨h1, rfl⟩ := h
  exact va_aldq (D := g.1) hx hb hKS.1 (hM.one hm) 0 3 rfl rfl hin h1 (kk H locs ls hz hM hA hS hl)
theorem g_alen {x : Nat × ((Nat → Int32) ⊕ ((Nat → Int64) ⊕ (Nat → Option Nat)))} {k9 : Nat} (hX : Cok X d) (h : At d pc .arraylength 1 n) (hm : M a = some (.inr (k9, x))) (hk9 : k9 < 4) (kk : G X n lv (.int (Int32.ofNat x.1) :: st) M sz cs ss) : G X pc lv (.ref a :: st) M sz cs ss := by
  obtain ⟨⟨p, l, e, R, s, m, args, below⟩, meth, c, A, Q, g⟩ := X
  obtain ⟨hx, hb, hml, hown, hts, hKS, hAz, hAn, hst9, hlk, hrt, hnm, hR, hex⟩ := hX
  intro H locs ls hz hM hA hS hl
  obtain ⟨h1, rfl⟩ := h
  obtain ⟨len, f | f | f⟩ := x
  all_goals
    have hK9 : ∃ ty, (tys9 g.2.1)[k9]? = some (g.2.1 k9, ty) := by
      match k9, hk9 with
      | 0, _ => exact ⟨_, rfl⟩
      | 1, _ => exact ⟨_, rfl⟩
      | 2, _ => exact ⟨_, rfl⟩
      | 3, _ => exact ⟨_, rfl⟩
    obtain ⟨ty, hty⟩ := hK9
    exact va_alen (D := g.1) hx hb hKS.1 (hM.one hm) 0 k9 rfl hty rfl h1 (kk H locs ls hz hM hA hS hl)
theorem dom_up {A : Nat → Prop} {x : hC} (hA : ∀ (q : Nat) (x : hC), M q = some x → A q) (ha : A a) : ∀ (q : Nat) (y : hC), hup M a x q = some y → A q := by
  intro q y hy
  by_cases e : q = a
  · rw [e]; exact ha
  · rw [hup_n _ _ e] at hy; exact hA q y hy
theorem g_iast {i : Int32} {x : Int32} {len : Nat} {f : Nat → Int32} (hX : Cok X d) (h : At d pc .iastore 1 n) (hm : M a = some (.inr (0, len, (.inl f)))) (hin : vp_in i len) (kk : G X n lv st (hup M a (.inr (0, len, (.inl (upd f i.toNatClampNeg x))))) sz cs ss) : G X pc lv (.int x :: .int i :: .ref a :: st) M sz cs ss := by
  obtain ⟨⟨p, l, e, R, s, m, args, below⟩, meth, c, A, Q, g⟩ := X
  obtain ⟨hx, hb, hml, hown, hts, hKS, hAz, hAn, hst9, hlk, hrt, hnm, hR, hex⟩ := hX
  intro H locs ls hz hM hA hS hl
  obtain ⟨h1, rfl⟩ := h
  refine W.iast hx hb (hM a _ hm) ((hKS.1.2 0 _ rfl).1 len (fun j => .int (f j))) (fun q => by cases q) (by show ¬ (i < 0 ∨ (arrV _ _ _).slots.size ≤ _); rw [arrV_size]; exact hin) rfl rfl h1 fun H1 e z oq => ?_
  refine kk H1 _ ls (z.trans hz) (hM.set ?_ oq) (dom_up hA (hA a _ hm)) (hS.put z oq (hA a _ hm)) hl
  show H1[a]? = some (vp_cell _ _)
  rw [e]
  dsimp only
  rw [vp_cell_i, vp_cell_i, arrV_store]
  congr 2
  funext q
  by_cases hq : q = i.toNatClampNeg
  · subst hq
    simp [updV, upd, vp_updL, vp_nar]
    try rfl
  · simp [updV, upd, vp_updL, hq]
theorem g_aast {i : Int32} {v : Nat} {len cv : Nat} {vs : List Value} {f : Nat → Option Nat} (hX : Cok X d) (h : At d pc .aastore 1 n) (hm : M a = some (.inr (3, len, .inr (.inr f)))) (hin : vp_in i len) (hmv : M v = some (.inl (cv, vs))) (hcast : ∃ (j : Nat) (q : vw_C), cls9[cv]? = some q ∧ lw_tbl[j]? = some (Cond.castable q.1 "java/lang/Object")) (kk : G X n lv st (hup M a (.inr (3, len, .inr (.inr (va_up f i.toNatClampNeg (some v)))))) sz cs ss) : G X pc lv (.ref v :: .int i :: .ref a :: st) M sz cs ss := by
  obtain ⟨⟨p, l, e, R, s, m, args, below⟩, meth, c, A, Q, g⟩ := X
  obtain ⟨hx, hb, hml, hown, hts, hKS, hAz, hAn, hst9, hlk, hrt, hnm, hR, hex⟩ := hX
  intro H locs ls hz hM hA hS hl
  obtain ⟨h1, rfl⟩ := h
  obtain ⟨j9, q9, hq9, hj9⟩ := hcast
  have hlt : i.toNatClampNeg < len := Nat.not_le.mp fun q => hin (Or.inr q)
  have h0 : ¬ i < 0 := fun q => hin (Or.inl q)
  obtain ⟨r', hr', cellV, g1, g2, g3, -⟩ := hM v _ hmv
  have hcls := (hKS.1.1 cv q9 hq9).2
  obtain ⟨kA, comp, k1, k2, k3, -⟩ := (hKS.1.2 3 _ rfl).2
  obtain ⟨kE, hkE, -⟩ := Vm.findClass_spec k3
  obtain ⟨c0, t1, f1, f2, f3⟩ := Cond.castable_spec (hts.at j9 hj9 rfl)
  cases hcls.1.symm.trans f1
  cases k3.symm.trans f2
  obtain ⟨kC, hkC, -⟩ := hcls.2
  refine W.aast hx hb (hM a _ hm) (fun q h => by cases h) (fun h => by cases h) k1 k2 rfl hkE ⟨h0, by show _ < (arrV _ _ _).slots.size; rw [arrV_size]; exact hlt⟩ g1 (fun q h => by rw [g3] at h; cases h) (by rw [g2]; exact hkC) (by rw [g2]; exact f3) rfl rfl h1 fun H1 e z oq => ?_
  refine kk H1 _ ls (z.trans hz) (hM.set ?_ oq) (dom_up hA (hA a _ hm)) (hS.put z oq (hA a _ hm)) hl
  show H1[a]? = some (vp_cell _ _)
  rw [e]
  dsimp only
  rw [vp_cell_q, vp_cell_q, arrV_store]
  congr 2
  funext q
  by_cases hq : q = i.toNatClampNeg
  · subst hq
    simp [updV, va_up, va_rf]
  · simp [updV, va_up, hq]
/-! what is made -/
def AtN (d : hD) (pc ci : Nat) (fs : List Value) (n : Nat) : Prop := ∃ (index i1 i2 i3 : Nat) (q : vw_C), decode d.2.1 pc = .ok (.new index, 3) ∧ pc + 3 = n ∧ cls9[ci]? = some q ∧ lw_tbl[i1]? = some (Cond.classLink d.1.cls index q.1) ∧ lw_tbl[i2]? = some (Cond.instantiable q.1 q.2.2) ∧ lw_tbl[i3]? = some (Cond.initialized q.1) ∧ fs.length = q.2.2 ∧ ∀ j, j < q.2.2 → defaultValue ((tyf9.getD ci tyX9) j) = vp_V fs j
theorem g_new {fs : List Value} {N : Nat} (hX : Cok X d) (h : AtN d pc ci fs n) (hN : fs.length = N) (hc : cs + 1 ≤ d.2.2.2.2.1.cells) (hs : ss + N ≤ d.2.2.2.2.1.slots) (kk : G X n lv (.ref sz :: st) (hup M sz (.inl (ci, fs))) (sz + 1) (cs + 1) (ss + N)) : G X pc lv st M sz cs ss := by
  obtain ⟨⟨p, l, e, R, s, m, args, below⟩, meth, c, A, Q, g⟩ := X
  obtain ⟨hx, hb, hml, hown, hts, hKS, hAz, hAn, hst9, hlk, hrt, hnm, hR, hex⟩ := hX
  intro H locs ls hz hM hA hS hl
  obtain ⟨index, i1, i2, i3, ⟨C, T, N'⟩, h1, rfl, hq, e1, e2, e3, hlen, hfs⟩ := h
  have hNN : N = N' := hN.symm.trans hlen
  subst hNN
  have hKn := hKS.1.1 ci _ hq
  have hts9 : ∀ w ∈ u_ws C T N, w.before args s = true := fun w hw => hts w (uw9 ci _ hq w hw).1 (uw9 ci _ hq w hw).2
  have hR' : R = d.2.2.2.2.1 := hR
  subst hz
  refine W.newcK hx hb hown (hts.at i1 e1 rfl) (hts.at i2 e2 rfl) (hts.at i3 e3 rfl) rfl h1 (by rw [hR']; exact hc) (by rw [hR']; exact hs) hKn.2.1 rfl fun H1 kC hkC g1 z1 o1 => ?_
  refine kk H1 locs ls z1 (hM.push ⟨_, hq, (u_born _ hts9 (fun _ z => z) hKn hkC g1 (ty9 ci _ hq)).to hfs⟩ o1) (dom_up hA (hAn _ hS.1)) ⟨Nat.le_trans hS.1 (by omega), fun x h1 h2 => (o1 x (Nat.lt_of_lt_of_le h1 hS.1)).trans (hS.2.1 x h1 h2), hS.2.2⟩ hl
def AtNA (d : hD) (pc k9 : Nat) (n : Nat) : Prop := ∃ (at9 : ArrayType) (i : Nat), decode d.2.1 pc = .ok (.newarray at9, 2) ∧ pc + 2 = n ∧ lw_tbl[i]? = some (Cond.arrayClass (newarray.typeOf at9)) ∧ k9 < 1 ∧ (tys9 (fun _ => 0))[k9]? = some (0, newarray.typeOf at9) ∧ componentBytes (newarray.typeOf at9) ≤ 8
def nul9 (k9 : Nat) : (Nat → Int32) ⊕ ((Nat → Int64) ⊕ (Nat → Option Nat)) := if k9 = 2 then .inr (.inl (fun _ => 0)) else .inl (fun _ => 0)
theorem g_newa {i : Int32} {k9 N : Nat} (hX : Cok X d) (h : AtNA d pc k9 n) (hi : i = nI N) (hN : N < 65536) (hc : cs + 1 ≤ d.2.2.2.2.1.cells) (hs : ss + N ≤ d.2.2.2.2.1.slots) (kk : G X n lv (.ref sz :: st) (hup M sz (.inr (k9, N, nul9 k9))) (sz + 1) (cs + 1) (ss + N)) : G X pc lv (.int i :: st) M sz cs ss := by
  obtain ⟨⟨p, l, e, R, s, m, args, below⟩, meth, c, A, Q, g⟩ := X
  obtain ⟨hx, hb, hml, hown, hts, hKS, hAz, hAn, hst9, hlk, hrt, hnm, hR, hex⟩ := hX
  intro H locs ls hz hM hA hS hl
  obtain ⟨at9, j, h1, rfl, e1, hk9, ht9, hcb⟩ := h
  subst hi
  have hR' : R = d.2.2.2.2.1 := hR
  subst hz
  refine va_newaK hx hb (hts.at j e1 rfl) rfl h1 rfl (nI_pos (by omega)) (nI_clamp (by omega)) ?_ (by rw [hR']; exact hc) (by rw [hR']; exact hs) rfl fun H1 cA g1 z1 o1 hAr hNm => ?_
  · have := Nat.mul_le_mul (Nat.le_of_lt hN) hcb
    omega
  have hcA : cA = g.2.1 k9 ∧ ∃ v9 : Nat → Value, vp_cell cA (match nul9 k9 with | .inl f => (N, .inl f) | .inr (.inl f) => (N, .inr (.inl f)) | .inr (.inr f) => (N, .inr (.inr (.inr (.inr f))))) = arrV cA N (fun _ => defaultValue (newarray.typeOf at9)) := by
    match k9, hk9 with
    | 0, _ =>
      have ht : newarray.typeOf at9 = .int := by simpa [tys9] using ht9.symm
      rw [ht] at hNm ⊢
      exact ⟨Option.some.inj (hNm.symm.trans (hKS.1.2 0 _ rfl).2), fun _ => .null, rfl⟩
  obtain ⟨rfl, -, hce⟩ := hcA
  refine kk H1 locs ls z1 (hM.push ?_ o1) (dom_up hA (hAn _ hS.1)) ⟨Nat.le_trans hS.1 (by omega), fun x h1 h2 => (o1 x (Nat.lt_of_lt_of_le h1 hS.1)).trans (hS.2.1 x h1 h2), hS.2.2⟩ hl
  have hg : H1[H.size]? = some (vp_cell (g.2.1 k9) (match nul9 k9 with | .inl f => (N, .inl f) | .inr (.inl f) => (N, .inr (.inl f)) | .inr (.inr f) => (N, .inr (.inr (.inr (.inr f)))))) := by rw [hce]; exact g1
  by_cases h2 : k9 = 2
  · subst h2
    exact hg
  · unfold nul9 at hg ⊢
    rw [if_neg h2] at hg ⊢
    exact hg
def AtNQ (d : hD) (pc n : Nat) : Prop := ∃ (index i : Nat), decode d.2.1 pc = .ok (.anewarray index, 3) ∧ pc + 3 = n ∧ lw_tbl[i]? = some (Cond.classLink d.1.cls index "java/lang/Object")
theorem g_newq {i : Int32} {N : Nat} (hX : Cok X d) (h : AtNQ d pc n) (hi : i = nI N) (hN : N < 65536) (hc : cs + 1 ≤ d.2.2.2.2.1.cells) (hs : ss + N ≤ d.2.2.2.2.1.slots) (kk : G X n lv (.ref sz :: st) (hup M sz (.inr (3, N, .inr (.inr (fun _ => none))))) (sz + 1) (cs + 1) (ss + N)) : G X pc lv (.int i :: st) M sz cs ss := by
  obtain ⟨⟨p, l, e, R, s, m, args, below⟩, meth, c, A, Q, g⟩ := X
  obtain ⟨hx, hb, hml, hown, hts, hKS, hAz, hAn, hst9, hlk, hrt, hnm, hR, hex⟩ := hX
  intro H locs ls hz hM hA hS hl
  obtain ⟨index, j, h1, rfl, e1⟩ := h
  subst hi
  have hR' : R = d.2.2.2.2.1 := hR
  subst hz
  obtain ⟨hK, -, -, -, -, -, -, hAO, -⟩ := hKS
  have hcl : (nI N).toNatClampNeg = N := nI_clamp (by omega)
  refine W.anew hx hb hown (hts.at j e1 rfl) (va_AO.use hAO) rfl h1 rfl (nI_pos (by omega)) (by rw [hcl]; omega) (by rw [hR']; exact hc) (by rw [hR', hcl]; exact hs) fun cA kA comp f1 f2 f3 f4 => ?_
  rw [hcl]
  have hcA : cA = g.2.1 3 := by
    obtain ⟨_, _, _, _, _, k4⟩ := (hK.2 3 _ rfl).2
    exact Option.some.inj (f1.symm.trans k4)
  subst hcA
  generalize hH1 : H.push ({ cls := g.2.1 3, slots := Array.replicate N .null, vm := .none } : Cell) = H1
  have z1 : H1.size = H.size + 1 := by rw [← hH1, Array.size_push]
  have e1 : H1[H.size]? = some (arrV (g.2.1 3) N (fun _ => .null)) := by rw [← hH1, Array.getElem?_push_size, ← arrV_new]
  have o1 : ∀ q : Nat, q < H.size → H1[q]? = H[q]? := fun q hq => by rw [← hH1, Array.getElem?_push, if_neg (Nat.ne_of_lt hq)]
  exact kk H1 locs ls z1 (hM.push (show H1[H.size]? = some (vp_cell _ _) by rw [vp_cell_q]; exact e1) o1) (dom_up hA (hAn _ hS.1)) ⟨Nat.le_trans hS.1 (by omega), fun x h1 h2 => (o1 x (Nat.lt_of_lt_of_le h1 hS.1)).trans (hS.2.1 x h1 h2), hS.2.2⟩ hl
/-! statics, casts, domains -/
def AtGS (d : hD) (pc : Nat) (C nm ds : String) (n : Nat) : Prop := ∃ (index i : Nat), decode d.2.1 pc = .ok (.getstatic index, 3) ∧ pc + 3 = n ∧ lw_tbl[i]? = some (Cond.fieldLink d.1.cls index C nm ds)
theorem g_getsM (hX : Cok X d) (h : AtGS d pc "Hymnwright$Days" "AHEAD_OF_MONTH" "[I" n) (kk : G X n lv (.ref X.2.2.2.2.2.2.2.2.1 :: st) M sz cs ss) : G X pc lv st M sz cs ss := by
  obtain ⟨⟨p, l, e, R, s, m, args, below⟩, meth, c, A, Q, g⟩ := X
  obtain ⟨hx, hb, hml, hown, hts, hKS, hAz, hAn, hst9, hlk, hrt, hnm, hR, hex⟩ := hX
  intro H locs ls hz hM hA hS hl
  obtain ⟨index, j, h1, rfl, e1⟩ := h
  obtain ⟨-, -, -, ⟨h4, -, -⟩, -⟩ := hKS
  exact va_gets hx hb (h4.narrow hAz) hS hown (hts.at j e1 rfl) (fun _ z => z) h1 (kk H locs ls hz hM hA hS hl)
theorem g_getsD (hX : Cok X d) (h : AtGS d pc "java/util/ArrayList" "DEFAULTCAPACITY_EMPTY_ELEMENTDATA" "[Ljava/lang/Object;" n) (kk : G X n lv (.ref X.2.2.2.2.2.2.2.2.2 :: st) M sz cs ss) : G X pc lv st M sz cs ss := by
  obtain ⟨⟨p, l, e, R, s, m, args, below⟩, meth, c, A, Q, g⟩ := X
  obtain ⟨hx, hb, hml, hown, hts, hKS, hAz, hAn, hst9, hlk, hrt, hnm, hR, hex⟩ := hX
  intro H locs ls hz hM hA hS hl
  obtain ⟨index, j, h1, rfl, e1⟩ := h
  obtain ⟨-, -, -, -, ⟨h4, -, -⟩, -⟩ := hKS
  exact va_gets hx hb (h4.narrow hAz) hS hown (hts.at j e1 rfl) (fun _ z => z) h1 (kk H locs ls hz hM hA hS hl)
theorem g_ialdM {i : Int32} (hX : Cok X d) (h : At d pc .iaload 1 n) (hin : vp_in i 12) (kk : G X n lv (.int (fM i.toNatClampNeg) :: st) M sz cs ss) : G X pc lv (.int i :: .ref X.2.2.2.2.2.2.2.2.1 :: st) M sz cs ss := by
  obtain ⟨⟨p, l, e, R, s, m, args, below⟩, meth, c, A, Q, g⟩ := X
  obtain ⟨hx, hb, hml, hown, hts, hKS, hAz, hAn, hst9, hlk, hrt, hnm, hR, hex⟩ := hX
  intro H locs ls hz hM hA hS hl
  obtain ⟨h1, rfl⟩ := h
  obtain ⟨-, -, hz0, ⟨-, h5, h6⟩, -⟩ := hKS
  obtain ⟨cell, c1, c2, c3, c4, c5, c6, c7⟩ := h5
  have hlt : i.toNatClampNeg < 12 := Nat.not_le.mp fun q => hin (Or.inr q)
  exact W.iald (v := .int (fM i.toNatClampNeg)) hx hb (by rw [hS.2.1 _ (Nat.lt_of_lt_of_le h6 hz0) (fun q => absurd (hAz _ q) (Nat.not_le.mpr h6))]; exact c1) c2 c3 (fun q => hin (q.imp id (fun z => Nat.le_trans c4 z))) (c6 _ hlt) rfl rfl h1 (kk H locs ls hz hM hA hS hl)
theorem g_alenM (hX : Cok X d) (h : At d pc .arraylength 1 n) (kk : G X n lv (.int 12 :: st) M sz cs ss) : G X pc lv (.ref X.2.2.2.2.2.2.2.2.1 :: st) M sz cs ss := by
  obtain ⟨⟨p, l, e, R, s, m, args, below⟩, meth, c, A, Q, g⟩ := X
  obtain ⟨hx, hb, hml, hown, hts, hKS, hAz, hAn, hst9, hlk, hrt, hnm, hR, hex⟩ := hX
  intro H locs ls hz hM hA hS hl
  obtain ⟨h1, rfl⟩ := h
  obtain ⟨-, -, hz0, ⟨-, h5, h6⟩, -⟩ := hKS
  obtain ⟨cell, c1, c2, c3, c4, c5, c6, c7⟩ := h5
  exact W.alen hx hb (by rw [hS.2.1 _ (Nat.lt_of_lt_of_le h6 hz0) (fun q => absurd (hAz _ q) (Nat.not_le.mpr h6))]; exact c1) c2 (c5.trans (by decide)) rfl rfl h1 (kk H locs ls hz hM hA hS hl)
theorem g_alenD (hX : Cok X d) (h : At d pc .arraylength 1 n) (kk : G X n lv (.int 0 :: st) M sz cs ss) : G X pc lv (.ref X.2.2.2.2.2.2.2.2.2 :: st) M sz cs ss := by
  obtain ⟨⟨p, l, e, R, s, m, args, below⟩, meth, c, A, Q, g⟩ := X
  obtain ⟨hx, hb, hml, hown, hts, hKS, hAz, hAn, hst9, hlk, hrt, hnm, hR, hex⟩ := hX
  intro H locs ls hz hM hA hS hl
  obtain ⟨h1, rfl⟩ := h
  obtain ⟨-, -, hz0, -, ⟨-, ⟨cell, ty, c1, c2, c3⟩, h6⟩, -⟩ := hKS
  exact W.alen hx hb (by rw [hS.2.1 _ (Nat.lt_of_lt_of_le h6 hz0) (fun q => absurd (hAz _ q) (Nat.not_le.mpr h6))]; exact c1) c2 c3 rfl rfl h1 (kk H locs ls hz hM hA hS hl)
def AtC (d : hD) (pc ci n : Nat) : Prop := ∃ (index i : Nat) (q : vw_C), decode d.2.1 pc = .ok (.checkcast index, 3) ∧ pc + 3 = n ∧ cls9[ci]? = some q ∧ lw_tbl[i]? = some (Cond.classLink d.1.cls index q.1)
theorem g_cast {fs : List Value} (hX : Cok X d) (h : AtC d pc ci n) (hm : M a = some (.inl (ci, fs))) (kk : G X n lv (.ref a :: st) M sz cs ss) : G X pc lv (.ref a :: st) M sz cs ss := by
  obtain ⟨⟨p, l, e, R, s, m, args, below⟩, meth, c, A, Q, g⟩ := X
  obtain ⟨hx, hb, hml, hown, hts, hKS, hAz, hAn, hst9, hlk, hrt, hnm, hR, hex⟩ := hX
  intro H locs ls hz hM hA hS hl
  obtain ⟨index, j, q9, h1, rfl, hq, e1⟩ := h
  have hcls := (hKS.1.1 ci q9 hq).2
  exact va_castS hx hb hown (hts.at j e1 rfl) hcls (va_recv (D := g.1) hKS.1 (hM.one hm) hq (q0 := 0) rfl) h1 (kk H locs ls hz hM hA hS hl)
theorem g_dom (hX : Cok X d) (kk : (∀ (q : Nat) (x : hC), M q = some x → q < sz ∧ X.2.2.2.2.2.2.2.1 ≤ q) → G X pc lv st M sz cs ss) : G X pc lv st M sz cs ss := by
  obtain ⟨⟨p, l, e, R, s, m, args, below⟩, meth, c, A, Q, g⟩ := X
  obtain ⟨hx, hb, hml, hown, hts, hKS, hAz, hAn, hst9, hlk, hrt, hnm, hR, hex⟩ := hX
  intro H locs ls hz hM hA hS hl
  exact kk (fun q x hx9 => ⟨by rw [← hz]; exact hM.lt hx9, hAz q (hA q x hx9)⟩) H locs ls hz hM hA hS hl
theorem g_eqM {M' : hM} (e : ∀ q, M q = M' q) (kk : G X pc lv st M' sz cs ss) : G X pc lv st M sz cs ss := by
  have : M = M' := funext e
  rw [this]; exact kk
theorem g_eqL {lv' st' : List Value} (e1 : lv = lv') (e2 : st = st') (kk : G X pc lv' st' M sz cs ss) : G X pc lv st M sz cs ss := by
  rw [e1, e2]; exact kk
theorem g_wide {k1 n1 : Nat} (h1 : cs ≤ k1) (h2 : ss ≤ n1) (kk : G X pc lv st M sz k1 n1) : G X pc lv st M sz cs ss := fun H locs ls hz hM hA hS hl => W.widen h1 h2 (kk H locs ls hz hM hA hS hl)
theorem g_tabIn {dflt lo hi : Int} {offs : Array Int} {len : Nat} {x : Int32} {off : Int} (hX : Cok X d) (hd : decode d.2.1 pc = .ok (.tableswitch dflt lo hi offs, len)) (h1 : ¬ x.toInt < lo) (h2 : ¬ hi < x.toInt) (ho : offs[(x.toInt - lo).toNat]? = some off) (ht : (pc : Int) + off = (t : Int)) (kk : G X t lv st M sz cs ss) : G X pc lv (.int x :: st) M sz cs ss := by
  obtain ⟨⟨p, l, e, R, s, m, args, below⟩, meth, c, A, Q, g⟩ := X
  obtain ⟨hx, hb, hml, hown, hts, hKS, hAz, hAn, hst9, hlk, hrt, hnm, hR, hex⟩ := hX
  intro H locs ls hz hM hA hS hl
  exact lv_tableIn hx hb hd h1 h2 ho ht (kk H locs ls hz hM hA hS hl)
theorem g_tabOut {dflt lo hi : Int} {offs : Array Int} {len : Nat} {x : Int32} (hX : Cok X d) (hd : decode d.2.1 pc = .ok (.tableswitch dflt lo hi offs, len)) (h1 : x.toInt < lo ∨ hi < x.toInt) (ht : (pc : Int) + dflt = (t : Int)) (kk : G X t lv st M sz cs ss) : G X pc lv (.int x :: st) M sz cs ss := by
  obtain ⟨⟨p, l, e, R, s, m, args, below⟩, meth, c, A, Q, g⟩ := X
  obtain ⟨hx, hb, hml, hown, hts, hKS, hAz, hAn, hst9, hlk, hrt, hnm, hR, hex⟩ := hX
  intro H locs ls hz hM hA hS hl
  exact lv_tableOut hx hb hd h1 ht (kk H locs ls hz hM hA hS hl)
end R2
