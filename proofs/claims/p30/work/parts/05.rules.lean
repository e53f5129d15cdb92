/-! the environment that every method keeps; the judgement G; what stands at a pc -/
abbrev hG : Type := va_G × (Nat → ClassId) × Nat × Nat × Nat
abbrev hD : Type := MethodName × ByteArray × Nat × Option FieldType × Room × List (Nat × Nat × Nat × Nat)
abbrev hX : Type := (Program × Launch × Env × Room × State × MethodId × Array Value × List Frame) × Method × Code × (Nat → Prop) × (State → Prop) × hG
def z9 (z0 : Nat) : Nat → Prop := fun q => z0 ≤ q
/-- the months' days, as the class keeps them -/
def fM (k : Nat) : Int32 := ([0, 31, 59, 90, 120, 151, 181, 212, 243, 273, 304, 334] : List Int32).getD k 0
def va_E0 (a : Nat) (U : State) (H : Heap) : Prop := ∃ (cell : Cell) (ty : FieldType), H[a]? = some cell ∧ U.isArrayOf cell ty ∧ cell.slots.size.toInt32 = 0
theorem va_E0.moved {a : Nat} {u U : State} {H : Heap} (hvm : u.vm.Alike U.vm) (h : va_E0 a u H) : va_E0 a U H := by
  obtain ⟨cell, ty, h1, h2, h3⟩ := h
  exact ⟨cell, ty, h1, State.isArrayOf_alike hvm h2, h3⟩
def strs9 : List (String × Nat × String) := [("Hymnwright", 54, "there are 12 texts"), ("Hymnwright", 79, "there are 12 tunes"), ("Hymnwright", 97, "the tune does not fit the text"), ("Hymnwright", 207, "the day has no theme"), ("Hymnwright", 220, "no service can follow on that day"), ("Hymnwright", 226, "no text can be chosen"), ("Hymnwright", 249, "a service tells 0 to 4"), ("Hymnwright", 256, "an argument is out of range"), ("Hymnwright", 260, "there is none of that number"), ("Hymnwright", 266, "there are 8 lines or phrases"), ("Hymnwright", 271, "there are 20 feasts")]
def nc9 : List (String × String) := [("java/lang/IllegalArgumentException", "java/lang/IllegalStateException"), ("java/lang/IllegalArgumentException", "java/lang/IndexOutOfBoundsException"), ("java/lang/IllegalStateException", "java/lang/IllegalArgumentException"), ("java/lang/IllegalStateException", "java/lang/IndexOutOfBoundsException"), ("java/lang/IndexOutOfBoundsException", "java/lang/IllegalArgumentException"), ("java/lang/IndexOutOfBoundsException", "java/lang/IllegalStateException")]
def KS (g : hG) (U : State) : Prop :=
  va_K g.1 cls9 (tys9 g.2.1) U ∧ TW #[] U ∧ g.2.2.1 ≤ U.heap.size ∧
  (va_Z "Hymnwright$Days" "AHEAD_OF_MONTH" "[I" (.ref g.2.2.2.1) (z9 g.2.2.1) U U.heap ∧ va_T .int g.2.2.2.1 12 (fun k => .int (fM k)) (z9 g.2.2.1) U U.heap ∧ g.2.2.2.1 < g.2.2.1) ∧
  (va_Z "java/util/ArrayList" "DEFAULTCAPACITY_EMPTY_ELEMENTDATA" "[Ljava/lang/Object;" (.ref g.2.2.2.2) (z9 g.2.2.1) U U.heap ∧ va_E0 g.2.2.2.2 U U.heap ∧ g.2.2.2.2 < g.2.2.1) ∧
  (vx_Zq Bundle.tN "UNASSIGNED_STACK" Bundle.steD (z9 g.2.2.1) U U.heap ∧ vx_Zq Bundle.tN "SUPPRESSED_SENTINEL" Bundle.listD (z9 g.2.2.1) U U.heap) ∧
  (∀ q ∈ strs9, ∃ sa, vk_R q.1 q.2.1 q.2.2 sa U) ∧ va_AO "java/lang/Object" U ∧ (∀ q ∈ nc9, va_Nc q.1 q.2 U) ∧ va_Mi "[Ljava/lang/Object;" (g.1.2 99 0) U
theorem KS.next {g : hG} {s U : State} (h : KS g s) (hW : s.WarmedH U.vm) (hz : s.heap.size ≤ U.heap.size) (hq : ∀ q : Nat, q < s.heap.size → ¬ g.2.2.1 ≤ q → U.heap[q]? = s.heap[q]?) : KS g U := by
  obtain ⟨h1, h2, h3, ⟨h4, h5, h6⟩, ⟨h7, h8, h9⟩, ⟨h10, h11⟩, h12, h13, h14, h15⟩ := h
  have ha := hW.alike
  have hq' : ∀ a : Nat, a < s.heap.size → ¬ z9 g.2.2.1 a → U.heap[a]? = s.heap[a]? := hq
  refine ⟨va_K.moved ha h1, TW.warm hW h2, Nat.le_trans h3 hz, ⟨(va_Z.moved ha h4).kept hq', va_T.moved ha (h5.kept hq'), h6⟩, ⟨(va_Z.moved ha h7).kept hq', ?_, h9⟩, ⟨(vx_Zq.moved ha h10).kept hq', (vx_Zq.moved ha h11).kept hq'⟩, fun q hm => ?_, va_AO.moved ha h13, fun q hm => (h14 q hm).moved ha, h15.moved ha⟩
  · refine va_E0.moved ha ?_
    obtain ⟨cell, ty, e1, e2, e3⟩ := h8
    exact ⟨cell, ty, by rw [hq _ (by omega) (by omega)]; exact e1, e2, e3⟩
  · obtain ⟨sa, e⟩ := h12 q hm
    exact ⟨sa, vk_R.warm hW e⟩
theorem KS.calling {g : hG} {U : State} (h : KS g U) (f : JFrame) (mk : MethodId) (a : Array Value) : KS g (U.calling f mk a) := by
  obtain ⟨h1, h2, h3, ⟨h4, h5, h6⟩, ⟨h7, h8, h9⟩, ⟨h10, h11⟩, h12, h13, h14, h15⟩ := h
  have ha : U.vm.Alike (U.calling f mk a).vm := Vm.Alike.refl U.vm
  refine ⟨va_K.moved ha h1, TW.same (s := U) rfl h2, h3, ⟨va_Z.moved ha h4, va_T.moved ha h5, h6⟩, ⟨va_Z.moved ha h7, va_E0.moved ha h8, h9⟩, ⟨vx_Zq.moved ha h10, vx_Zq.moved ha h11⟩, fun q hm => ?_, va_AO.moved ha h13, fun q hm => (h14 q hm).moved ha, h15.moved ha⟩
  obtain ⟨sa, e⟩ := h12 q hm
  exact ⟨sa, vk_R.same rfl e⟩
/-! locals -/
def isU (v : Value) : Bool := match v with
  | .float _ => true
  | _ => false
abbrev U9 : Value := .float 0
def lh (ls : Array Slot) (nL : Nat) (lv : List Value) : Prop := ls.size = nL ∧ lv_wf ls ∧ lv.length = nL ∧ ∀ (i : Nat) (v : Value), lv[i]? = some v → v.category = 1 ∧ (isU v = false → ls[i]? = some (.val v))
def al9 (lv : List Value) : List (Nat × Value) := (List.range lv.length).filterMap (fun i => (lv[i]?).bind (fun v => if isU v = true then none else some (i, v)))
theorem al9_mem {lv : List Value} {i : Nat} {v : Value} : (i, v) ∈ al9 lv ↔ lv[i]? = some v ∧ isU v = false := by
  unfold al9
  rw [List.mem_filterMap]
  constructor
  · rintro ⟨j, -, hj⟩
    cases e : lv[j]? with
    | none => rw [e] at hj; cases hj
    | some w =>
      rw [e] at hj
      simp only [Option.bind_some] at hj
      by_cases hu : isU w = true
      · rw [if_pos hu] at hj; cases hj
      · rw [if_neg hu] at hj; cases hj; exact ⟨e, by simpa using hu⟩
  · rintro ⟨h1, h2⟩
    refine ⟨i, List.mem_range.mpr (List.getElem?_eq_some_iff.mp h1).1, ?_⟩
    rw [h1]
    simp [h2]
theorem lh.has {ls : Array Slot} {nL : Nat} {lv : List Value} (h : lh ls nL lv) : lv_has ls nL (al9 lv) := ⟨h.1, h.2.1, fun q hq => by
  obtain ⟨i, v⟩ := q
  obtain ⟨h1, h2⟩ := al9_mem.mp hq
  exact (h.2.2.2 i v h1).2 h2⟩
theorem lh.get {ls : Array Slot} {nL : Nat} {lv : List Value} (h : lh ls nL lv) {i : Nat} {v : Value} (hl : lv[i]? = some v) (hu : isU v = false) : ls[i]? = some (.val v) := (h.2.2.2 i v hl).2 hu
theorem lh.store {ls ls' : Array Slot} {nL : Nat} {lv : List Value} (h : lh ls nL lv) {i : Nat} {v : Value} (hc : v.category = 1) (h' : lv_has ls' nL ((i, v) :: (al9 lv).filter (fun q => !(q.1 == i) && !(q.1 + 1 == i && q.2.category == 2)))) : lh ls' nL (lv.set i v) := by
  refine ⟨h'.1, h'.2.1, by rw [List.length_set]; exact h.2.2.1, fun j w hw => ?_⟩
  rw [List.getElem?_set] at hw
  by_cases e : i = j
  · subst e
    rw [if_pos rfl] at hw
    by_cases hl : i < lv.length
    · rw [if_pos hl] at hw
      cases hw
      exact ⟨hc, fun _ => h'.2.2 (i, v) List.mem_cons_self⟩
    · rw [if_neg hl] at hw
      cases hw
  · rw [if_neg e] at hw
    have hcat := (h.2.2.2 j w hw).1
    refine ⟨hcat, fun hu => h'.2.2 (j, w) (List.mem_cons_of_mem _ (List.mem_filter.mpr ⟨al9_mem.mpr ⟨hw, hu⟩, ?_⟩))⟩
    have e2 : (j == i) = false := by simp [Ne.symm e]
    have e3 : (w.category == 2) = false := by rw [hcat]; rfl
    show (!(j == i) && !(j + 1 == i && w.category == 2)) = true
    rw [e2, e3]
    simp
/-! the judgement -/
def G (X : hX) (pc : Nat) (lv st : List Value) (M : hM) (sz cs ss : Nat) : Prop :=
  ∀ (H : Heap) (locs : List Loc) (ls : Array Slot), H.size = sz → hv X.2.2.2.2.2.1 X.2.2.2.2.2.2.1 M H → (∀ (q : Nat) (x : hC), M q = some x → X.2.2.2.1 q) → va_S X.2.2.2.1 X.1.2.2.2.2.1.heap H locs → lh ls X.2.2.1.maxLocals lv →
    W X.1.1 X.1.2.1 X.1.2.2.1 X.1.2.2.2.1 X.1.2.2.2.2.1 X.1.2.2.2.2.2.1 X.1.2.2.2.2.2.2.1 X.1.2.2.2.2.2.2.2 X.2.1 X.2.2.1 H locs cs ss X.2.2.2.2.1 (F0 X.1.2.2.2.2.2.1 pc ls st)
def Cok (X : hX) (d : hD) : Prop :=
  X.1.1.tables.exec = Jvm.exec ∧ X.2.2.1.code = d.2.1 ∧ X.2.2.1.maxLocals = d.2.2.1 ∧ X.1.2.2.2.2.1.vm.findClass d.1.cls = some X.1.2.2.2.2.2.1.cls ∧ TW X.1.2.2.2.2.2.2.1 X.1.2.2.2.2.1 ∧ KS X.2.2.2.2.2 X.1.2.2.2.2.1 ∧
  (∀ q, X.2.2.2.1 q → X.2.2.2.2.2.2.2.1 ≤ q) ∧ (∀ q, X.1.2.2.2.2.1.heap.size ≤ q → X.2.2.2.1 q) ∧ X.1.2.1.stackTraces = false ∧ X.2.1.locks = false ∧ X.2.1.sig.returnType = d.2.2.2.1 ∧ X.2.1.name = d.1.name ∧ X.1.2.2.2.1 = d.2.2.2.2.1 ∧ X.2.2.1.exceptionTable.toList = tableOf d.2.2.2.2.2
/-! what stands at a pc -/
def At (d : hD) (pc : Nat) (i : Instr) (len n : Nat) : Prop := decode d.2.1 pc = .ok (i, len) ∧ pc + len = n
def AtJ (d : hD) (pc : Nat) (i : Int → Instr) (n t : Nat) : Prop := ∃ off : Int, decode d.2.1 pc = .ok (i off, 3) ∧ pc + 3 = n ∧ (pc : Int) + off = (t : Int)
def AtG (d : hD) (pc : Nat) (t : Nat) : Prop := ∃ off : Int, decode d.2.1 pc = .ok (.goto off, 3) ∧ (pc : Int) + off = (t : Int)
def AtK (d : hD) (pc : Nat) (v : Int32) (n : Nat) : Prop :=
  (∃ k : Int, decode d.2.1 pc = .ok (.iconst k, 1) ∧ Int32.ofInt k = v ∧ pc + 1 = n) ∨ (∃ k : Int, decode d.2.1 pc = .ok (.bipush k, 2) ∧ (Int8.ofInt k).toInt32 = v ∧ pc + 2 = n) ∨
  (∃ k : Int, decode d.2.1 pc = .ok (.sipush k, 3) ∧ (Int16.ofInt k).toInt32 = v ∧ pc + 3 = n) ∨ (∃ k i : Nat, decode d.2.1 pc = .ok (.ldc k, 2) ∧ lw_tbl[i]? = some (Cond.constant d.1.cls k v) ∧ pc + 2 = n) ∨ (∃ k i : Nat, decode d.2.1 pc = .ok (.ldc_w k, 3) ∧ lw_tbl[i]? = some (Cond.constant d.1.cls k v) ∧ pc + 3 = n)
def AtI (d : hD) (pc i n : Nat) : Prop := (decode d.2.1 pc = .ok (.iload i, 2) ∧ pc + 2 = n) ∨ (∃ k : Fin 4, decode d.2.1 pc = .ok (.iload_n k, 1) ∧ (k : Nat) = i ∧ pc + 1 = n)
def AtA (d : hD) (pc i n : Nat) : Prop := (decode d.2.1 pc = .ok (.aload i, 2) ∧ pc + 2 = n) ∨ (∃ k : Fin 4, decode d.2.1 pc = .ok (.aload_n k, 1) ∧ (k : Nat) = i ∧ pc + 1 = n)
def AtSI (d : hD) (pc i n : Nat) : Prop := ((decode d.2.1 pc = .ok (.istore i, 2) ∧ pc + 2 = n) ∨ (∃ k : Fin 4, decode d.2.1 pc = .ok (.istore_n k, 1) ∧ (k : Nat) = i ∧ pc + 1 = n)) ∧ i < d.2.2.1
def AtSA (d : hD) (pc i n : Nat) : Prop := ((decode d.2.1 pc = .ok (.astore i, 2) ∧ pc + 2 = n) ∨ (∃ k : Fin 4, decode d.2.1 pc = .ok (.astore_n k, 1) ∧ (k : Nat) = i ∧ pc + 1 = n)) ∧ i < d.2.2.1
def AtInc (d : hD) (pc i : Nat) (k : Int32) (n : Nat) : Prop := ∃ z : Int, decode d.2.1 pc = .ok (.iinc i z, 3) ∧ Int32.ofInt z = k ∧ pc + 3 = n ∧ i < d.2.2.1
def isRefV (v : Value) : Bool := match v with
  | .ref _ => true
  | .null => true
  | _ => false
theorem isRefV_rf (r : Option Nat) : isRefV (va_rf r) = true := by cases r <;> rfl
section R1
variable {X : hX} {d : hD} {pc n t i : Nat} {lv st : List Value} {M : hM} {sz cs ss : Nat}
theorem g_iload {x : Int32} (hX : Cok X d) (h : AtI d pc i n) (hv : lv[i]? = some (.int x)) (k : G X n lv (.int x :: st) M sz cs ss) : G X pc lv st M sz cs ss := by
  obtain ⟨⟨p, l, e, R, s, m, args, below⟩, meth, c, A, Q, g⟩ := X
  obtain ⟨hx, hb, hml, hown, hts, hKS, hAz, hAn, hst9, hlk, hrt, hnm, hR, hex⟩ := hX
  intro H locs ls hz hM hA hS hl
  rcases h with ⟨h1, rfl⟩ | ⟨k9, h1, h2, rfl⟩
  · exact lv_iload hx hb h1 (hl.get hv rfl) (k H locs ls hz hM hA hS hl)
  · exact lv_iload_n hx hb h1 h2 (hl.get hv rfl) (k H locs ls hz hM hA hS hl)
theorem g_aload {v : Value} (hX : Cok X d) (h : AtA d pc i n) (hv : lv[i]? = some v) (hr : isRefV v = true) (k : G X n lv (v :: st) M sz cs ss) : G X pc lv st M sz cs ss := by
  obtain ⟨⟨p, l, e, R, s, m, args, below⟩, meth, c, A, Q, g⟩ := X
  obtain ⟨hx, hb, hml, hown, hts, hKS, hAz, hAn, hst9, hlk, hrt, hnm, hR, hex⟩ := hX
  intro H locs ls hz hM hA hS hl
  cases v <;> first | (simp [isRefV] at hr; done) | skip
  · rcases h with ⟨h1, rfl⟩ | ⟨k9, h1, h2, rfl⟩
    · exact lv_aloadN hx hb h1 (hl.get hv rfl) (k H locs ls hz hM hA hS hl)
    · exact lv_aload_nN hx hb h1 h2 (hl.get hv rfl) (k H locs ls hz hM hA hS hl)
  · rcases h with ⟨h1, rfl⟩ | ⟨k9, h1, h2, rfl⟩
    · exact lv_aload hx hb h1 (hl.get hv rfl) (k H locs ls hz hM hA hS hl)
    · exact lv_aload_n hx hb h1 h2 (hl.get hv rfl) (k H locs ls hz hM hA hS hl)
theorem g_istore {x : Int32} (hX : Cok X d) (h : AtSI d pc i n) (k : G X n (lv.set i (.int x)) st M sz cs ss) : G X pc lv (.int x :: st) M sz cs ss := by
  obtain ⟨⟨p, l, e, R, s, m, args, below⟩, meth, c, A, Q, g⟩ := X
  obtain ⟨hx, hb, hml, hown, hts, hKS, hAz, hAn, hst9, hlk, hrt, hnm, hR, hex⟩ := hX
  intro H locs ls hz hM hA hS hl
  have hi : i < c.maxLocals := by rw [show c.maxLocals = d.2.2.1 from hml]; exact h.2
  rcases h.1 with ⟨h1, rfl⟩ | ⟨k9, h1, h2, rfl⟩
  · exact lv_istore hx hb h1 hl.has hi rfl (fun ls' h' => k H locs ls' hz hM hA hS (hl.store rfl h'))
  · exact lv_istore_n hx hb h1 h2 hl.has hi rfl (fun ls' h' => k H locs ls' hz hM hA hS (hl.store rfl h'))
theorem g_astore {v : Value} (hX : Cok X d) (h : AtSA d pc i n) (hr : isRefV v = true) (k : G X n (lv.set i v) st M sz cs ss) : G X pc lv (v :: st) M sz cs ss := by
  obtain ⟨⟨p, l, e, R, s, m, args, below⟩, meth, c, A, Q, g⟩ := X
  obtain ⟨hx, hb, hml, hown, hts, hKS, hAz, hAn, hst9, hlk, hrt, hnm, hR, hex⟩ := hX
  intro H locs ls hz hM hA hS hl
  have hi : i < c.maxLocals := by rw [show c.maxLocals = d.2.2.1 from hml]; exact h.2
  cases v <;> first | (simp [isRefV] at hr; done) | skip
  · rcases h.1 with ⟨h1, rfl⟩ | ⟨k9, h1, h2, rfl⟩
    · exact lv_astoreN hx hb h1 hl.has hi rfl (fun ls' h' => k H locs ls' hz hM hA hS (hl.store rfl h'))
    · exact lv_astore_nN hx hb h1 h2 hl.has hi rfl (fun ls' h' => k H locs ls' hz hM hA hS (hl.store rfl h'))
  · rcases h.1 with ⟨h1, rfl⟩ | ⟨k9, h1, h2, rfl⟩
    · exact lv_astore hx hb h1 hl.has hi rfl (fun ls' h' => k H locs ls' hz hM hA hS (hl.store rfl h'))
    · exact lv_astore_n hx hb h1 h2 hl.has hi rfl (fun ls' h' => k H locs ls' hz hM hA hS (hl.store rfl h'))
theorem g_iinc {x y : Int32} (hX : Cok X d) (h : AtInc d pc i y n) (hv : lv[i]? = some (.int x)) (k : G X n (lv.set i (.int (x + y))) st M sz cs ss) : G X pc lv st M sz cs ss := by
  obtain ⟨⟨p, l, e, R, s, m, args, below⟩, meth, c, A, Q, g⟩ := X
  obtain ⟨hx, hb, hml, hown, hts, hKS, hAz, hAn, hst9, hlk, hrt, hnm, hR, hex⟩ := hX
  intro H locs ls hz hM hA hS hl
  obtain ⟨z, h1, rfl, rfl, h3⟩ := h
  have hi : i < c.maxLocals := by rw [show c.maxLocals = d.2.2.1 from hml]; exact h3
  obtain ⟨j, hj⟩ := List.getElem?_of_mem (al9_mem.mpr ⟨hv, rfl⟩)
  exact lv_iinc hx hb h1 hl.has hj rfl hi rfl (fun ls' h' => k H locs ls' hz hM hA hS (hl.store rfl h'))
theorem g_const {v : Int32} (hX : Cok X d) (h : AtK d pc v n) (k : G X n lv (.int v :: st) M sz cs ss) : G X pc lv st M sz cs ss := by
  obtain ⟨⟨p, l, e, R, s, m, args, below⟩, meth, c, A, Q, g⟩ := X
  obtain ⟨hx, hb, hml, hown, hts, hKS, hAz, hAn, hst9, hlk, hrt, hnm, hR, hex⟩ := hX
  intro H locs ls hz hM hA hS hl
  rcases h with ⟨k9, h1, h2, rfl⟩ | ⟨k9, h1, h2, rfl⟩ | ⟨k9, h1, h2, rfl⟩ | ⟨k9, j, h1, h2, rfl⟩ | ⟨k9, j, h1, h2, rfl⟩
  · exact lv_iconst hx hb h1 h2 (k H locs ls hz hM hA hS hl)
  · exact lv_bipush hx hb h1 h2 (k H locs ls hz hM hA hS hl)
  · exact lv_sipush hx hb h1 h2 (k H locs ls hz hM hA hS hl)
  · exact lv_ldc hx hb hown (hts.at j h2 rfl) h1 (k H locs ls hz hM hA hS hl)
  · exact lv_ldcw hx hb hown (hts.at j h2 rfl) h1 (k H locs ls hz hM hA hS hl)
theorem g_iadd {x y : Int32} (hX : Cok X d) (h : At d pc .iadd 1 n) (k : G X n lv (.int (x + y) :: st) M sz cs ss) : G X pc lv (.int y :: .int x :: st) M sz cs ss := by
  obtain ⟨⟨p, l, e, R, s, m, args, below⟩, meth, c, A, Q, g⟩ := X
  obtain ⟨hx, hb, hml, hown, hts, hKS, hAz, hAn, hst9, hlk, hrt, hnm, hR, hex⟩ := hX
  intro H locs ls hz hM hA hS hl
  obtain ⟨h1, rfl⟩ := h
  exact lv_iadd hx hb h1 (k H locs ls hz hM hA hS hl)
theorem g_isub {x y : Int32} (hX : Cok X d) (h : At d pc .isub 1 n) (k : G X n lv (.int (x - y) :: st) M sz cs ss) : G X pc lv (.int y :: .int x :: st) M sz cs ss := by
  obtain ⟨⟨p, l, e, R, s, m, args, below⟩, meth, c, A, Q, g⟩ := X
  obtain ⟨hx, hb, hml, hown, hts, hKS, hAz, hAn, hst9, hlk, hrt, hnm, hR, hex⟩ := hX
  intro H locs ls hz hM hA hS hl
  obtain ⟨h1, rfl⟩ := h
  exact lv_isub hx hb h1 (k H locs ls hz hM hA hS hl)
theorem g_imul {x y : Int32} (hX : Cok X d) (h : At d pc .imul 1 n) (k : G X n lv (.int (x * y) :: st) M sz cs ss) : G X pc lv (.int y :: .int x :: st) M sz cs ss := by
  obtain ⟨⟨p, l, e, R, s, m, args, below⟩, meth, c, A, Q, g⟩ := X
  obtain ⟨hx, hb, hml, hown, hts, hKS, hAz, hAn, hst9, hlk, hrt, hnm, hR, hex⟩ := hX
  intro H locs ls hz hM hA hS hl
  obtain ⟨h1, rfl⟩ := h
  exact lv_imul hx hb h1 (k H locs ls hz hM hA hS hl)
theorem g_iand {x y : Int32} (hX : Cok X d) (h : At d pc .iand 1 n) (k : G X n lv (.int (x &&& y) :: st) M sz cs ss) : G X pc lv (.int y :: .int x :: st) M sz cs ss := by
  obtain ⟨⟨p, l, e, R, s, m, args, below⟩, meth, c, A, Q, g⟩ := X
  obtain ⟨hx, hb, hml, hown, hts, hKS, hAz, hAn, hst9, hlk, hrt, hnm, hR, hex⟩ := hX
  intro H locs ls hz hM hA hS hl
  obtain ⟨h1, rfl⟩ := h
  exact lv_iand hx hb h1 (k H locs ls hz hM hA hS hl)
theorem g_ior {x y : Int32} (hX : Cok X d) (h : At d pc .ior 1 n) (k : G X n lv (.int (x ||| y) :: st) M sz cs ss) : G X pc lv (.int y :: .int x :: st) M sz cs ss := by
  obtain ⟨⟨p, l, e, R, s, m, args, below⟩, meth, c, A, Q, g⟩ := X
  obtain ⟨hx, hb, hml, hown, hts, hKS, hAz, hAn, hst9, hlk, hrt, hnm, hR, hex⟩ := hX
  intro H locs ls hz hM hA hS hl
  obtain ⟨h1, rfl⟩ := h
  exact lv_ior hx hb h1 (k H locs ls hz hM hA hS hl)
theorem g_ixor {x y : Int32} (hX : Cok X d) (h : At d pc .ixor 1 n) (k : G X n lv (.int (x ^^^ y) :: st) M sz cs ss) : G X pc lv (.int y :: .int x :: st) M sz cs ss := by
  obtain ⟨⟨p, l, e, R, s, m, args, below⟩, meth, c, A, Q, g⟩ := X
  obtain ⟨hx, hb, hml, hown, hts, hKS, hAz, hAn, hst9, hlk, hrt, hnm, hR, hex⟩ := hX
  intro H locs ls hz hM hA hS hl
  obtain ⟨h1, rfl⟩ := h
  exact lv_ixor hx hb h1 (k H locs ls hz hM hA hS hl)
theorem g_idiv {x y : Int32} (hX : Cok X d) (h : At d pc .idiv 1 n) (hne : ¬ y = 0) (k : G X n lv (.int (x / y) :: st) M sz cs ss) : G X pc lv (.int y :: .int x :: st) M sz cs ss := by
  obtain ⟨⟨p, l, e, R, s, m, args, below⟩, meth, c, A, Q, g⟩ := X
  obtain ⟨hx, hb, hml, hown, hts, hKS, hAz, hAn, hst9, hlk, hrt, hnm, hR, hex⟩ := hX
  intro H locs ls hz hM hA hS hl
  obtain ⟨h1, rfl⟩ := h
  exact lv_idiv hx hb h1 hne (k H locs ls hz hM hA hS hl)
theorem g_irem {x y : Int32} (hX : Cok X d) (h : At d pc .irem 1 n) (hne : ¬ y = 0) (k : G X n lv (.int (x - x / y * y) :: st) M sz cs ss) : G X pc lv (.int y :: .int x :: st) M sz cs ss := by
  obtain ⟨⟨p, l, e, R, s, m, args, below⟩, meth, c, A, Q, g⟩ := X
  obtain ⟨hx, hb, hml, hown, hts, hKS, hAz, hAn, hst9, hlk, hrt, hnm, hR, hex⟩ := hX
  intro H locs ls hz hM hA hS hl
  obtain ⟨h1, rfl⟩ := h
  exact lv_irem hx hb h1 hne (k H locs ls hz hM hA hS hl)
theorem g_ishl {x y : Int32} (hX : Cok X d) (h : At d pc .ishl 1 n) (k : G X n lv (.int (x <<< (y &&& 31)) :: st) M sz cs ss) : G X pc lv (.int y :: .int x :: st) M sz cs ss := by
  obtain ⟨⟨p, l, e, R, s, m, args, below⟩, meth, c, A, Q, g⟩ := X
  obtain ⟨hx, hb, hml, hown, hts, hKS, hAz, hAn, hst9, hlk, hrt, hnm, hR, hex⟩ := hX
  intro H locs ls hz hM hA hS hl
  obtain ⟨h1, rfl⟩ := h
  exact lv_ishl hx hb h1 (k H locs ls hz hM hA hS hl)
theorem g_ishr {x y : Int32} (hX : Cok X d) (h : At d pc .ishr 1 n) (k : G X n lv (.int (x >>> (y &&& 31)) :: st) M sz cs ss) : G X pc lv (.int y :: .int x :: st) M sz cs ss := by
  obtain ⟨⟨p, l, e, R, s, m, args, below⟩, meth, c, A, Q, g⟩ := X
  obtain ⟨hx, hb, hml, hown, hts, hKS, hAz, hAn, hst9, hlk, hrt, hnm, hR, hex⟩ := hX
  intro H locs ls hz hM hA hS hl
  obtain ⟨h1, rfl⟩ := h
  exact lv_ishr hx hb h1 (k H locs ls hz hM hA hS hl)
theorem g_iushr {x y : Int32} (hX : Cok X d) (h : At d pc .iushr 1 n) (k : G X n lv (.int ((x.toUInt32 >>> (y.toUInt32 &&& Int32.toUInt32 31)).toInt32) :: st) M sz cs ss) : G X pc lv (.int y :: .int x :: st) M sz cs ss := by
  obtain ⟨⟨p, l, e, R, s, m, args, below⟩, meth, c, A, Q, g⟩ := X
  obtain ⟨hx, hb, hml, hown, hts, hKS, hAz, hAn, hst9, hlk, hrt, hnm, hR, hex⟩ := hX
  intro H locs ls hz hM hA hS hl
  obtain ⟨h1, rfl⟩ := h
  exact lv_iushr hx hb h1 rfl (k H locs ls hz hM hA hS hl)
theorem g_i2l {x : Int32} (hX : Cok X d) (h : At d pc .i2l 1 n) (k : G X n lv (.long x.toInt64 :: st) M sz cs ss) : G X pc lv (.int x :: st) M sz cs ss := by
  obtain ⟨⟨p, l, e, R, s, m, args, below⟩, meth, c, A, Q, g⟩ := X
  obtain ⟨hx, hb, hml, hown, hts, hKS, hAz, hAn, hst9, hlk, hrt, hnm, hR, hex⟩ := hX
  intro H locs ls hz hM hA hS hl
  obtain ⟨h1, rfl⟩ := h
  exact lv_i2l hx hb h1 rfl (k H locs ls hz hM hA hS hl)
theorem g_lcmp {x y : Int64} (hX : Cok X d) (h : At d pc .lcmp 1 n) (k : G X n lv (.int (lg_cmp x y) :: st) M sz cs ss) : G X pc lv (.long y :: .long x :: st) M sz cs ss := by
  obtain ⟨⟨p, l, e, R, s, m, args, below⟩, meth, c, A, Q, g⟩ := X
  obtain ⟨hx, hb, hml, hown, hts, hKS, hAz, hAn, hst9, hlk, hrt, hnm, hR, hex⟩ := hX
  intro H locs ls hz hM hA hS hl
  obtain ⟨h1, rfl⟩ := h
  exact W.lcmp hx hb h1 (k H locs ls hz hM hA hS hl)
theorem g_lconst {v : Fin 2} (hX : Cok X d) (h : At d pc (.lconst v) 1 n) (k : G X n lv (.long (Int64.ofNat (v : Nat)) :: st) M sz cs ss) : G X pc lv st M sz cs ss := by
  obtain ⟨⟨p, l, e, R, s, m, args, below⟩, meth, c, A, Q, g⟩ := X
  obtain ⟨hx, hb, hml, hown, hts, hKS, hAz, hAn, hst9, hlk, hrt, hnm, hR, hex⟩ := hX
  intro H locs ls hz hM hA hS hl
  obtain ⟨h1, rfl⟩ := h
  exact lv_lconst hx hb h1 rfl (k H locs ls hz hM hA hS hl)
theorem g_null (hX : Cok X d) (h : At d pc .aconst_null 1 n) (k : G X n lv (.null :: st) M sz cs ss) : G X pc lv st M sz cs ss := by
  obtain ⟨⟨p, l, e, R, s, m, args, below⟩, meth, c, A, Q, g⟩ := X
  obtain ⟨hx, hb, hml, hown, hts, hKS, hAz, hAn, hst9, hlk, hrt, hnm, hR, hex⟩ := hX
  intro H locs ls hz hM hA hS hl
  obtain ⟨h1, rfl⟩ := h
  exact lv_null hx hb h1 (k H locs ls hz hM hA hS hl)
theorem g_dup {v : Value} (hX : Cok X d) (h : At d pc .dup 1 n) (hc : v.category = 1) (k : G X n lv (v :: v :: st) M sz cs ss) : G X pc lv (v :: st) M sz cs ss := by
  obtain ⟨⟨p, l, e, R, s, m, args, below⟩, meth, c, A, Q, g⟩ := X
  obtain ⟨hx, hb, hml, hown, hts, hKS, hAz, hAn, hst9, hlk, hrt, hnm, hR, hex⟩ := hX
  intro H locs ls hz hM hA hS hl
  obtain ⟨h1, rfl⟩ := h
  exact lv_dup hx hb h1 hc (k H locs ls hz hM hA hS hl)
theorem g_pop {v : Value} (hX : Cok X d) (h : At d pc .pop 1 n) (hc : v.category = 1) (k : G X n lv st M sz cs ss) : G X pc lv (v :: st) M sz cs ss := by
  obtain ⟨⟨p, l, e, R, s, m, args, below⟩, meth, c, A, Q, g⟩ := X
  obtain ⟨hx, hb, hml, hown, hts, hKS, hAz, hAn, hst9, hlk, hrt, hnm, hR, hex⟩ := hX
  intro H locs ls hz hM hA hS hl
  obtain ⟨h1, rfl⟩ := h
  exact lv_pop hx hb h1 hc (k H locs ls hz hM hA hS hl)
theorem g_dup_x1 {v u : Value} (hX : Cok X d) (h : At d pc .dup_x1 1 n) (hc : v.category = 1) (hc2 : u.category = 1) (k : G X n lv (v :: u :: v :: st) M sz cs ss) : G X pc lv (v :: u :: st) M sz cs ss := by
  obtain ⟨⟨p, l, e, R, s, m, args, below⟩, meth, c, A, Q, g⟩ := X
  obtain ⟨hx, hb, hml, hown, hts, hKS, hAz, hAn, hst9, hlk, hrt, hnm, hR, hex⟩ := hX
  intro H locs ls hz hM hA hS hl
  obtain ⟨h1, rfl⟩ := h
  exact lv_dup_x1 hx hb h1 hc hc2 (k H locs ls hz hM hA hS hl)
theorem g_dup2 {v u : Value} (hX : Cok X d) (h : At d pc .dup2 1 n) (hc : v.category = 1) (hc2 : u.category = 1) (k : G X n lv (v :: u :: v :: u :: st) M sz cs ss) : G X pc lv (v :: u :: st) M sz cs ss := by
  obtain ⟨⟨p, l, e, R, s, m, args, below⟩, meth, c, A, Q, g⟩ := X
  obtain ⟨hx, hb, hml, hown, hts, hKS, hAz, hAn, hst9, hlk, hrt, hnm, hR, hex⟩ := hX
  intro H locs ls hz hM hA hS hl
  obtain ⟨h1, rfl⟩ := h
  exact lv_dup2_11 hx hb h1 hc hc2 (k H locs ls hz hM hA hS hl)
theorem g_goto (hX : Cok X d) (h : AtG d pc t) (k : G X t lv st M sz cs ss) : G X pc lv st M sz cs ss := by
  obtain ⟨⟨p, l, e, R, s, m, args, below⟩, meth, c, A, Q, g⟩ := X
  obtain ⟨hx, hb, hml, hown, hts, hKS, hAz, hAn, hst9, hlk, hrt, hnm, hR, hex⟩ := hX
  intro H locs ls hz hM hA hS hl
  obtain ⟨off, h1, h2⟩ := h
  exact lv_goto hx hb h1 h2 (k H locs ls hz hM hA hS hl)
theorem g_icmp_eq {x y : Int32} (hX : Cok X d) (h : AtJ d pc (.if_icmp .eq) n t) (kt : x = y → G X t lv st M sz cs ss) (kf : ¬ x = y → G X n lv st M sz cs ss) : G X pc lv (.int y :: .int x :: st) M sz cs ss := by
  obtain ⟨⟨p, l, e, R, s, m, args, below⟩, meth, c, A, Q, g⟩ := X
  obtain ⟨hx, hb, hml, hown, hts, hKS, hAz, hAn, hst9, hlk, hrt, hnm, hR, hex⟩ := hX
  intro H locs ls hz hM hA hS hl
  obtain ⟨off, h1, rfl, h2⟩ := h
  exact lv_icmp_eq hx hb h1 h2 (fun q => kt q H locs ls hz hM hA hS hl) (fun q => kf q H locs ls hz hM hA hS hl)
theorem g_if_eq {x : Int32} (hX : Cok X d) (h : AtJ d pc (.ifCond .eq) n t) (kt : x = 0 → G X t lv st M sz cs ss) (kf : ¬ x = 0 → G X n lv st M sz cs ss) : G X pc lv (.int x :: st) M sz cs ss := by
  obtain ⟨⟨p, l, e, R, s, m, args, below⟩, meth, c, A, Q, g⟩ := X
  obtain ⟨hx, hb, hml, hown, hts, hKS, hAz, hAn, hst9, hlk, hrt, hnm, hR, hex⟩ := hX
  intro H locs ls hz hM hA hS hl
  obtain ⟨off, h1, rfl, h2⟩ := h
  exact lv_if_eq hx hb h1 h2 (fun q => kt q H locs ls hz hM hA hS hl) (fun q => kf q H locs ls hz hM hA hS hl)
theorem g_icmp_ne {x y : Int32} (hX : Cok X d) (h : AtJ d pc (.if_icmp .ne) n t) (kt : ¬ x = y → G X t lv st M sz cs ss) (kf : x = y → G X n lv st M sz cs ss) : G X pc lv (.int y :: .int x :: st) M sz cs ss := by
  obtain ⟨⟨p, l, e, R, s, m, args, below⟩, meth, c, A, Q, g⟩ := X
  obtain ⟨hx, hb, hml, hown, hts, hKS, hAz, hAn, hst9, hlk, hrt, hnm, hR, hex⟩ := hX
  intro H locs ls hz hM hA hS hl
  obtain ⟨off, h1, rfl, h2⟩ := h
  exact lv_icmp_ne hx hb h1 h2 (fun q => kt q H locs ls hz hM hA hS hl) (fun q => kf q H locs ls hz hM hA hS hl)
theorem g_if_ne {x : Int32} (hX : Cok X d) (h : AtJ d pc (.ifCond .ne) n t) (kt : ¬ x = 0 → G X t lv st M sz cs ss) (kf : x = 0 → G X n lv st M sz cs ss) : G X pc lv (.int x :: st) M sz cs ss := by
  obtain ⟨⟨p, l, e, R, s, m, args, below⟩, meth, c, A, Q, g⟩ := X
  obtain ⟨hx, hb, hml, hown, hts, hKS, hAz, hAn, hst9, hlk, hrt, hnm, hR, hex⟩ := hX
  intro H locs ls hz hM hA hS hl
  obtain ⟨off, h1, rfl, h2⟩ := h
  exact lv_if_ne hx hb h1 h2 (fun q => kt q H locs ls hz hM hA hS hl) (fun q => kf q H locs ls hz hM hA hS hl)
theorem g_icmp_lt {x y : Int32} (hX : Cok X d) (h : AtJ d pc (.if_icmp .lt) n t) (kt : x < y → G X t lv st M sz cs ss) (kf : ¬ x < y → G X n lv st M sz cs ss) : G X pc lv (.int y :: .int x :: st) M sz cs ss := by
  obtain ⟨⟨p, l, e, R, s, m, args, below⟩, meth, c, A, Q, g⟩ := X
  obtain ⟨hx, hb, hml, hown, hts, hKS, hAz, hAn, hst9, hlk, hrt, hnm, hR, hex⟩ := hX
  intro H locs ls hz hM hA hS hl
  obtain ⟨off, h1, rfl, h2⟩ := h
  exact lv_icmp_lt hx hb h1 h2 (fun q => kt q H locs ls hz hM hA hS hl) (fun q => kf q H locs ls hz hM hA hS hl)
theorem g_if_lt {x : Int32} (hX : Cok X d) (h : AtJ d pc (.ifCond .lt) n t) (kt : x < 0 → G X t lv st M sz cs ss) (kf : ¬ x < 0 → G X n lv st M sz cs ss) : G X pc lv (.int x :: st) M sz cs ss := by
  obtain ⟨⟨p, l, e, R, s, m, args, below⟩, meth, c, A, Q, g⟩ := X
  obtain ⟨hx, hb, hml, hown, hts, hKS, hAz, hAn, hst9, hlk, hrt, hnm, hR, hex⟩ := hX
  intro H locs ls hz hM hA hS hl
  obtain ⟨off, h1, rfl, h2⟩ := h
  exact lv_if_lt hx hb h1 h2 (fun q => kt q H locs ls hz hM hA hS hl) (fun q => kf q H locs ls hz hM hA hS hl)
theorem g_icmp_ge {x y : Int32} (hX : Cok X d) (h : AtJ d pc (.if_icmp .ge) n t) (kt : y ≤ x → G X t lv st M sz cs ss) (kf : ¬ y ≤ x → G X n lv st M sz cs ss) : G X pc lv (.int y :: .int x :: st) M sz cs ss := by
  obtain ⟨⟨p, l, e, R, s, m, args, below⟩, meth, c, A, Q, g⟩ := X
  obtain ⟨hx, hb, hml, hown, hts, hKS, hAz, hAn, hst9, hlk, hrt, hnm, hR, hex⟩ := hX
  intro H locs ls hz hM hA hS hl
  obtain ⟨off, h1, rfl, h2⟩ := h
  exact lv_icmp_ge hx hb h1 h2 (fun q => kt q H locs ls hz hM hA hS hl) (fun q => kf q H locs ls hz hM hA hS hl)
theorem g_if_ge {x : Int32} (hX : Cok X d) (h : AtJ d pc (.ifCond .ge) n t) (kt : 0 ≤ x → G X t lv st M sz cs ss) (kf : ¬ 0 ≤ x → G X n lv st M sz cs ss) : G X pc lv (.int x :: st) M sz cs ss := by
  obtain ⟨⟨p, l, e, R, s, m, args, below⟩, meth, c, A, Q, g⟩ := X
  obtain ⟨hx, hb, hml, hown, hts, hKS, hAz, hAn, hst9, hlk, hrt, hnm, hR, hex⟩ := hX
  intro H locs ls hz hM hA hS hl
  obtain ⟨off, h1, rfl, h2⟩ := h
  exact lv_if_ge hx hb h1 h2 (fun q => kt q H locs ls hz hM hA hS hl) (fun q => kf q H locs ls hz hM hA hS hl)
theorem g_icmp_gt {x y : Int32} (hX : Cok X d) (h : AtJ d pc (.if_icmp .gt) n t) (kt : y < x → G X t lv st M sz cs ss) (kf : ¬ y < x → G X n lv st M sz cs ss) : G X pc lv (.int y :: .int x :: st) M sz cs ss := by
  obtain ⟨⟨p, l, e, R, s, m, args, below⟩, meth, c, A, Q, g⟩ := X
  obtain ⟨hx, hb, hml, hown, hts, hKS, hAz, hAn, hst9, hlk, hrt, hnm, hR, hex⟩ := hX
  intro H locs ls hz hM hA hS hl
  obtain ⟨off, h1, rfl, h2⟩ := h
  exact lv_icmp_gt hx hb h1 h2 (fun q => kt q H locs ls hz hM hA hS hl) (fun q => kf q H locs ls hz hM hA hS hl)
theorem g_if_gt {x : Int32} (hX : Cok X d) (h : AtJ d pc (.ifCond .gt) n t) (kt : 0 < x → G X t lv st M sz cs ss) (kf : ¬ 0 < x → G X n lv st M sz cs ss) : G X pc lv (.int x :: st) M sz cs ss := by
  obtain ⟨⟨p, l, e, R, s, m, args, below⟩, meth, c, A, Q, g⟩ := X
  obtain ⟨hx, hb, hml, hown, hts, hKS, hAz, hAn, hst9, hlk, hrt, hnm, hR, hex⟩ := hX
  intro H locs ls hz hM hA hS hl
  obtain ⟨off, h1, rfl, h2⟩ := h
  exact lv_if_gt hx hb h1 h2 (fun q => kt q H locs ls hz hM hA hS hl) (fun q => kf q H locs ls hz hM hA hS hl)
theorem g_icmp_le {x y : Int32} (hX : Cok X d) (h : AtJ d pc (.if_icmp .le) n t) (kt : x ≤ y → G X t lv st M sz cs ss) (kf : ¬ x ≤ y → G X n lv st M sz cs ss) : G X pc lv (.int y :: .int x :: st) M sz cs ss := by
  obtain ⟨⟨p, l, e, R, s, m, args, below⟩, meth, c, A, Q, g⟩ := X
  obtain ⟨hx, hb, hml, hown, hts, hKS, hAz, hAn, hst9, hlk, hrt, hnm, hR, hex⟩ := hX
  intro H locs ls hz hM hA hS hl
  obtain ⟨off, h1, rfl, h2⟩ := h
  exact lv_icmp_le hx hb h1 h2 (fun q => kt q H locs ls hz hM hA hS hl) (fun q => kf q H locs ls hz hM hA hS hl)
theorem g_if_le {x : Int32} (hX : Cok X d) (h : AtJ d pc (.ifCond .le) n t) (kt : x ≤ 0 → G X t lv st M sz cs ss) (kf : ¬ x ≤ 0 → G X n lv st M sz cs ss) : G X pc lv (.int x :: st) M sz cs ss := by
  obtain ⟨⟨p, l, e, R, s, m, args, below⟩, meth, c, A, Q, g⟩ := X
  obtain ⟨hx, hb, hml, hown, hts, hKS, hAz, hAn, hst9, hlk, hrt, hnm, hR, hex⟩ := hX
  intro H locs ls hz hM hA hS hl
  obtain ⟨off, h1, rfl, h2⟩ := h
  exact lv_if_le hx hb h1 h2 (fun q => kt q H locs ls hz hM hA hS hl) (fun q => kf q H locs ls hz hM hA hS hl)
theorem g_acmp_eq {rx ry : Option Nat} {vx vy : Value} (hX : Cok X d) (h : AtJ d pc (.if_acmp .eq) n t) (ex : vx = va_rf rx) (ey : vy = va_rf ry) (kt : rx = ry → G X t lv st M sz cs ss) (kf : ¬ rx = ry → G X n lv st M sz cs ss) : G X pc lv (vy :: vx :: st) M sz cs ss := by
  obtain ⟨⟨p, l, e, R, s, m, args, below⟩, meth, c, A, Q, g⟩ := X
  obtain ⟨hx, hb, hml, hown, hts, hKS, hAz, hAn, hst9, hlk, hrt, hnm, hR, hex⟩ := hX
  intro H locs ls hz hM hA hS hl
  obtain ⟨off, h1, rfl, h2⟩ := h
  subst ex
  subst ey
  exact lv_acmp_eq hx hb h1 h2 (fun q => kt q H locs ls hz hM hA hS hl) (fun q => kf q H locs ls hz hM hA hS hl)
theorem g_acmp_ne {rx ry : Option Nat} {vx vy : Value} (hX : Cok X d) (h : AtJ d pc (.if_acmp .ne) n t) (ex : vx = va_rf rx) (ey : vy = va_rf ry) (kt : ¬ rx = ry → G X t lv st M sz cs ss) (kf : rx = ry → G X n lv st M sz cs ss) : G X pc lv (vy :: vx :: st) M sz cs ss := by
  obtain ⟨⟨p, l, e, R, s, m, args, below⟩, meth, c, A, Q, g⟩ := X
  obtain ⟨hx, hb, hml, hown, hts, hKS, hAz, hAn, hst9, hlk, hrt, hnm, hR, hex⟩ := hX
  intro H locs ls hz hM hA hS hl
  obtain ⟨off, h1, rfl, h2⟩ := h
  subst ex
  subst ey
  exact lv_acmp_ne hx hb h1 h2 (fun q => kt q H locs ls hz hM hA hS hl) (fun q => kf q H locs ls hz hM hA hS hl)
theorem g_ifnull {r : Option Nat} {v : Value} (hX : Cok X d) (h : AtJ d pc .ifnull n t) (ev : v = va_rf r) (kt : r = none → G X t lv st M sz cs ss) (kf : ∀ a, r = some a → G X n lv st M sz cs ss) : G X pc lv (v :: st) M sz cs ss := by
  obtain ⟨⟨p, l, e, R, s, m, args, below⟩, meth, c, A, Q, g⟩ := X
  obtain ⟨hx, hb, hml, hown, hts, hKS, hAz, hAn, hst9, hlk, hrt, hnm, hR, hex⟩ := hX
  intro H locs ls hz hM hA hS hl
  obtain ⟨off, h1, rfl, h2⟩ := h
  subst ev
  cases r with
  | none => exact lv_ifnullN hx hb h1 h2 (kt rfl H locs ls hz hM hA hS hl)
  | some a => exact lv_ifnull hx hb h1 (kf a rfl H locs ls hz hM hA hS hl)
theorem g_ifnonnull {r : Option Nat} {v : Value} (hX : Cok X d) (h : AtJ d pc .ifnonnull n t) (ev : v = va_rf r) (kt : ∀ a, r = some a → G X t lv st M sz cs ss) (kf : r = none → G X n lv st M sz cs ss) : G X pc lv (v :: st) M sz cs ss := by
  obtain ⟨⟨p, l, e, R, s, m, args, below⟩, meth, c, A, Q, g⟩ := X
  obtain ⟨hx, hb, hml, hown, hts, hKS, hAz, hAn, hst9, hlk, hrt, hnm, hR, hex⟩ := hX
  intro H locs ls hz hM hA hS hl
  obtain ⟨off, h1, rfl, h2⟩ := h
  subst ev
  cases r with
  | none => exact lv_ifnonnullN hx hb h1 (kf rfl H locs ls hz hM hA hS hl)
  | some a => exact lv_ifnonnull hx hb h1 h2 (kt a rfl H locs ls hz hM hA hS hl)
end R1
