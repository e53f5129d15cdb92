/-! contracts: what a method is asked for, as a transformer of what its caller wants -/
abbrev hK : Type := (Option Value ⊕ String) → hM → Nat → Prop
abbrev hS : Type := List Value → hM → Nat → hK → Prop
def AA (M : hM) (sz : Nat) : Nat → Prop := fun q => (∃ x, M q = some x) ∨ sz ≤ q
def Pc9 (g : hG) (as : List Value) (M : hM) (sz : Nat) : Array Value → State → Prop := va_Pc as (fun U => U.heap.size = sz ∧ hv g.1 g.2.1 M U.heap ∧ KS g U)
def Qc9 (g : hG) (M : hM) (sz : Nat) (K : hK) : Array Value → State → Outcome → State → Prop := fun _ st oc t => (∃ (v : Option Value) (M' : hM), oc = .returned v ∧ K (.inl v) M' t.heap.size ∧ hv g.1 g.2.1 M' t.heap ∧ ∀ (q : Nat) (x : hC), M' q = some x → AA M sz q) ∧ va_F (AA M sz) st t
def XC9 (g : hG) (M : hM) (sz : Nat) (K : hK) : String → State → State → Prop := fun E st t => (∃ M' : hM, K (.inr E) M' t.heap.size ∧ hv g.1 g.2.1 M' t.heap ∧ ∀ (q : Nat) (x : hC), M' q = some x → AA M sz q) ∧ va_F (AA M sz) st t
def cw9 (d : hD) : Cond := if d.2.2.2.2.2 = [] then Cond.code d.1 d.2.1 d.2.2.1 d.2.2.2.1 else Cond.codeWith d.1 d.2.1 d.2.2.1 d.2.2.2.1 d.2.2.2.2.2
def Ctr (l : Launch) (g : hG) (d : hD) (sp : hS) : Prop := ∀ (as : List Value) (M : hM) (sz : Nat) (K : hK), sp as M sz K → (∀ (q : Nat) (x : hC), M q = some x → g.2.2.1 ≤ q) → g.2.2.1 ≤ sz →
  vx_Met l d.1 [cw9 d] d.2.2.2.2.1 (Pc9 g as M sz) (Qc9 g M sz K) (XC9 g M sz K) d.2.2.2.2.1.cells d.2.2.2.2.1.slots (AA M sz)
/-- what the body owes at its ends -/
def Ret (X : hX) (d : hD) (M : hM) (sz : Nat) (K : hK) : Prop := X.2.2.2.1 = AA M sz ∧ X.2.2.2.2.1 = vx_MQ X.1.2.2.2.2.2.2.2 (Qc9 X.2.2.2.2.2 M sz K) (XC9 X.2.2.2.2.2 M sz K) X.1.2.2.2.2.2.2.1 X.1.2.2.2.2.1 d.2.2.2.2.1.cells d.2.2.2.2.1.slots (AA M sz)
/-- an exception of class E in flight over the frame -/
def GX (X : hX) (pc : Nat) (lv rest : List Value) (M : hM) (sz cs ss : Nat) (E : String) : Prop :=
  ∀ (H : Heap) (locs : List Loc) (ls : Array Slot) (q9 : Nat) (ce : Cell), H.size = sz → hv X.2.2.2.2.2.1 X.2.2.2.2.2.2.1 M H → (∀ (q : Nat) (x : hC), M q = some x → X.2.2.2.1 q) → va_S X.2.2.2.1 X.1.2.2.2.2.1.heap H locs → lh ls X.2.2.1.maxLocals lv →
    H[q9]? = some ce → ce.vm = .none → X.1.2.2.2.2.1.vm.findClass E = some ce.cls →
    vx_W X.1.1 X.1.2.1 X.1.2.2.1 X.1.2.2.2.1 X.1.2.2.2.2.1 X.1.2.2.2.2.2.1 X.1.2.2.2.2.2.2.1 X.1.2.2.2.2.2.2.2 X.2.1 X.2.2.1 H locs cs ss X.2.2.2.2.1 (F0 X.1.2.2.2.2.2.1 pc ls rest) q9
/-- what a call's caller wants of it -/
def Kc (X : hX) (pc n : Nat) (lv rest : List Value) (cs ss : Nat) : hK := fun r M' sz' => match r with
  | .inl v => G X n lv (v.toList ++ rest) M' sz' cs ss
  | .inr E => GX X pc lv rest M' sz' cs ss E
theorem lh_entry {as : List Value} {n : Nat} (hc : ∀ v ∈ as, v.category = 1) (hn : as.length ≤ n) : lh ((lg_sl as ++ List.replicate (n - (lg_sl as).length) Slot.unset).toArray) n (as ++ List.replicate (n - as.length) U9) := by
  have hsl : lg_sl as = as.map Slot.val := by
    unfold lg_sl
    clear hn
    induction as with
    | nil => rfl
    | cons v t ih =>
      have h1 : v.category = 1 := hc v List.mem_cons_self
      rw [List.flatMap_cons, List.map_cons, ih (fun w hw => hc w (List.mem_cons_of_mem _ hw)), h1]
      rfl
  have hlen : (lg_sl as).length = as.length := by rw [hsl, List.length_map]
  have h0 := lv_entry as (n := n) (by rw [hlen]; exact hn)
  refine ⟨h0.1, h0.2.1, by simp; omega, fun i v hv => ?_⟩
  by_cases hi : i < as.length
  · rw [List.getElem?_append_left hi] at hv
    have hm := List.mem_of_getElem? hv
    refine ⟨hc v hm, fun _ => ?_⟩
    rw [List.getElem?_toArray, List.getElem?_append_left (by rw [hlen]; exact hi), hsl, List.getElem?_map, hv]
    rfl
  · rw [List.getElem?_append_right (by omega), List.getElem?_replicate] at hv
    by_cases hj : i - as.length < n - as.length
    · rw [if_pos hj] at hv
      cases hv
      exact ⟨rfl, fun h => by cases h⟩
    · rw [if_neg hj] at hv
      cases hv
theorem Ctr.mk9 {l : Launch} {g : hG} {d : hD} {sp : hS} (hst : l.stackTraces = false) (hy : plainName d.1.cls = true) (hargs : ∀ as M sz K, sp as M sz K → as.length ≤ d.2.2.1 ∧ ∀ v ∈ as, v.category = 1)
    (body : ∀ (X : hX) (as : List Value) (M : hM) (sz : Nat) (K : hK), Cok X d → X.2.2.2.2.2 = g → X.1.2.1 = l → Ret X d M sz K → sp as M sz K → G X 0 (as ++ List.replicate (d.2.2.1 - as.length) U9) [] M sz 0 0) : Ctr l g d sp := by
  intro as M sz K hsp hdom hz0
  have core : ∀ p e s m args below meth c s₁, BodyLoose p l d.1 (headSpec [cw9 d] d.2.2.2.2.1) d.2.1 d.2.2.1 d.2.2.2.1 e s m args below meth c s₁ → c.maxLocals = d.2.2.1 → c.exceptionTable.toList = tableOf d.2.2.2.2.2 → Pc9 g as M sz args s →
      W p l e (headSpec [cw9 d] d.2.2.2.2.1).room s m args below meth c s.heap [] 0 0 (vx_MQ below (Qc9 g M sz K) (XC9 g M sz K) args s d.2.2.2.2.1.cells d.2.2.2.2.1.slots (AA M sz)) (entryFrame m args d.2.2.1) := by
    intro p e s m args below meth c s₁ B hml hex hv
    obtain ⟨rfl, hsz, hM, hKS⟩ := hv
    obtain ⟨ha1, ha2⟩ := hargs as M sz K hsp
    have hTW : TW as.toArray s := by
      have := hKS.2.1
      exact TW.same rfl this
    have hCok : Cok ((p, l, e, d.2.2.2.2.1, s, m, as.toArray, below), meth, c, AA M sz, vx_MQ below (Qc9 g M sz K) (XC9 g M sz K) as.toArray s d.2.2.2.2.1.cells d.2.2.2.2.1.slots (AA M sz), g) d :=
      ⟨B.exec, B.bytes, hml, findClass_of_methodNamed B.named, hTW, hKS, fun q hq => hq.elim (fun ⟨x, hx⟩ => hdom q x hx) (fun h => Nat.le_trans hz0 h), fun q hq => Or.inr (by rw [← hsz]; exact hq), hst, B.notSynchronized, B.returns, (name_of_methodNamed B.named B.method).1, rfl, hex⟩
    have k := body ((p, l, e, d.2.2.2.2.1, s, m, as.toArray, below), meth, c, AA M sz, vx_MQ below (Qc9 g M sz K) (XC9 g M sz K) as.toArray s d.2.2.2.2.1.cells d.2.2.2.2.1.slots (AA M sz), g) as M sz K hCok rfl rfl ⟨rfl, rfl⟩ hsp
    rw [lg_entry_eq]
    exact k s.heap [] _ hsz hM (fun q x hx => Or.inl ⟨x, hx⟩) va_S.rf (by rw [show c.maxLocals = d.2.2.1 from hml]; exact lh_entry ha2 ha1)
  by_cases hh : d.2.2.2.2.2 = []
  · refine vx_ofW (cc := d.2.1) (maxL := d.2.2.1) (ret := d.2.2.2.1) (ws' := []) hy (by unfold cw9; rw [if_pos hh]) ?_
    intro p e s m args below meth c s₁ B hml ht hv
    refine core p e s m args below meth c s₁ B hml ?_ hv
    rw [hh]
    exact List.eq_nil_iff_forall_not_mem.mpr ht
  · refine vx_ofWH (cc := d.2.1) (maxL := d.2.2.1) (ret := d.2.2.2.1) (hh := d.2.2.2.2.2) (ws' := []) hy (by unfold cw9; rw [if_neg hh]) ?_
    intro p e s m args below meth c s₁ B hml hv
    refine core p e s m args below meth c s₁ B hml ?_ hv
    refine vx_table (x := d.1) (y := d.1) (bytes := d.2.1) (maxL' := d.2.2.1) (ret' := d.2.2.2.1) B (atoms_spec (ws := [cw9 d]) B.pre _ ?_)
    unfold cw9
    rw [if_neg hh]
    exact List.mem_cons_self
theorem Pc9.blind {g : hG} {as : List Value} {M : hM} {sz : Nat} : FrameBlind (Pc9 g as M sz) := fun _ _ f mk h => ⟨h.1, h.2.1, h.2.2.1, h.2.2.2.calling f mk _⟩
section R3
variable {X : hX} {d dc : hD} {pc n na t i a : Nat} {lv st rest : List Value} {M : hM} {sz cs ss : Nat} {sp : hS}
/-- behind a run of a callee -/
theorem run9 {As : List Value} (hX : Cok X d) {H : Heap} {locs : List Loc} {ls : Array Slot} {K : hK} (hz : H.size = sz) (hM : hv X.2.2.2.2.2.1 X.2.2.2.2.2.2.1 M H) (hA : ∀ (q : Nat) (x : hC), M q = some x → X.2.2.2.1 q) (hS : va_S X.2.2.2.1 X.1.2.2.2.2.1.heap H locs) (hl : lh ls X.2.2.1.maxLocals lv) (hK : K = Kc X pc (pc + 3) lv rest (cs + dc.2.2.2.2.1.cells) (ss + dc.2.2.2.2.1.slots)) {aa : Array Value}
    (hr : vx_Run X.1.1 X.1.2.1 X.1.2.2.1 X.1.2.2.2.1 X.1.2.2.2.2.1 X.1.2.2.2.2.2.1 X.1.2.2.2.2.2.2.1 X.1.2.2.2.2.2.2.2 X.2.1 X.2.2.1 H locs cs ss dc.2.2.2.2.1.cells dc.2.2.2.2.1.slots (F0 X.1.2.2.2.2.2.1 pc ls st) rest (Qc9 X.2.2.2.2.2 M sz K aa) (XC9 X.2.2.2.2.2 M sz K) (AA M sz)) :
    W X.1.1 X.1.2.1 X.1.2.2.1 X.1.2.2.2.1 X.1.2.2.2.2.1 X.1.2.2.2.2.2.1 X.1.2.2.2.2.2.2.1 X.1.2.2.2.2.2.2.2 X.2.1 X.2.2.1 H locs cs ss X.2.2.2.2.1 (F0 X.1.2.2.2.2.2.1 pc ls st) := by
  obtain ⟨⟨p, l, e, R, s, m, args, below⟩, meth, c, A, Q, g⟩ := X
  obtain ⟨hx, hb, hml, hown, hts, hKS, hAz, hAn, hst9, hlk, hrt, hnm, hR, hex⟩ := hX
  subst hK
  have hfree : ∀ q, AA M sz q → A q := fun q hq => hq.elim (fun ⟨x, h9⟩ => hA q x h9) (fun h9 => hAn q (Nat.le_trans hS.1 (by rw [hz]; exact h9)))
  intro T hT X0
  rcases hr T hT X0 with ⟨v, st₀, t, T', L, h0, X', hL, e1, e2, ⟨⟨v', M', ev, hk, hv', hdom⟩, hF⟩, stp⟩ | ⟨q9, st₀, t, T', L, E, ce, h0, X', hL, e1, e2, ⟨⟨M', hk, hv', hdom⟩, hF⟩, hce, hcv, hcl, stp⟩
  · cases ev
    obtain ⟨k1, k2, k3⟩ := vx_keep h0 e1 hS (fun q _ hq => hfree q hq) hfree hL hF
    obtain ⟨t2, a1, b1⟩ := hk T'.heap (locs ++ L) ls (by rw [e1]) (by rw [e1]; exact hv') (fun q x hx9 => hfree q (hdom q x hx9)) k3 hl T' rfl X'
    exact ⟨t2, stp t2 a1, b1⟩
  · obtain ⟨k1, k2, k3⟩ := vx_keep h0 e1 hS (fun q _ hq => hfree q hq) hfree hL hF
    obtain ⟨t2, a1, b1⟩ := hk T'.heap (locs ++ L) ls q9 ce (by rw [e1]) (by rw [e1]; exact hv') (fun q x hx9 => hfree q (hdom q x hx9)) k3 hl (by rw [e1]; exact hce) hcv hcl T' rfl X'
    exact ⟨t2, stp.trans a1, b1⟩
/-- what holds at a callee's start -/
theorem pre9 {As : List Value} (hX : Cok X d) {H : Heap} {locs : List Loc} (hz : H.size = sz) (hM : hv X.2.2.2.2.2.1 X.2.2.2.2.2.2.1 M H) (hS : va_S X.2.2.2.1 X.1.2.2.2.2.1.heap H locs) : PreS X.1.2.2.2.2.1 H (Pc9 X.2.2.2.2.2 As M sz) As := by
  obtain ⟨⟨p, l, e, R, s, m, args, below⟩, meth, c, A, Q, g⟩ := X
  obtain ⟨hx, hb, hml, hown, hts, hKS, hAz, hAn, hst9, hlk, hrt, hnm, hR, hex⟩ := hX
  refine ⟨Pc9.blind, fun U hU hW => ⟨rfl, by rw [hU]; exact hz, by rw [hU]; exact hM, hKS.next hW (by rw [hU]; exact hS.1) (fun q h1 h2 => by rw [hU]; exact hS.2.1 q h1 (fun h3 => h2 (hAz q h3)))⟩⟩
def Cal (d dc : hD) (na : Nat) : Prop := (∃ i : Nat, lw_tbl[i]? = some (cw9 dc)) ∧ (∃ i : Nat, lw_tbl[i]? = some (Cond.initialized dc.1.cls)) ∧ (dc.1.cls ≠ "java/lang/invoke/MethodHandle" ∧ dc.1.cls ≠ "java/lang/invoke/VarHandle") ∧ (parseMethodDescriptor dc.1.desc).map (fun z => z.parameters.length) = some na ∧ dc.2.2.2.2.1.frames + 1 ≤ d.2.2.2.2.1.frames ∧ 8 + (dc.2.2.1 + 11) + dc.2.2.2.2.1.locals ≤ d.2.2.2.2.1.locals
theorem cw9_tw (dc : hD) : tw (cw9 dc) = true := by
  unfold cw9
  by_cases hh : dc.2.2.2.2.2 = []
  · rw [if_pos hh]; rfl
  · rw [if_neg hh]; rfl
theorem cw9_good (dc : hD) : goodWord (cw9 dc) = true := by
  unfold cw9
  by_cases hh : dc.2.2.2.2.2 = []
  · rw [if_pos hh]; rfl
  · rw [if_neg hh]; rfl
theorem Cal.len {d dc : hD} {na : Nat} (h : Cal d dc na) : ∀ sig, parseMethodDescriptor dc.1.desc = some sig → na = sig.parameters.length := by
  intro sig hs
  have h2 := h.2.2.2.1
  rw [hs] at h2
  exact (Option.some.inj h2).symm
theorem Cal.b {d dc : hD} {na index : Nat} {own : String} {R : Room} {args : Array Value} {s : State} (h : Cal d dc na) (hh : dc.2.2.2.2.2 = []) (hts : TW args s) (hR : R = d.2.2.2.2.1) (hl : (Cond.methodLink own index dc.1).before args s = true) : CallB R s args own index dc.1 dc.2.1 dc.2.2.1 dc.2.2.2.1 [cw9 dc] dc.2.2.2.2.1 dc.2.2.2.2.1.cells dc.2.2.2.2.1.slots na := by
  obtain ⟨⟨i, hi⟩, ⟨j, hj⟩, hn, hlen, hf, hlo⟩ := id h
  subst hR
  have hc := hts.at i hi (cw9_tw dc)
  have e9 : cw9 dc = Cond.code dc.1 dc.2.1 dc.2.2.1 dc.2.2.2.1 := by unfold cw9; rw [if_pos hh]
  refine ⟨rfl, rfl, hf, hlo, fun w hw a' U hW => ?_, by rw [e9]; exact List.mem_cons_self, by rw [← e9]; exact hc, hts.at j hj rfl, hn, h.len, hl⟩
  rw [List.mem_singleton.mp hw]
  exact word_at hW (good_of_word (cw9_good dc)) hc
theorem Cal.nst {d dc : hD} {na index : Nat} {own host : String} {R : Room} {args : Array Value} {s : State} (h : Cal d dc na) (hh : dc.2.2.2.2.2 = []) (hts : TW args s) (hR : R = d.2.2.2.2.1) (hl : (Cond.methodLinkNest own index dc.1 host).before args s = true) : va_CN R s args own index dc.1 host dc.2.1 dc.2.2.1 dc.2.2.2.1 [cw9 dc] dc.2.2.2.2.1 dc.2.2.2.2.1.cells dc.2.2.2.2.1.slots na := by
  obtain ⟨⟨i, hi⟩, ⟨j, hj⟩, hn, hlen, hf, hlo⟩ := id h
  subst hR
  have hc := hts.at i hi (cw9_tw dc)
  have e9 : cw9 dc = Cond.code dc.1 dc.2.1 dc.2.2.1 dc.2.2.2.1 := by unfold cw9; rw [if_pos hh]
  refine ⟨⟨rfl, rfl, hf, hlo, fun w hw a' U hW => ?_, by rw [e9]; exact List.mem_cons_self⟩, by rw [← e9]; exact hc, hts.at j hj rfl, hn, h.len, hl⟩
  rw [List.mem_singleton.mp hw]
  exact word_at hW (good_of_word (cw9_good dc)) hc
theorem Cal.w {d dc : hD} {na index : Nat} {own : String} {R : Room} {args : Array Value} {s : State} (h : Cal d dc na) (hh : ¬ dc.2.2.2.2.2 = []) (hts : TW args s) (hR : R = d.2.2.2.2.1) (hl : (Cond.methodLink own index dc.1).before args s = true) (hs : (Cond.static dc.1).before args s = true) : vx_CSW R s args own index dc.1 dc.2.1 dc.2.2.1 dc.2.2.2.1 dc.2.2.2.2.2 [cw9 dc] dc.2.2.2.2.1 dc.2.2.2.2.1.cells dc.2.2.2.2.1.slots na := by
  obtain ⟨⟨i, hi⟩, ⟨j, hj⟩, hn, hlen, hf, hlo⟩ := id h
  subst hR
  have hc := hts.at i hi (cw9_tw dc)
  have e9 : cw9 dc = Cond.codeWith dc.1 dc.2.1 dc.2.2.1 dc.2.2.2.1 dc.2.2.2.2.2 := by unfold cw9; rw [if_neg hh]
  refine ⟨⟨rfl, rfl, hf, hlo, fun w hw a' U hW => ?_, by rw [e9]; exact List.mem_cons_self⟩, by rw [← e9]; exact hc, hts.at j hj rfl, hn, h.len, hl, hs⟩
  rw [List.mem_singleton.mp hw]
  exact word_at hW (good_of_word (cw9_good dc)) hc
/-! the calls: static, of a nest mate, with handlers; of an object; constructors -/
def AtS (d : hD) (pc : Nat) (dc : hD) (na n : Nat) : Prop := ∃ index i j : Nat, decode d.2.1 pc = .ok (.invokestatic index, 3) ∧ pc + 3 = n ∧ lw_tbl[i]? = some (Cond.methodLink d.1.cls index dc.1) ∧ lw_tbl[j]? = some (Cond.static dc.1) ∧ dc.2.2.2.2.2 = [] ∧ Cal d dc na
def AtSX (d : hD) (pc : Nat) (dc : hD) (na n : Nat) : Prop := ∃ index i j : Nat, decode d.2.1 pc = .ok (.invokestatic index, 3) ∧ pc + 3 = n ∧ lw_tbl[i]? = some (Cond.methodLink d.1.cls index dc.1) ∧ lw_tbl[j]? = some (Cond.static dc.1) ∧ ¬ dc.2.2.2.2.2 = [] ∧ Cal d dc na
def AtSN (d : hD) (pc : Nat) (dc : hD) (na n : Nat) : Prop := ∃ (index i j : Nat) (host : String), decode d.2.1 pc = .ok (.invokestatic index, 3) ∧ pc + 3 = n ∧ lw_tbl[i]? = some (Cond.methodLinkNest d.1.cls index dc.1 host) ∧ lw_tbl[j]? = some (Cond.static dc.1) ∧ dc.2.2.2.2.2 = [] ∧ Cal d dc na
def AtV (d : hD) (pc : Nat) (dc : hD) (na ci n : Nat) : Prop := ∃ (index i j k : Nat) (q : vw_C), decode d.2.1 pc = .ok (.invokevirtual index, 3) ∧ pc + 3 = n ∧ cls9[ci]? = some q ∧ lw_tbl[i]? = some (Cond.methodLink d.1.cls index dc.1) ∧ lw_tbl[j]? = some (Cond.instanceMethod dc.1) ∧ lw_tbl[k]? = some (Cond.selects q.1 dc.1 dc.1) ∧ dc.2.2.2.2.2 = [] ∧ Cal d dc na
def AtVN (d : hD) (pc : Nat) (dc : hD) (na ci n : Nat) : Prop := ∃ (index i j k : Nat) (q : vw_C) (host : String), decode d.2.1 pc = .ok (.invokevirtual index, 3) ∧ pc + 3 = n ∧ cls9[ci]? = some q ∧ lw_tbl[i]? = some (Cond.methodLinkNest d.1.cls index dc.1 host) ∧ lw_tbl[j]? = some (Cond.instanceMethod dc.1) ∧ lw_tbl[k]? = some (Cond.selects q.1 dc.1 dc.1) ∧ dc.2.2.2.2.2 = [] ∧ Cal d dc na
def AtNI (d : hD) (pc : Nat) (dc : hD) (na n : Nat) : Prop := ∃ index i j : Nat, decode d.2.1 pc = .ok (.invokespecial index, 3) ∧ pc + 3 = n ∧ lw_tbl[i]? = some (Cond.methodLink d.1.cls index dc.1) ∧ lw_tbl[j]? = some (Cond.instanceMethod dc.1) ∧ dc.1.name = "<init>" ∧ dc.2.2.2.1 = none ∧ dc.2.2.2.2.2 = [] ∧ Cal d dc na
def AtNIN (d : hD) (pc : Nat) (dc : hD) (na n : Nat) : Prop := ∃ (index i j : Nat) (host : String), decode d.2.1 pc = .ok (.invokespecial index, 3) ∧ pc + 3 = n ∧ lw_tbl[i]? = some (Cond.methodLinkNest d.1.cls index dc.1 host) ∧ lw_tbl[j]? = some (Cond.instanceMethod dc.1) ∧ dc.1.name = "<init>" ∧ dc.2.2.2.1 = none ∧ dc.2.2.2.2.2 = [] ∧ Cal d dc na
def Rm9 (d dc : hD) (cs ss c2 s2 : Nat) : Prop := cs + dc.2.2.2.2.1.cells = c2 ∧ ss + dc.2.2.2.2.1.slots = s2 ∧ c2 ≤ d.2.2.2.2.1.cells ∧ s2 ≤ d.2.2.2.2.1.slots
theorem g_cS {As : List Value} (hX : Cok X d) (hC : Ctr X.1.2.1 X.2.2.2.2.2 dc sp) (h : AtS d pc dc na n) (hn : As.length = na) (hst : st = As.reverse ++ rest) (hW : (rest.map fun v => v.category).sum ≤ 8) {c2 s2 : Nat} (hrm : Rm9 d dc cs ss c2 s2) (kk : sp As M sz (Kc X pc n lv rest c2 s2)) : G X pc lv st M sz cs ss := by
  obtain ⟨⟨p, l, e, R, s, m, args, below⟩, meth, c, A, Q, g⟩ := X
  obtain ⟨hx, hb, hml, hown, hts, hKS, hAz, hAn, hst9, hlk, hrt, hnm, hR, hex⟩ := hX
  intro H locs ls hz hM hA hS hl
  have hX0 : Cok ((p, l, e, R, s, m, args, below), meth, c, A, Q, g) d := ⟨hx, hb, hml, hown, hts, hKS, hAz, hAn, hst9, hlk, hrt, hnm, hR, hex⟩
  have hR' : R = d.2.2.2.2.1 := hR
  subst hR'
  obtain ⟨index, i1, i2, h1, rfl, e1, e2, hh, hcal⟩ := h
  obtain ⟨rfl, rfl, hrm1, hrm2⟩ := hrm
  have hrm := And.intro hrm1 hrm2
  have hz0 : g.2.2.1 ≤ sz := by rw [← hz]; exact Nat.le_trans hKS.2.2.1 hS.1
  have hC9 := hC _ _ _ _ kk (fun q x h9 => hAz q (hA q x h9)) hz0
  exact run9 (As := As) (dc := dc) (aa := As.toArray) hX0 hz hM hA hS hl rfl (vx_runS (Ts := []) (nL := c.maxLocals) (As := As) (rest := rest) ⟨hx, hb, rfl, hown, fun _ h9 => absurd h9 List.not_mem_nil⟩ hC9 ⟨hcal.b hh hts rfl (hts.at i1 e1 rfl), hts.at i2 e2 rfl⟩ (pre9 hX0 hz hM hS) rfl hn hl.1 hst (lv_room hW) h1 hrm)
theorem g_cSX {As : List Value} (hX : Cok X d) (hC : Ctr X.1.2.1 X.2.2.2.2.2 dc sp) (h : AtSX d pc dc na n) (hn : As.length = na) (hst : st = As.reverse ++ rest) (hW : (rest.map fun v => v.category).sum ≤ 8) {c2 s2 : Nat} (hrm : Rm9 d dc cs ss c2 s2) (kk : sp As M sz (Kc X pc n lv rest c2 s2)) : G X pc lv st M sz cs ss := by
  obtain ⟨⟨p, l, e, R, s, m, args, below⟩, meth, c, A, Q, g⟩ := X
  obtain ⟨hx, hb, hml, hown, hts, hKS, hAz, hAn, hst9, hlk, hrt, hnm, hR, hex⟩ := hX
  intro H locs ls hz hM hA hS hl
  have hX0 : Cok ((p, l, e, R, s, m, args, below), meth, c, A, Q, g) d := ⟨hx, hb, hml, hown, hts, hKS, hAz, hAn, hst9, hlk, hrt, hnm, hR, hex⟩
  have hR' : R = d.2.2.2.2.1 := hR
  subst hR'
  obtain ⟨index, i1, i2, h1, rfl, e1, e2, hh, hcal⟩ := h
  obtain ⟨rfl, rfl, hrm1, hrm2⟩ := hrm
  have hrm := And.intro hrm1 hrm2
  have hz0 : g.2.2.1 ≤ sz := by rw [← hz]; exact Nat.le_trans hKS.2.2.1 hS.1
  have hC9 := hC _ _ _ _ kk (fun q x h9 => hAz q (hA q x h9)) hz0
  exact run9 (As := As) (dc := dc) (aa := As.toArray) hX0 hz hM hA hS hl rfl (vx_runSX (Ts := []) (nL := c.maxLocals) (As := As) (rest := rest) ⟨hx, hb, rfl, hown, fun _ h9 => absurd h9 List.not_mem_nil⟩ hC9 (hcal.w hh hts rfl (hts.at i1 e1 rfl) (hts.at i2 e2 rfl)) (pre9 hX0 hz hM hS) rfl hn hl.1 hst (lv_room hW) h1 hrm)
theorem g_cSN {As : List Value} (hX : Cok X d) (hC : Ctr X.1.2.1 X.2.2.2.2.2 dc sp) (h : AtSN d pc dc na n) (hn : As.length = na) (hst : st = As.reverse ++ rest) (hW : (rest.map fun v => v.category).sum ≤ 8) {c2 s2 : Nat} (hrm : Rm9 d dc cs ss c2 s2) (kk : sp As M sz (Kc X pc n lv rest c2 s2)) : G X pc lv st M sz cs ss := by
  obtain ⟨⟨p, l, e, R, s, m, args, below⟩, meth, c, A, Q, g⟩ := X
  obtain ⟨hx, hb, hml, hown, hts, hKS, hAz, hAn, hst9, hlk, hrt, hnm, hR, hex⟩ := hX
  intro H locs ls hz hM hA hS hl
  have hX0 : Cok ((p, l, e, R, s, m, args, below), meth, c, A, Q, g) d := ⟨hx, hb, hml, hown, hts, hKS, hAz, hAn, hst9, hlk, hrt, hnm, hR, hex⟩
  have hR' : R = d.2.2.2.2.1 := hR
  subst hR'
  obtain ⟨index, i1, i2, host, h1, rfl, e1, e2, hh, hcal⟩ := h
  obtain ⟨rfl, rfl, hrm1, hrm2⟩ := hrm
  have hrm := And.intro hrm1 hrm2
  have hz0 : g.2.2.1 ≤ sz := by rw [← hz]; exact Nat.le_trans hKS.2.2.1 hS.1
  have hC9 := hC _ _ _ _ kk (fun q x h9 => hAz q (hA q x h9)) hz0
  exact run9 (As := As) (dc := dc) (aa := As.toArray) hX0 hz hM hA hS hl rfl (vx_runSN (Ts := []) (nL := c.maxLocals) (As := As) (rest := rest) ⟨hx, hb, rfl, hown, fun _ h9 => absurd h9 List.not_mem_nil⟩ hC9 ⟨hcal.nst hh hts rfl (hts.at i1 e1 rfl), hts.at i2 e2 rfl, trivial⟩ (pre9 hX0 hz hM hS) rfl hn hl.1 hst (lv_room hW) h1 hrm)
theorem g_cV {As : List Value} {ci : Nat} {fs : List Value} (hX : Cok X d) (hC : Ctr X.1.2.1 X.2.2.2.2.2 dc sp) (h : AtV d pc dc na ci n) (hm : M a = some (.inl (ci, fs))) (hn : As.length = na) (hst : st = As.reverse ++ .ref a :: rest) (hW : (rest.map fun v => v.category).sum ≤ 8) {c2 s2 : Nat} (hrm : Rm9 d dc cs ss c2 s2) (kk : sp (.ref a :: As) M sz (Kc X pc n lv rest c2 s2)) : G X pc lv st M sz cs ss := by
  obtain ⟨⟨p, l, e, R, s, m, args, below⟩, meth, c, A, Q, g⟩ := X
  obtain ⟨hx, hb, hml, hown, hts, hKS, hAz, hAn, hst9, hlk, hrt, hnm, hR, hex⟩ := hX
  intro H locs ls hz hM hA hS hl
  have hX0 : Cok ((p, l, e, R, s, m, args, below), meth, c, A, Q, g) d := ⟨hx, hb, hml, hown, hts, hKS, hAz, hAn, hst9, hlk, hrt, hnm, hR, hex⟩
  have hR' : R = d.2.2.2.2.1 := hR
  subst hR'
  obtain ⟨index, i1, i2, i3, q9, h1, rfl, hq, e1, e2, e3, hh, hcal⟩ := h
  obtain ⟨rfl, rfl, hrm1, hrm2⟩ := hrm
  have hrm := And.intro hrm1 hrm2
  have hz0 : g.2.2.1 ≤ sz := by rw [← hz]; exact Nat.le_trans hKS.2.2.1 hS.1
  have hC9 := hC _ _ _ _ kk (fun q x h9 => hAz q (hA q x h9)) hz0
  exact run9 (As := .ref a :: As) (dc := dc) (aa := (Value.ref a :: As).toArray) hX0 hz hM hA hS hl rfl (vx_runV (Ts := []) (nL := c.maxLocals) (As := As) (rest := rest) (b := a) (C := q9.1) ⟨hx, hb, rfl, hown, fun _ h9 => absurd h9 List.not_mem_nil⟩ hC9 ⟨hcal.b hh hts rfl (hts.at i1 e1 rfl), hts.at i2 e2 rfl, hts.at i3 e3 rfl⟩ ⟨Pc9.blind, va_recv (D := g.1) hKS.1 (hM.one hm) hq (q0 := 0) rfl, (pre9 hX0 hz hM hS).2⟩ rfl hn hl.1 hst (lv_room hW) h1 hrm)
theorem g_cVN {As : List Value} {ci : Nat} {fs : List Value} (hX : Cok X d) (hC : Ctr X.1.2.1 X.2.2.2.2.2 dc sp) (h : AtVN d pc dc na ci n) (hm : M a = some (.inl (ci, fs))) (hn : As.length = na) (hst : st = As.reverse ++ .ref a :: rest) (hW : (rest.map fun v => v.category).sum ≤ 8) {c2 s2 : Nat} (hrm : Rm9 d dc cs ss c2 s2) (kk : sp (.ref a :: As) M sz (Kc X pc n lv rest c2 s2)) : G X pc lv st M sz cs ss := by
  obtain ⟨⟨p, l, e, R, s, m, args, below⟩, meth, c, A, Q, g⟩ := X
  obtain ⟨hx, hb, hml, hown, hts, hKS, hAz, hAn, hst9, hlk, hrt, hnm, hR, hex⟩ := hX
  intro H locs ls hz hM hA hS hl
  have hX0 : Cok ((p, l, e, R, s, m, args, below), meth, c, A, Q, g) d := ⟨hx, hb, hml, hown, hts, hKS, hAz, hAn, hst9, hlk, hrt, hnm, hR, hex⟩
  have hR' : R = d.2.2.2.2.1 := hR
  subst hR'
  obtain ⟨index, i1, i2, i3, q9, host, h1, rfl, hq, e1, e2, e3, hh, hcal⟩ := h
  obtain ⟨rfl, rfl, hrm1, hrm2⟩ := hrm
  have hrm := And.intro hrm1 hrm2
  have hz0 : g.2.2.1 ≤ sz := by rw [← hz]; exact Nat.le_trans hKS.2.2.1 hS.1
  have hC9 := hC _ _ _ _ kk (fun q x h9 => hAz q (hA q x h9)) hz0
  exact run9 (As := .ref a :: As) (dc := dc) (aa := (Value.ref a :: As).toArray) hX0 hz hM hA hS hl rfl (vx_runVN (Ts := []) (nL := c.maxLocals) (As := As) (rest := rest) (b := a) (C := q9.1) ⟨hx, hb, rfl, hown, fun _ h9 => absurd h9 List.not_mem_nil⟩ hC9 ⟨hcal.nst hh hts rfl (hts.at i1 e1 rfl), hts.at i2 e2 rfl, hts.at i3 e3 rfl⟩ ⟨Pc9.blind, va_recv (D := g.1) hKS.1 (hM.one hm) hq (q0 := 0) rfl, (pre9 hX0 hz hM hS).2⟩ rfl hn hl.1 hst (lv_room hW) h1 hrm)
theorem g_cI {As : List Value} (hX : Cok X d) (hC : Ctr X.1.2.1 X.2.2.2.2.2 dc sp) (h : AtNI d pc dc na n) (hn : As.length = na) (hst : st = As.reverse ++ .ref a :: rest) (hW : (rest.map fun v => v.category).sum ≤ 8) {c2 s2 : Nat} (hrm : Rm9 d dc cs ss c2 s2) (kk : sp (.ref a :: As) M sz (Kc X pc n lv rest c2 s2)) : G X pc lv st M sz cs ss := by
  obtain ⟨⟨p, l, e, R, s, m, args, below⟩, meth, c, A, Q, g⟩ := X
  obtain ⟨hx, hb, hml, hown, hts, hKS, hAz, hAn, hst9, hlk, hrt, hnm, hR, hex⟩ := hX
  intro H locs ls hz hM hA hS hl
  have hX0 : Cok ((p, l, e, R, s, m, args, below), meth, c, A, Q, g) d := ⟨hx, hb, hml, hown, hts, hKS, hAz, hAn, hst9, hlk, hrt, hnm, hR, hex⟩
  have hR' : R = d.2.2.2.2.1 := hR
  subst hR'
  obtain ⟨index, i1, i2, h1, rfl, e1, e2, hnm9, hret9, hh, hcal⟩ := h
  obtain ⟨rfl, rfl, hrm1, hrm2⟩ := hrm
  have hrm := And.intro hrm1 hrm2
  have hz0 : g.2.2.1 ≤ sz := by rw [← hz]; exact Nat.le_trans hKS.2.2.1 hS.1
  have hC9 := hC _ _ _ _ kk (fun q x h9 => hAz q (hA q x h9)) hz0
  have hcb := hcal.b hh hts rfl (hts.at i1 e1 rfl)
  rw [hret9] at hcb
  exact run9 (As := .ref a :: As) (dc := dc) (aa := (Value.ref a :: As).toArray) hX0 hz hM hA hS hl rfl (vx_runI (Ts := []) (nL := c.maxLocals) (As := As) (rest := rest) (b := a) ⟨hx, hb, rfl, hown, fun _ h9 => absurd h9 List.not_mem_nil⟩ hC9 ⟨hcb, hnm9, hts.at i2 e2 rfl⟩ (pre9 hX0 hz hM hS) rfl hn hl.1 hst (lv_room hW) h1 hrm)
theorem g_cIN {As : List Value} (hX : Cok X d) (hC : Ctr X.1.2.1 X.2.2.2.2.2 dc sp) (h : AtNIN d pc dc na n) (hn : As.length = na) (hst : st = As.reverse ++ .ref a :: rest) (hW : (rest.map fun v => v.category).sum ≤ 8) {c2 s2 : Nat} (hrm : Rm9 d dc cs ss c2 s2) (kk : sp (.ref a :: As) M sz (Kc X pc n lv rest c2 s2)) : G X pc lv st M sz cs ss := by
  obtain ⟨⟨p, l, e, R, s, m, args, below⟩, meth, c, A, Q, g⟩ := X
  obtain ⟨hx, hb, hml, hown, hts, hKS, hAz, hAn, hst9, hlk, hrt, hnm, hR, hex⟩ := hX
  intro H locs ls hz hM hA hS hl
  have hX0 : Cok ((p, l, e, R, s, m, args, below), meth, c, A, Q, g) d := ⟨hx, hb, hml, hown, hts, hKS, hAz, hAn, hst9, hlk, hrt, hnm, hR, hex⟩
  have hR' : R = d.2.2.2.2.1 := hR
  subst hR'
  obtain ⟨index, i1, i2, host, h1, rfl, e1, e2, hnm9, hret9, hh, hcal⟩ := h
  obtain ⟨rfl, rfl, hrm1, hrm2⟩ := hrm
  have hrm := And.intro hrm1 hrm2
  have hz0 : g.2.2.1 ≤ sz := by rw [← hz]; exact Nat.le_trans hKS.2.2.1 hS.1
  have hC9 := hC _ _ _ _ kk (fun q x h9 => hAz q (hA q x h9)) hz0
  have hcb := hcal.nst hh hts rfl (hts.at i1 e1 rfl)
  rw [hret9] at hcb
  exact run9 (As := .ref a :: As) (dc := dc) (aa := (Value.ref a :: As).toArray) hX0 hz hM hA hS hl rfl (vx_runIN (Ts := []) (nL := c.maxLocals) (As := As) (rest := rest) (b := a) ⟨hx, hb, rfl, hown, fun _ h9 => absurd h9 List.not_mem_nil⟩ hC9 ⟨hcb, hnm9, hts.at i2 e2 rfl⟩ (pre9 hX0 hz hM hS) rfl hn hl.1 hst (lv_room hW) h1 hrm)
theorem g_cS0 (hX : Cok X d) (hC : Ctr X.1.2.1 X.2.2.2.2.2 dc sp) (h : AtS d pc dc 0 n) (hW : (rest.map fun v => v.category).sum ≤ 8) {c2 s2 : Nat} (hrm : Rm9 d dc cs ss c2 s2) (kk : sp [] M sz (Kc X pc n lv rest c2 s2)) : G X pc lv (rest) M sz cs ss := g_cS (As := []) hX hC h rfl rfl hW hrm kk
theorem g_cSX0 (hX : Cok X d) (hC : Ctr X.1.2.1 X.2.2.2.2.2 dc sp) (h : AtSX d pc dc 0 n) (hW : (rest.map fun v => v.category).sum ≤ 8) {c2 s2 : Nat} (hrm : Rm9 d dc cs ss c2 s2) (kk : sp [] M sz (Kc X pc n lv rest c2 s2)) : G X pc lv (rest) M sz cs ss := g_cSX (As := []) hX hC h rfl rfl hW hrm kk
theorem g_cSN0 (hX : Cok X d) (hC : Ctr X.1.2.1 X.2.2.2.2.2 dc sp) (h : AtSN d pc dc 0 n) (hW : (rest.map fun v => v.category).sum ≤ 8) {c2 s2 : Nat} (hrm : Rm9 d dc cs ss c2 s2) (kk : sp [] M sz (Kc X pc n lv rest c2 s2)) : G X pc lv (rest) M sz cs ss := g_cSN (As := []) hX hC h rfl rfl hW hrm kk
theorem g_cV0 {ci : Nat} {fs : List Value} (hX : Cok X d) (hC : Ctr X.1.2.1 X.2.2.2.2.2 dc sp) (h : AtV d pc dc 0 ci n) (hm : M a = some (.inl (ci, fs))) (hW : (rest.map fun v => v.category).sum ≤ 8) {c2 s2 : Nat} (hrm : Rm9 d dc cs ss c2 s2) (kk : sp (.ref a :: []) M sz (Kc X pc n lv rest c2 s2)) : G X pc lv (.ref a :: rest) M sz cs ss := g_cV (As := []) hX hC h hm rfl rfl hW hrm kk
theorem g_cVN0 {ci : Nat} {fs : List Value} (hX : Cok X d) (hC : Ctr X.1.2.1 X.2.2.2.2.2 dc sp) (h : AtVN d pc dc 0 ci n) (hm : M a = some (.inl (ci, fs))) (hW : (rest.map fun v => v.category).sum ≤ 8) {c2 s2 : Nat} (hrm : Rm9 d dc cs ss c2 s2) (kk : sp (.ref a :: []) M sz (Kc X pc n lv rest c2 s2)) : G X pc lv (.ref a :: rest) M sz cs ss := g_cVN (As := []) hX hC h hm rfl rfl hW hrm kk
theorem g_cI0 (hX : Cok X d) (hC : Ctr X.1.2.1 X.2.2.2.2.2 dc sp) (h : AtNI d pc dc 0 n) (hW : (rest.map fun v => v.category).sum ≤ 8) {c2 s2 : Nat} (hrm : Rm9 d dc cs ss c2 s2) (kk : sp (.ref a :: []) M sz (Kc X pc n lv rest c2 s2)) : G X pc lv (.ref a :: rest) M sz cs ss := g_cI (As := []) hX hC h rfl rfl hW hrm kk
theorem g_cIN0 (hX : Cok X d) (hC : Ctr X.1.2.1 X.2.2.2.2.2 dc sp) (h : AtNIN d pc dc 0 n) (hW : (rest.map fun v => v.category).sum ≤ 8) {c2 s2 : Nat} (hrm : Rm9 d dc cs ss c2 s2) (kk : sp (.ref a :: []) M sz (Kc X pc n lv rest c2 s2)) : G X pc lv (.ref a :: rest) M sz cs ss := g_cIN (As := []) hX hC h rfl rfl hW hrm kk
theorem g_cS1 {a1 : Value} (hX : Cok X d) (hC : Ctr X.1.2.1 X.2.2.2.2.2 dc sp) (h : AtS d pc dc 1 n) (hW : (rest.map fun v => v.category).sum ≤ 8) {c2 s2 : Nat} (hrm : Rm9 d dc cs ss c2 s2) (kk : sp [a1] M sz (Kc X pc n lv rest c2 s2)) : G X pc lv (a1 :: rest) M sz cs ss := g_cS (As := [a1]) hX hC h rfl rfl hW hrm kk
theorem g_cSX1 {a1 : Value} (hX : Cok X d) (hC : Ctr X.1.2.1 X.2.2.2.2.2 dc sp) (h : AtSX d pc dc 1 n) (hW : (rest.map fun v => v.category).sum ≤ 8) {c2 s2 : Nat} (hrm : Rm9 d dc cs ss c2 s2) (kk : sp [a1] M sz (Kc X pc n lv rest c2 s2)) : G X pc lv (a1 :: rest) M sz cs ss := g_cSX (As := [a1]) hX hC h rfl rfl hW hrm kk
theorem g_cSN1 {a1 : Value} (hX : Cok X d) (hC : Ctr X.1.2.1 X.2.2.2.2.2 dc sp) (h : AtSN d pc dc 1 n) (hW : (rest.map fun v => v.category).sum ≤ 8) {c2 s2 : Nat} (hrm : Rm9 d dc cs ss c2 s2) (kk : sp [a1] M sz (Kc X pc n lv rest c2 s2)) : G X pc lv (a1 :: rest) M sz cs ss := g_cSN (As := [a1]) hX hC h rfl rfl hW hrm kk
theorem g_cV1 {a1 : Value} {ci : Nat} {fs : List Value} (hX : Cok X d) (hC : Ctr X.1.2.1 X.2.2.2.2.2 dc sp) (h : AtV d pc dc 1 ci n) (hm : M a = some (.inl (ci, fs))) (hW : (rest.map fun v => v.category).sum ≤ 8) {c2 s2 : Nat} (hrm : Rm9 d dc cs ss c2 s2) (kk : sp (.ref a :: [a1]) M sz (Kc X pc n lv rest c2 s2)) : G X pc lv (a1 :: .ref a :: rest) M sz cs ss := g_cV (As := [a1]) hX hC h hm rfl rfl hW hrm kk
theorem g_cVN1 {a1 : Value} {ci : Nat} {fs : List Value} (hX : Cok X d) (hC : Ctr X.1.2.1 X.2.2.2.2.2 dc sp) (h : AtVN d pc dc 1 ci n) (hm : M a = some (.inl (ci, fs))) (hW : (rest.map fun v => v.category).sum ≤ 8) {c2 s2 : Nat} (hrm : Rm9 d dc cs ss c2 s2) (kk : sp (.ref a :: [a1]) M sz (Kc X pc n lv rest c2 s2)) : G X pc lv (a1 :: .ref a :: rest) M sz cs ss := g_cVN (As := [a1]) hX hC h hm rfl rfl hW hrm kk
theorem g_cI1 {a1 : Value} (hX : Cok X d) (hC : Ctr X.1.2.1 X.2.2.2.2.2 dc sp) (h : AtNI d pc dc 1 n) (hW : (rest.map fun v => v.category).sum ≤ 8) {c2 s2 : Nat} (hrm : Rm9 d dc cs ss c2 s2) (kk : sp (.ref a :: [a1]) M sz (Kc X pc n lv rest c2 s2)) : G X pc lv (a1 :: .ref a :: rest) M sz cs ss := g_cI (As := [a1]) hX hC h rfl rfl hW hrm kk
theorem g_cIN1 {a1 : Value} (hX : Cok X d) (hC : Ctr X.1.2.1 X.2.2.2.2.2 dc sp) (h : AtNIN d pc dc 1 n) (hW : (rest.map fun v => v.category).sum ≤ 8) {c2 s2 : Nat} (hrm : Rm9 d dc cs ss c2 s2) (kk : sp (.ref a :: [a1]) M sz (Kc X pc n lv rest c2 s2)) : G X pc lv (a1 :: .ref a :: rest) M sz cs ss := g_cIN (As := [a1]) hX hC h rfl rfl hW hrm kk
theorem g_cS2 {a1 a2 : Value} (hX : Cok X d) (hC : Ctr X.1.2.1 X.2.2.2.2.2 dc sp) (h : AtS d pc dc 2 n) (hW : (rest.map fun v => v.category).sum ≤ 8) {c2 s2 : Nat} (hrm : Rm9 d dc cs ss c2 s2) (kk : sp [a1, a2] M sz (Kc X pc n lv rest c2 s2)) : G X pc lv (a2 :: a1 :: rest) M sz cs ss := g_cS (As := [a1, a2]) hX hC h rfl rfl hW hrm kk
theorem g_cSX2 {a1 a2 : Value} (hX : Cok X d) (hC : Ctr X.1.2.1 X.2.2.2.2.2 dc sp) (h : AtSX d pc dc 2 n) (hW : (rest.map fun v => v.category).sum ≤ 8) {c2 s2 : Nat} (hrm : Rm9 d dc cs ss c2 s2) (kk : sp [a1, a2] M sz (Kc X pc n lv rest c2 s2)) : G X pc lv (a2 :: a1 :: rest) M sz cs ss := g_cSX (As := [a1, a2]) hX hC h rfl rfl hW hrm kk
theorem g_cSN2 {a1 a2 : Value} (hX : Cok X d) (hC : Ctr X.1.2.1 X.2.2.2.2.2 dc sp) (h : AtSN d pc dc 2 n) (hW : (rest.map fun v => v.category).sum ≤ 8) {c2 s2 : Nat} (hrm : Rm9 d dc cs ss c2 s2) (kk : sp [a1, a2] M sz (Kc X pc n lv rest c2 s2)) : G X pc lv (a2 :: a1 :: rest) M sz cs ss := g_cSN (As := [a1, a2]) hX hC h rfl rfl hW hrm kk
theorem g_cV2 {a1 a2 : Value} {ci : Nat} {fs : List Value} (hX : Cok X d) (hC : Ctr X.1.2.1 X.2.2.2.2.2 dc sp) (h : AtV d pc dc 2 ci n) (hm : M a = some (.inl (ci, fs))) (hW : (rest.map fun v => v.category).sum ≤ 8) {c2 s2 : Nat} (hrm : Rm9 d dc cs ss c2 s2) (kk : sp (.ref a :: [a1, a2]) M sz (Kc X pc n lv rest c2 s2)) : G X pc lv (a2 :: a1 :: .ref a :: rest) M sz cs ss := g_cV (As := [a1, a2]) hX hC h hm rfl rfl hW hrm kk
theorem g_cVN2 {a1 a2 : Value} {ci : Nat} {fs : List Value} (hX : Cok X d) (hC : Ctr X.1.2.1 X.2.2.2.2.2 dc sp) (h : AtVN d pc dc 2 ci n) (hm : M a = some (.inl (ci, fs))) (hW : (rest.map fun v => v.category).sum ≤ 8) {c2 s2 : Nat} (hrm : Rm9 d dc cs ss c2 s2) (kk : sp (.ref a :: [a1, a2]) M sz (Kc X pc n lv rest c2 s2)) : G X pc lv (a2 :: a1 :: .ref a :: rest) M sz cs ss := g_cVN (As := [a1, a2]) hX hC h hm rfl rfl hW hrm kk
theorem g_cI2 {a1 a2 : Value} (hX : Cok X d) (hC : Ctr X.1.2.1 X.2.2.2.2.2 dc sp) (h : AtNI d pc dc 2 n) (hW : (rest.map fun v => v.category).sum ≤ 8) {c2 s2 : Nat} (hrm : Rm9 d dc cs ss c2 s2) (kk : sp (.ref a :: [a1, a2]) M sz (Kc X pc n lv rest c2 s2)) : G X pc lv (a2 :: a1 :: .ref a :: rest) M sz cs ss := g_cI (As := [a1, a2]) hX hC h rfl rfl hW hrm kk
theorem g_cIN2 {a1 a2 : Value} (hX : Cok X d) (hC : Ctr X.1.2.1 X.2.2.2.2.2 dc sp) (h : AtNIN d pc dc 2 n) (hW : (rest.map fun v => v.category).sum ≤ 8) {c2 s2 : Nat} (hrm : Rm9 d dc cs ss c2 s2) (kk : sp (.ref a :: [a1, a2]) M sz (Kc X pc n lv rest c2 s2)) : G X pc lv (a2 :: a1 :: .ref a :: rest) M sz cs ss := g_cIN (As := [a1, a2]) hX hC h rfl rfl hW hrm kk
theorem g_cS3 {a1 a2 a3 : Value} (hX : Cok X d) (hC : Ctr X.1.2.1 X.2.2.2.2.2 dc sp) (h : AtS d pc dc 3 n) (hW : (rest.map fun v => v.category).sum ≤ 8) {c2 s2 : Nat} (hrm : Rm9 d dc cs ss c2 s2) (kk : sp [a1, a2, a3] M sz (Kc X pc n lv rest c2 s2)) : G X pc lv (a3 :: a2 :: a1 :: rest) M sz cs ss := g_cS (As := [a1, a2, a3]) hX hC h rfl rfl hW hrm kk
theorem g_cSX3 {a1 a2 a3 : Value} (hX : Cok X d) (hC : Ctr X.1.2.1 X.2.2.2.2.2 dc sp) (h : AtSX d pc dc 3 n) (hW : (rest.map fun v => v.category).sum ≤ 8) {c2 s2 : Nat} (hrm : Rm9 d dc cs ss c2 s2) (kk : sp [a1, a2, a3] M sz (Kc X pc n lv rest c2 s2)) : G X pc lv (a3 :: a2 :: a1 :: rest) M sz cs ss := g_cSX (As := [a1, a2, a3]) hX hC h rfl rfl hW hrm kk
theorem g_cSN3 {a1 a2 a3 : Value} (hX : Cok X d) (hC : Ctr X.1.2.1 X.2.2.2.2.2 dc sp) (h : AtSN d pc dc 3 n) (hW : (rest.map fun v => v.category).sum ≤ 8) {c2 s2 : Nat} (hrm : Rm9 d dc cs ss c2 s2) (kk : sp [a1, a2, a3] M sz (Kc X pc n lv rest c2 s2)) : G X pc lv (a3 :: a2 :: a1 :: rest) M sz cs ss := g_cSN (As := [a1, a2, a3]) hX hC h rfl rfl hW hrm kk
theorem g_cV3 {a1 a2 a3 : Value} {ci : Nat} {fs : List Value} (hX : Cok X d) (hC : Ctr X.1.2.1 X.2.2.2.2.2 dc sp) (h : AtV d pc dc 3 ci n) (hm : M a = some (.inl (ci, fs))) (hW : (rest.map fun v => v.category).sum ≤ 8) {c2 s2 : Nat} (hrm : Rm9 d dc cs ss c2 s2) (kk : sp (.ref a :: [a1, a2, a3]) M sz (Kc X pc n lv rest c2 s2)) : G X pc lv (a3 :: a2 :: a1 :: .ref a :: rest) M sz cs ss := g_cV (As := [a1, a2, a3]) hX hC h hm rfl rfl hW hrm kk
theorem g_cVN3 {a1 a2 a3 : Value} {ci : Nat} {fs : List Value} (hX : Cok X d) (hC : Ctr X.1.2.1 X.2.2.2.2.2 dc sp) (h : AtVN d pc dc 3 ci n) (hm : M a = some (.inl (ci, fs))) (hW : (rest.map fun v => v.category).sum ≤ 8) {c2 s2 : Nat} (hrm : Rm9 d dc cs ss c2 s2) (kk : sp (.ref a :: [a1, a2, a3]) M sz (Kc X pc n lv rest c2 s2)) : G X pc lv (a3 :: a2 :: a1 :: .ref a :: rest) M sz cs ss := g_cVN (As := [a1, a2, a3]) hX hC h hm rfl rfl hW hrm kk
theorem g_cI3 {a1 a2 a3 : Value} (hX : Cok X d) (hC : Ctr X.1.2.1 X.2.2.2.2.2 dc sp) (h : AtNI d pc dc 3 n) (hW : (rest.map fun v => v.category).sum ≤ 8) {c2 s2 : Nat} (hrm : Rm9 d dc cs ss c2 s2) (kk : sp (.ref a :: [a1, a2, a3]) M sz (Kc X pc n lv rest c2 s2)) : G X pc lv (a3 :: a2 :: a1 :: .ref a :: rest) M sz cs ss := g_cI (As := [a1, a2, a3]) hX hC h rfl rfl hW hrm kk
theorem g_cIN3 {a1 a2 a3 : Value} (hX : Cok X d) (hC : Ctr X.1.2.1 X.2.2.2.2.2 dc sp) (h : AtNIN d pc dc 3 n) (hW : (rest.map fun v => v.category).sum ≤ 8) {c2 s2 : Nat} (hrm : Rm9 d dc cs ss c2 s2) (kk : sp (.ref a :: [a1, a2, a3]) M sz (Kc X pc n lv rest c2 s2)) : G X pc lv (a3 :: a2 :: a1 :: .ref a :: rest) M sz cs ss := g_cIN (As := [a1, a2, a3]) hX hC h rfl rfl hW hrm kk
theorem g_cS4 {a1 a2 a3 a4 : Value} (hX : Cok X d) (hC : Ctr X.1.2.1 X.2.2.2.2.2 dc sp) (h : AtS d pc dc 4 n) (hW : (rest.map fun v => v.category).sum ≤ 8) {c2 s2 : Nat} (hrm : Rm9 d dc cs ss c2 s2) (kk : sp [a1, a2, a3, a4] M sz (Kc X pc n lv rest c2 s2)) : G X pc lv (a4 :: a3 :: a2 :: a1 :: rest) M sz cs ss := g_cS (As := [a1, a2, a3, a4]) hX hC h rfl rfl hW hrm kk
theorem g_cSX4 {a1 a2 a3 a4 : Value} (hX : Cok X d) (hC : Ctr X.1.2.1 X.2.2.2.2.2 dc sp) (h : AtSX d pc dc 4 n) (hW : (rest.map fun v => v.category).sum ≤ 8) {c2 s2 : Nat} (hrm : Rm9 d dc cs ss c2 s2) (kk : sp [a1, a2, a3, a4] M sz (Kc X pc n lv rest c2 s2)) : G X pc lv (a4 :: a3 :: a2 :: a1 :: rest) M sz cs ss := g_cSX (As := [a1, a2, a3, a4]) hX hC h rfl rfl hW hrm kk
theorem g_cSN4 {a1 a2 a3 a4 : Value} (hX : Cok X d) (hC : Ctr X.1.2.1 X.2.2.2.2.2 dc sp) (h : AtSN d pc dc 4 n) (hW : (rest.map fun v => v.category).sum ≤ 8) {c2 s2 : Nat} (hrm : Rm9 d dc cs ss c2 s2) (kk : sp [a1, a2, a3, a4] M sz (Kc X pc n lv rest c2 s2)) : G X pc lv (a4 :: a3 :: a2 :: a1 :: rest) M sz cs ss := g_cSN (As := [a1, a2, a3, a4]) hX hC h rfl rfl hW hrm kk
theorem g_cV4 {a1 a2 a3 a4 : Value} {ci : Nat} {fs : List Value} (hX : Cok X d) (hC : Ctr X.1.2.1 X.2.2.2.2.2 dc sp) (h : AtV d pc dc 4 ci n) (hm : M a = some (.inl (ci, fs))) (hW : (rest.map fun v => v.category).sum ≤ 8) {c2 s2 : Nat} (hrm : Rm9 d dc cs ss c2 s2) (kk : sp (.ref a :: [a1, a2, a3, a4]) M sz (Kc X pc n lv rest c2 s2)) : G X pc lv (a4 :: a3 :: a2 :: a1 :: .ref a :: rest) M sz cs ss := g_cV (As := [a1, a2, a3, a4]) hX hC h hm rfl rfl hW hrm kk
theorem g_cVN4 {a1 a2 a3 a4 : Value} {ci : Nat} {fs : List Value} (hX : Cok X d) (hC : Ctr X.1.2.1 X.2.2.2.2.2 dc sp) (h : AtVN d pc dc 4 ci n) (hm : M a = some (.inl (ci, fs))) (hW : (rest.map fun v => v.category).sum ≤ 8) {c2 s2 : Nat} (hrm : Rm9 d dc cs ss c2 s2) (kk : sp (.ref a :: [a1, a2, a3, a4]) M sz (Kc X pc n lv rest c2 s2)) : G X pc lv (a4 :: a3 :: a2 :: a1 :: .ref a :: rest) M sz cs ss := g_cVN (As := [a1, a2, a3, a4]) hX hC h hm rfl rfl hW hrm kk
theorem g_cI4 {a1 a2 a3 a4 : Value} (hX : Cok X d) (hC : Ctr X.1.2.1 X.2.2.2.2.2 dc sp) (h : AtNI d pc dc 4 n) (hW : (rest.map fun v => v.category).sum ≤ 8) {c2 s2 : Nat} (hrm : Rm9 d dc cs ss c2 s2) (kk : sp (.ref a :: [a1, a2, a3, a4]) M sz (Kc X pc n lv rest c2 s2)) : G X pc lv (a4 :: a3 :: a2 :: a1 :: .ref a :: rest) M sz cs ss := g_cI (As := [a1, a2, a3, a4]) hX hC h rfl rfl hW hrm kk
theorem g_cIN4 {a1 a2 a3 a4 : Value} (hX : Cok X d) (hC : Ctr X.1.2.1 X.2.2.2.2.2 dc sp) (h : AtNIN d pc dc 4 n) (hW : (rest.map fun v => v.category).sum ≤ 8) {c2 s2 : Nat} (hrm : Rm9 d dc cs ss c2 s2) (kk : sp (.ref a :: [a1, a2, a3, a4]) M sz (Kc X pc n lv rest c2 s2)) : G X pc lv (a4 :: a3 :: a2 :: a1 :: .ref a :: rest) M sz cs ss := g_cIN (As := [a1, a2, a3, a4]) hX hC h rfl rfl hW hrm kk
theorem g_cS5 {a1 a2 a3 a4 a5 : Value} (hX : Cok X d) (hC : Ctr X.1.2.1 X.2.2.2.2.2 dc sp) (h : AtS d pc dc 5 n) (hW : (rest.map fun v => v.category).sum ≤ 8) {c2 s2 : Nat} (hrm : Rm9 d dc cs ss c2 s2) (kk : sp [a1, a2, a3, a4, a5] M sz (Kc X pc n lv rest c2 s2)) : G X pc lv (a5 :: a4 :: a3 :: a2 :: a1 :: rest) M sz cs ss := g_cS (As := [a1, a2, a3, a4, a5]) hX hC h rfl rfl hW hrm kk
theorem g_cSX5 {a1 a2 a3 a4 a5 : Value} (hX : Cok X d) (hC : Ctr X.1.2.1 X.2.2.2.2.2 dc sp) (h : AtSX d pc dc 5 n) (hW : (rest.map fun v => v.category).sum ≤ 8) {c2 s2 : Nat} (hrm : Rm9 d dc cs ss c2 s2) (kk : sp [a1, a2, a3, a4, a5] M sz (Kc X pc n lv rest c2 s2)) : G X pc lv (a5 :: a4 :: a3 :: a2 :: a1 :: rest) M sz cs ss := g_cSX (As := [a1, a2, a3, a4, a5]) hX hC h rfl rfl hW hrm kk
theorem g_cSN5 {a1 a2 a3 a4 a5 : Value} (hX : Cok X d) (hC : Ctr X.1.2.1 X.2.2.2.2.2 dc sp) (h : AtSN d pc dc 5 n) (hW : (rest.map fun v => v.category).sum ≤ 8) {c2 s2 : Nat} (hrm : Rm9 d dc cs ss c2 s2) (kk : sp [a1, a2, a3, a4, a5] M sz (Kc X pc n lv rest c2 s2)) : G X pc lv (a5 :: a4 :: a3 :: a2 :: a1 :: rest) M sz cs ss := g_cSN (As := [a1, a2, a3, a4, a5]) hX hC h rfl rfl hW hrm kk
theorem g_cV5 {a1 a2 a3 a4 a5 : Value} {ci : Nat} {fs : List Value} (hX : Cok X d) (hC : Ctr X.1.2.1 X.2.2.2.2.2 dc sp) (h : AtV d pc dc 5 ci n) (hm : M a = some (.inl (ci, fs))) (hW : (rest.map fun v => v.category).sum ≤ 8) {c2 s2 : Nat} (hrm : Rm9 d dc cs ss c2 s2) (kk : sp (.ref a :: [a1, a2, a3, a4, a5]) M sz (Kc X pc n lv rest c2 s2)) : G X pc lv (a5 :: a4 :: a3 :: a2 :: a1 :: .ref a :: rest) M sz cs ss := g_cV (As := [a1, a2, a3, a4, a5]) hX hC h hm rfl rfl hW hrm kk
theorem g_cVN5 {a1 a2 a3 a4 a5 : Value} {ci : Nat} {fs : List Value} (hX : Cok X d) (hC : Ctr X.1.2.1 X.2.2.2.2.2 dc sp) (h : AtVN d pc dc 5 ci n) (hm : M a = some (.inl (ci, fs))) (hW : (rest.map fun v => v.category).sum ≤ 8) {c2 s2 : Nat} (hrm : Rm9 d dc cs ss c2 s2) (kk : sp (.ref a :: [a1, a2, a3, a4, a5]) M sz (Kc X pc n lv rest c2 s2)) : G X pc lv (a5 :: a4 :: a3 :: a2 :: a1 :: .ref a :: rest) M sz cs ss := g_cVN (As := [a1, a2, a3, a4, a5]) hX hC h hm rfl rfl hW hrm kk
theorem g_cI5 {a1 a2 a3 a4 a5 : Value} (hX : Cok X d) (hC : Ctr X.1.2.1 X.2.2.2.2.2 dc sp) (h : AtNI d pc dc 5 n) (hW : (rest.map fun v => v.category).sum ≤ 8) {c2 s2 : Nat} (hrm : Rm9 d dc cs ss c2 s2) (kk : sp (.ref a :: [a1, a2, a3, a4, a5]) M sz (Kc X pc n lv rest c2 s2)) : G X pc lv (a5 :: a4 :: a3 :: a2 :: a1 :: .ref a :: rest) M sz cs ss := g_cI (As := [a1, a2, a3, a4, a5]) hX hC h rfl rfl hW hrm kk
theorem g_cIN5 {a1 a2 a3 a4 a5 : Value} (hX : Cok X d) (hC : Ctr X.1.2.1 X.2.2.2.2.2 dc sp) (h : AtNIN d pc dc 5 n) (hW : (rest.map fun v => v.category).sum ≤ 8) {c2 s2 : Nat} (hrm : Rm9 d dc cs ss c2 s2) (kk : sp (.ref a :: [a1, a2, a3, a4, a5]) M sz (Kc X pc n lv rest c2 s2)) : G X pc lv (a5 :: a4 :: a3 :: a2 :: a1 :: .ref a :: rest) M sz cs ss := g_cIN (As := [a1, a2, a3, a4, a5]) hX hC h rfl rfl hW hrm kk
theorem g_cS6 {a1 a2 a3 a4 a5 a6 : Value} (hX : Cok X d) (hC : Ctr X.1.2.1 X.2.2.2.2.2 dc sp) (h : AtS d pc dc 6 n) (hW : (rest.map fun v => v.category).sum ≤ 8) {c2 s2 : Nat} (hrm : Rm9 d dc cs ss c2 s2) (kk : sp [a1, a2, a3, a4, a5, a6] M sz (Kc X pc n lv rest c2 s2)) : G X pc lv (a6 :: a5 :: a4 :: a3 :: a2 :: a1 :: rest) M sz cs ss := g_cS (As := [a1, a2, a3, a4, a5, a6]) hX hC h rfl rfl hW hrm kk
theorem g_cSX6 {a1 a2 a3 a4 a5 a6 : Value} (hX : Cok X d) (hC : Ctr X.1.2.1 X.2.2.2.2.2 dc sp) (h : AtSX d pc dc 6 n) (hW : (rest.map fun v => v.category).sum ≤ 8) {c2 s2 : Nat} (hrm : Rm9 d dc cs ss c2 s2) (kk : sp [a1, a2, a3, a4, a5, a6] M sz (Kc X pc n lv rest c2 s2)) : G X pc lv (a6 :: a5 :: a4 :: a3 :: a2 :: a1 :: rest) M sz cs ss := g_cSX (As := [a1, a2, a3, a4, a5, a6]) hX hC h rfl rfl hW hrm kk
theorem g_cSN6 {a1 a2 a3 a4 a5 a6 : Value} (hX : Cok X d) (hC : Ctr X.1.2.1 X.2.2.2.2.2 dc sp) (h : AtSN d pc dc 6 n) (hW : (rest.map fun v => v.category).sum ≤ 8) {c2 s2 : Nat} (hrm : Rm9 d dc cs ss c2 s2) (kk : sp [a1, a2, a3, a4, a5, a6] M sz (Kc X pc n lv rest c2 s2)) : G X pc lv (a6 :: a5 :: a4 :: a3 :: a2 :: a1 :: rest) M sz cs ss := g_cSN (As := [a1, a2, a3, a4, a5, a6]) hX hC h rfl rfl hW hrm kk
theorem g_cV6 {a1 a2 a3 a4 a5 a6 : Value} {ci : Nat} {fs : List Value} (hX : Cok X d) (hC : Ctr X.1.2.1 X.2.2.2.2.2 dc sp) (h : AtV d pc dc 6 ci n) (hm : M a = some (.inl (ci, fs))) (hW : (rest.map fun v => v.category).sum ≤ 8) {c2 s2 : Nat} (hrm : Rm9 d dc cs ss c2 s2) (kk : sp (.ref a :: [a1, a2, a3, a4, a5, a6]) M sz (Kc X pc n lv rest c2 s2)) : G X pc lv (a6 :: a5 :: a4 :: a3 :: a2 :: a1 :: .ref a :: rest) M sz cs ss := g_cV (As := [a1, a2, a3, a4, a5, a6]) hX hC h hm rfl rfl hW hrm kk
theorem g_cVN6 {a1 a2 a3 a4 a5 a6 : Value} {ci : Nat} {fs : List Value} (hX : Cok X d) (hC : Ctr X.1.2.1 X.2.2.2.2.2 dc sp) (h : AtVN d pc dc 6 ci n) (hm : M a = some (.inl (ci, fs))) (hW : (rest.map fun v => v.category).sum ≤ 8) {c2 s2 : Nat} (hrm : Rm9 d dc cs ss c2 s2) (kk : sp (.ref a :: [a1, a2, a3, a4, a5, a6]) M sz (Kc X pc n lv rest c2 s2)) : G X pc lv (a6 :: a5 :: a4 :: a3 :: a2 :: a1 :: .ref a :: rest) M sz cs ss := g_cVN (As := [a1, a2, a3, a4, a5, a6]) hX hC h hm rfl rfl hW hrm kk
theorem g_cI6 {a1 a2 a3 a4 a5 a6 : Value} (hX : Cok X d) (hC : Ctr X.1.2.1 X.2.2.2.2.2 dc sp) (h : AtNI d pc dc 6 n) (hW : (rest.map fun v => v.category).sum ≤ 8) {c2 s2 : Nat} (hrm : Rm9 d dc cs ss c2 s2) (kk : sp (.ref a :: [a1, a2, a3, a4, a5, a6]) M sz (Kc X pc n lv rest c2 s2)) : G X pc lv (a6 :: a5 :: a4 :: a3 :: a2 :: a1 :: .ref a :: rest) M sz cs ss := g_cI (As := [a1, a2, a3, a4, a5, a6]) hX hC h rfl rfl hW hrm kk
theorem g_cIN6 {a1 a2 a3 a4 a5 a6 : Value} (hX : Cok X d) (hC : Ctr X.1.2.1 X.2.2.2.2.2 dc sp) (h : AtNIN d pc dc 6 n) (hW : (rest.map fun v => v.category).sum ≤ 8) {c2 s2 : Nat} (hrm : Rm9 d dc cs ss c2 s2) (kk : sp (.ref a :: [a1, a2, a3, a4, a5, a6]) M sz (Kc X pc n lv rest c2 s2)) : G X pc lv (a6 :: a5 :: a4 :: a3 :: a2 :: a1 :: .ref a :: rest) M sz cs ss := g_cIN (As := [a1, a2, a3, a4, a5, a6]) hX hC h rfl rfl hW hrm kk
theorem Kc_i {v : Value} {c2 s2 : Nat} (k : G X n lv (v :: rest) M sz c2 s2) : Kc X pc n lv rest c2 s2 (.inl (some v)) M sz := k
theorem Kc_v {c2 s2 : Nat} (k : G X n lv rest M sz c2 s2) : Kc X pc n lv rest c2 s2 (.inl none) M sz := k
theorem Kc_x {E : String} {c2 s2 : Nat} (k : GX X pc lv rest M sz c2 s2 E) : Kc X pc n lv rest c2 s2 (.inr E) M sz := k
theorem cat_ok {as : List Value} (h : as.all (fun v => v.category == 1) = true) : ∀ v ∈ as, v.category = 1 := fun v hv => by simpa using List.all_eq_true.mp h v hv
theorem cat_rf (r : Option Nat) : (va_rf r).category = 1 := by cases r <;> rfl
def AtO (d : hD) (pc n : Nat) : Prop := ∃ index i j k : Nat, decode d.2.1 pc = .ok (.invokespecial index, 3) ∧ pc + 3 = n ∧ lw_tbl[i]? = some (Cond.methodLink d.1.cls index objectInit) ∧ lw_tbl[j]? = some (Cond.instanceMethod objectInit) ∧ lw_tbl[k]? = some (Cond.code objectInit ⟨#[0xb1]⟩ 1 none) ∧ 1 ≤ d.2.2.2.2.1.frames ∧ 12 ≤ d.2.2.2.2.1.locals
theorem g_obj (hX : Cok X d) (h : AtO d pc n) (kk : G X n lv [] M sz cs ss) : G X pc lv [.ref a] M sz cs ss := by
  obtain ⟨⟨p, l, e, R, s, m, args, below⟩, meth, c, A, Q, g⟩ := X
  obtain ⟨hx, hb, hml, hown, hts, hKS, hAz, hAn, hst9, hlk, hrt, hnm, hR, hex⟩ := hX
  intro H locs ls hz hM hA hS hl
  obtain ⟨index, i1, i2, i3, h1, rfl, e1, e2, e3, hf, hlo⟩ := h
  have hR' : R = d.2.2.2.2.1 := hR
  exact W.objInit hx hb hown (hts.at i1 e1 rfl) (hts.at i2 e2 rfl) (hts.at i3 e3 rfl) rfl hl.1 rfl h1 (by rw [hR']; exact hf) (by rw [hR']; exact hlo) (kk H locs ls hz hM hA hS hl)
/-! ends -/
theorem g_iret {x : Int32} {ty : FieldType} {M0 : hM} {sz0 : Nat} {K : hK} (hX : Cok X d) (hr9 : Ret X d M0 sz0 K) (h : At d pc .ireturn 1 n) (hty : d.2.2.2.1 = some ty) (hn : narrow ty (.int x) = .int x) (hc : cs ≤ d.2.2.2.2.1.cells) (hs : ss ≤ d.2.2.2.2.1.slots) (kk : K (.inl (some (.int x))) M sz) : G X pc lv [.int x] M sz cs ss := by
  obtain ⟨⟨p, l, e, R, s, m, args, below⟩, meth, c, A, Q, g⟩ := X
  obtain ⟨hx, hb, hml, hown, hts, hKS, hAz, hAn, hst9, hlk, hrt, hnm, hR, hex⟩ := hX
  intro H locs ls hz hM hA hS hl
  obtain ⟨hA9, hQ9⟩ := hr9
  dsimp only at hA9 hQ9 hrt hKS hlk
  subst hA9
  subst hQ9
  refine W.widen hc hs (vx_ret ?_)
  exact W.zret hx hb (hrt.trans hty) hn (fun t ht hW => ⟨⟨_, M, rfl, by rw [ht, hz]; exact kk, by rw [ht]; exact hM, hA⟩, hS.F ht⟩) hS.2.2 h.1 hlk
theorem g_aret {v : Value} {ty : FieldType} {M0 : hM} {sz0 : Nat} {K : hK} (hX : Cok X d) (hr9 : Ret X d M0 sz0 K) (h : At d pc .areturn 1 n) (hty : d.2.2.2.1 = some ty) (hrt9 : (∃ n, ty = .object n) ∨ ∃ t, ty = .array t) (hv : isRefV v = true) (hc : cs ≤ d.2.2.2.2.1.cells) (hs : ss ≤ d.2.2.2.2.1.slots) (kk : K (.inl (some v)) M sz) : G X pc lv [v] M sz cs ss := by
  obtain ⟨⟨p, l, e, R, s, m, args, below⟩, meth, c, A, Q, g⟩ := X
  obtain ⟨hx, hb, hml, hown, hts, hKS, hAz, hAn, hst9, hlk, hrt, hnm, hR, hex⟩ := hX
  intro H locs ls hz hM hA hS hl
  obtain ⟨hA9, hQ9⟩ := hr9
  dsimp only at hA9 hQ9 hrt hKS hlk
  subst hA9
  subst hQ9
  refine W.widen hc hs (vx_ret ?_)
  have hv2 : v = .null ∨ ∃ a, v = .ref a := by
    cases v <;> first | (simp [isRefV] at hv; done) | exact Or.inl rfl | exact Or.inr ⟨_, rfl⟩
  exact W.aret hx hb (hrt.trans hty) hrt9 hv2 (fun t ht hW => ⟨⟨_, M, rfl, by rw [ht, hz]; exact kk, by rw [ht]; exact hM, hA⟩, hS.F ht⟩) hS.2.2 h.1 hlk
theorem g_vret {M0 : hM} {sz0 : Nat} {K : hK} (hX : Cok X d) (hr9 : Ret X d M0 sz0 K) (h : At d pc .return_ 1 n) (hty : d.2.2.2.1 = none) (hc : cs ≤ d.2.2.2.2.1.cells) (hs : ss ≤ d.2.2.2.2.1.slots) (kk : K (.inl none) M sz) : G X pc lv [] M sz cs ss := by
  obtain ⟨⟨p, l, e, R, s, m, args, below⟩, meth, c, A, Q, g⟩ := X
  obtain ⟨hx, hb, hml, hown, hts, hKS, hAz, hAn, hst9, hlk, hrt, hnm, hR, hex⟩ := hX
  intro H locs ls hz hM hA hS hl
  obtain ⟨hA9, hQ9⟩ := hr9
  dsimp only at hA9 hQ9 hrt hKS hlk
  subst hA9
  subst hQ9
  refine W.widen hc hs (vx_ret ?_)
  exact W.vret hx hb (hrt.trans hty) (fun t ht hW => ⟨⟨_, M, rfl, by rw [ht, hz]; exact kk, by rw [ht]; exact hM, hA⟩, hS.F ht⟩) hS.2.2 h.1 hlk
theorem gx_out {E : String} {M0 : hM} {sz0 : Nat} {K : hK} (hX : Cok X d) (hr9 : Ret X d M0 sz0 K) (hh : d.2.2.2.2.2 = []) (hc : cs ≤ d.2.2.2.2.1.cells) (hs : ss ≤ d.2.2.2.2.1.slots) (kk : K (.inr E) M sz) : GX X pc lv rest M sz cs ss E := by
  obtain ⟨⟨p, l, e, R, s, m, args, below⟩, meth, c, A, Q, g⟩ := X
  obtain ⟨hx, hb, hml, hown, hts, hKS, hAz, hAn, hst9, hlk, hrt, hnm, hR, hex⟩ := hX
  intro H locs ls q9 ce hz hM hA hS hl hce hcv hcl
  obtain ⟨hA9, hQ9⟩ := hr9
  dsimp only at hA9 hQ9 hrt hKS hlk hex
  subst hA9
  subst hQ9
  refine vx_out (fun x h9 => ?_) hlk hce hcv hcl (fun t ht hW => ⟨⟨M, by rw [ht, hz]; exact kk, by rw [ht]; exact hM, hA⟩, hS.F ht⟩) hS.2.2 hc hs
  rw [hex, hh] at h9
  cases h9
/-- caught by the k-th row of the table; the rows ahead name other classes -/
theorem gx_catch {E : String} (hX : Cok X d) (pre : List (Nat × Nat × Nat × Nat)) (x : Nat × Nat × Nat × Nat) (suf : List (Nat × Nat × Nat × Nat)) (hh : d.2.2.2.2.2 = pre ++ x :: suf) (hpre : ∀ z ∈ pre, z.2.2.2 ≠ 0 ∧ ∃ (i : Nat) (nm : String), lw_tbl[i]? = some (Cond.classLink d.1.cls z.2.2.2 nm) ∧ (E, nm) ∈ nc9) (hx9 : covers ⟨x.1, x.2.1, x.2.2.1, x.2.2.2⟩ pc = true) (h0 : x.2.2.2 ≠ 0) (hl9 : ∃ i j : Nat, lw_tbl[i]? = some (Cond.classLink d.1.cls x.2.2.2 E) ∧ lw_tbl[j]? = some (Cond.castable E E)) (kk : ∀ q : Nat, G X x.2.2.1 lv [.ref q] M sz cs ss) : GX X pc lv rest M sz cs ss E := by
  obtain ⟨⟨p, l, e, R, s, m, args, below⟩, meth, c, A, Q, g⟩ := X
  obtain ⟨hx, hb, hml, hown, hts, hKS, hAz, hAn, hst9, hlk, hrt, hnm, hR, hex⟩ := hX
  intro H locs ls q9 ce hz hM hA hS hl hce hcv hcl
  obtain ⟨i, j, e1, e2⟩ := hl9
  obtain ⟨-, -, -, -, -, -, -, -, hnc, -⟩ := hKS
  refine vx_catch hown (tableOf pre) ⟨x.1, x.2.1, x.2.2.1, x.2.2.2⟩ (tableOf suf) ?_ (fun z hz9 => ?_) hx9 h0 (hts.at i e1 rfl) (hts.at j e2 rfl) hce hcv hcl (kk q9 H locs ls hz hM hA hS hl)
  · rw [show c.exceptionTable.toList = tableOf d.2.2.2.2.2 from hex, hh]
    unfold tableOf
    rw [List.map_append]
    rfl
  · obtain ⟨z0, hz0, rfl⟩ := List.mem_map.mp hz9
    obtain ⟨h1, k, nm, h2, h3⟩ := hpre z0 hz0
    exact Or.inr ⟨h1, nm, hts.at k h2 rfl, hnc (E, nm) h3⟩
def AtT (d : hD) (pc : Nat) (E : String) : Prop := ∃ (ik ic is_ i1 i2 : Nat) (text : String) (names : List String) (wide : Bool),
  decode d.2.1 pc = .ok (.new ik, 3) ∧ decode d.2.1 (pc + 3) = .ok (.dup, 1) ∧ (if wide = true then decode d.2.1 (pc + 4) = .ok (.ldc_w is_, 3) ∧ decode d.2.1 (pc + 7) = .ok (.invokespecial ic, 3) ∧ decode d.2.1 (pc + 10) = .ok (.athrow, 1) else decode d.2.1 (pc + 4) = .ok (.ldc is_, 2) ∧ decode d.2.1 (pc + 6) = .ok (.invokespecial ic, 3) ∧ decode d.2.1 (pc + 9) = .ok (.athrow, 1)) ∧
  Bundle.fit E = true ∧ (∀ nm ∈ names, Bundle.fit nm = true) ∧ lw_tbl[i1]? = some (Cond.classLink d.1.cls ik E) ∧ lw_tbl[i2]? = some (Cond.initialized E) ∧ (d.1.cls, is_, text) ∈ strs9 ∧ (∀ w ∈ vx_atS d.1.cls ic E names, w ∈ lw_tbl ∧ tw w = true) ∧ (∀ w ∈ Cond.classLink d.1.cls ik E :: Cond.initialized E :: vx_atS d.1.cls ic E names, vx_ot w = true) ∧
  names.length + 3 < d.2.2.2.2.1.frames ∧ 13 * (names.length + 1) + 43 ≤ d.2.2.2.2.1.locals ∧ d.2.2.2.2.2 = []
theorem g_throw {E : String} {M0 : hM} {sz0 : Nat} {K : hK} (hX : Cok X d) (hr9 : Ret X d M0 sz0 K) (h : AtT d pc E) (hc : cs + 1 ≤ d.2.2.2.2.1.cells) (hs : ss + 6 ≤ d.2.2.2.2.1.slots) (kk : ∀ sz', sz ≤ sz' → K (.inr E) M sz') : G X pc lv [] M sz cs ss := by
  obtain ⟨⟨p, l, e, R, s, m, args, below⟩, meth, c, A, Q, g⟩ := X
  obtain ⟨hx, hb, hml, hown, hts, hKS, hAz, hAn, hst9, hlk, hrt, hnm, hR, hex⟩ := hX
  intro H locs ls hz hM hA hS hl
  obtain ⟨hA9, hQ9⟩ := hr9
  dsimp only at hA9 hQ9 hrt hlk hex hR hst9
  subst hA9
  subst hQ9
  subst hR
  obtain ⟨ik, ic, is_, i1, i2, text, names, wide, d0, d3, dd, hf1, hf2, e1, e2, hstr, hat, hgood, hfr, hlo, hh⟩ := h
  obtain ⟨-, -, -, -, -, ⟨hU, hN⟩, hss, -⟩ := hKS
  obtain ⟨sa, hsa⟩ := hss _ hstr
  have hout : ∀ (x : ExceptionTableEntry) (z : Nat), x ∈ c.exceptionTable.toList → covers x z = false := fun x z h9 => by
    rw [hex, hh] at h9
    cases h9
  have hxx : ∀ t : State, s.vm.Alike t.vm → H.size ≤ t.heap.size → (∀ q : Nat, q < H.size → t.heap[q]? = H[q]?) → XC9 g M0 sz0 K E s t := fun t _ h1 h2 =>
    ⟨⟨M, kk _ (by rw [← hz]; exact h1), hM.kept (fun a x h9 => h2 a (hM.lt h9)), hA⟩, ⟨Nat.le_trans hS.1 h1, fun q h3 h4 => (h2 q (Nat.lt_of_lt_of_le h3 hS.1)).trans (hS.2.1 q h3 h4)⟩⟩
  cases wide with
  | true =>
    rw [if_pos rfl] at dd
    exact vx_throwSW hx hb hst9 hown hf1 hf2 (hts.at i1 e1 rfl) (hts.at i2 e2 rfl) hsa (fun w hw => hts w (hat w hw).1 (hat w hw).2) hgood (hU.narrow hAz) (hN.narrow hAz) hS hl.1 d0 d3 dd.1 dd.2.1 dd.2.2 (fun x h9 => hout x _ h9) hfr (by simpa using hlo) hc hs hlk hxx hS.2.2 hc hs
  | false =>
    rw [if_neg (by decide)] at dd
    exact vx_throwS hx hb hst9 hown hf1 hf2 (hts.at i1 e1 rfl) (hts.at i2 e2 rfl) hsa (fun w hw => hts w (hat w hw).1 (hat w hw).2) hgood (hU.narrow hAz) (hN.narrow hAz) hS hl.1 d0 d3 dd.1 dd.2.1 dd.2.2 (fun x h9 => hout x _ h9) hfr (by simpa using hlo) hc hs hlk hxx hS.2.2 hc hs
end R3
