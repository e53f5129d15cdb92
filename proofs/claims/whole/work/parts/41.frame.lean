/-! two worlds side by side: a call that is told of the one leaves the other as it was -/
def jn (M F : hM) : hM := fun q => match F q with
  | some x => some x
  | none => M q
def dis (F M : hM) : Prop := ∀ (q : Nat) (x : hC), F q = some x → M q = none
theorem jn_f {M F : hM} {q : Nat} {x : hC} (h : F q = some x) : jn M F q = some x := by
  unfold jn
  rw [h]
theorem jn_n {M F : hM} {q : Nat} (h : F q = none) : jn M F q = M q := by
  unfold jn
  rw [h]
theorem jn_m {M F : hM} {q : Nat} {x : hC} (hd : dis F M) (h : M q = some x) : jn M F q = some x := by
  cases hF : F q with
  | none => rw [jn_n hF]; exact h
  | some y => have := hd q y hF; rw [h] at this; cases this
theorem jn_c {M F : hM} {q : Nat} {x : hC} (h : jn M F q = some x) : F q = some x ∨ (F q = none ∧ M q = some x) := by
  cases hF : F q with
  | none => rw [jn_n hF] at h; exact Or.inr ⟨rfl, h⟩
  | some y => rw [jn_f hF] at h; exact Or.inl h
theorem dis.symm {F M : hM} (h : dis F M) : dis M F := by
  intro q x hx
  cases hF : F q with
  | none => rfl
  | some y => have := h q y hF; rw [hx] at this; cases this
theorem jn_comm {M F : hM} (h : dis F M) : ∀ q, jn M F q = jn F M q := by
  intro q
  cases hF : F q with
  | some y => rw [jn_f hF, jn_n (h q y hF), hF]
  | none =>
    rw [jn_n hF]
    cases hM : M q with
    | some x => rw [jn_f hM]
    | none => rw [jn_n hM, hF]
theorem dis.jn {F M N : hM} (h1 : dis F M) (h2 : dis F N) : dis F (jn M N) := by
  intro q x hx
  rw [jn_n (h2 q x hx)]
  exact h1 q x hx
section R6
variable {X : hX} {d dc : hD} {pc n na t i a : Nat} {lv st rest : List Value} {M F : hM} {sz cs ss : Nat} {sp : hS}
theorem run9f {As : List Value} (hX : Cok X d) {H : Heap} {locs : List Loc} {ls : Array Slot} {K : hK} (hz : H.size = sz) (hM : hv X.2.2.2.2.2.1 X.2.2.2.2.2.2.1 (jn M F) H) (hdis : dis F M) (hA : ∀ (q : Nat) (x : hC), jn M F q = some x → X.2.2.2.1 q) (hS : va_S X.2.2.2.1 X.1.2.2.2.2.1.heap H locs) (hl : lh ls X.2.2.1.maxLocals lv) (hK : ∀ r M' sz', K r M' sz' → dis F M' → sz ≤ sz' → Kc X pc (pc + 3) lv rest (cs + dc.2.2.2.2.1.cells) (ss + dc.2.2.2.2.1.slots) r (jn M' F) sz') {aa : Array Value}
    (hr : vx_Run X.1.1 X.1.2.1 X.1.2.2.1 X.1.2.2.2.1 X.1.2.2.2.2.1 X.1.2.2.2.2.2.1 X.1.2.2.2.2.2.2.1 X.1.2.2.2.2.2.2.2 X.2.1 X.2.2.1 H locs cs ss dc.2.2.2.2.1.cells dc.2.2.2.2.1.slots (F0 X.1.2.2.2.2.2.1 pc ls st) rest (Qc9 X.2.2.2.2.2 M sz K aa) (XC9 X.2.2.2.2.2 M sz K) (AA M sz)) :
    W X.1.1 X.1.2.1 X.1.2.2.1 X.1.2.2.2.1 X.1.2.2.2.2.1 X.1.2.2.2.2.2.1 X.1.2.2.2.2.2.2.1 X.1.2.2.2.2.2.2.2 X.2.1 X.2.2.1 H locs cs ss X.2.2.2.2.1 (F0 X.1.2.2.2.2.2.1 pc ls st) := by
  obtain ⟨⟨p, l, e, R, s, m, args, below⟩, meth, c, A, Q, g⟩ := X
  obtain ⟨hx, hb, hml, hown, hts, hKS, hAz, hAn, hst9, hlk, hrt, hnm, hR, hex⟩ := hX
  have hfree : ∀ q, AA M sz q → A q := fun q hq => hq.elim (fun ⟨x, h9⟩ => hA q x (jn_m hdis h9)) (fun h9 => hAn q (Nat.le_trans hS.1 (by rw [hz]; exact h9)))
  have hnot : ∀ (q : Nat) (x : hC), F q = some x → ¬ AA M sz q := fun q x hq h9 => by
    rcases h9 with ⟨y, hy⟩ | h9
    · rw [hdis q x hq] at hy; cases hy
    · have := hM.lt (jn_f hq); omega
  have hback : ∀ (M' : Nat → Option hC) (t T' : State), T'.heap = t.heap → hv g.1 g.2.1 M' t.heap → (∀ (q : Nat) (x : hC), M' q = some x → AA M sz q) → (∀ q : Nat, q < H.size → ¬ AA M sz q → T'.heap[q]? = H[q]?) → hv g.1 g.2.1 (jn M' F) T'.heap ∧ (∀ (q : Nat) (x : hC), jn M' F q = some x → A q) ∧ dis F M' := by
    intro M' t T' e1 hv' hdom hk
    refine ⟨fun q x hx9 => ?_, fun q x hx9 => ?_, fun q x hq => ?_⟩
    · rcases jn_c hx9 with h9 | ⟨-, h9⟩
      · exact (hM q x (jn_f h9)).kept (hk q (hM.lt (jn_f h9)) (hnot q x h9))
      · rw [e1]; exact hv' q x h9
    · rcases jn_c hx9 with h9 | ⟨-, h9⟩
      · exact hA q x (jn_f h9)
      · exact hfree q (hdom q x h9)
    · cases hm : M' q with
      | none => rfl
      | some y => exact absurd (hdom q y hm) (hnot q x hq)
  intro T hT X0
  rcases hr T hT X0 with ⟨v, st₀, t, T', L, h0, X', hL, e1, e2, ⟨⟨v', M', ev, hk, hv', hdom⟩, hF⟩, stp⟩ | ⟨q9, st₀, t, T', L, E, ce, h0, X', hL, e1, e2, ⟨⟨M', hk, hv', hdom⟩, hF⟩, hce, hcv, hcl, stp⟩
  · cases ev
    obtain ⟨k1, k2, k3⟩ := vx_keep h0 e1 hS (fun q _ hq => hfree q hq) hfree hL hF
    obtain ⟨b1, b2, b3⟩ := hback M' t T' e1 hv' hdom k2
    obtain ⟨t2, a1, b1⟩ := hK _ _ _ hk b3 (by rw [← hz, ← e1]; exact k1) T'.heap (locs ++ L) ls (by rw [e1]) b1 b2 k3 hl T' rfl X'
    exact ⟨t2, stp t2 a1, b1⟩
  · obtain ⟨k1, k2, k3⟩ := vx_keep h0 e1 hS (fun q _ hq => hfree q hq) hfree hL hF
    obtain ⟨b1, b2, b3⟩ := hback M' t T' e1 hv' hdom k2
    obtain ⟨t2, a1, b1⟩ := hK _ _ _ hk b3 (by rw [← hz, ← e1]; exact k1) T'.heap (locs ++ L) ls q9 ce (by rw [e1]) b1 b2 k3 hl (by rw [e1]; exact hce) hcv hcl T' rfl X'
    exact ⟨t2, stp.trans a1, b1⟩

theorem g_cSXf {As : List Value} (hX : Cok X d) (hC : Ctr X.1.2.1 X.2.2.2.2.2 dc sp) (h : AtSX d pc dc na n) (hn : As.length = na) (hst : st = As.reverse ++ rest) (hW : (rest.map fun v => v.category).sum ≤ 8) {c2 s2 : Nat} (hrm : Rm9 d dc cs ss c2 s2) (hdis : dis F M) (kk : sp As M sz (fun r M' sz' => dis F M' → sz ≤ sz' → Kc X pc n lv rest c2 s2 r (jn M' F) sz')) : G X pc lv st (jn M F) sz cs ss := by
  obtain ⟨⟨p, l, e, R, s, m, args, below⟩, meth, c, A, Q, g⟩ := X
  obtain ⟨hx, hb, hml, hown, hts, hKS, hAz, hAn, hst9, hlk, hrt, hnm, hR, hex⟩ := hX
  intro H locs ls hz hM hA hS hl
  have hX0 : Cok ((p, l, e, R, s, m, args, below), meth, c, A, Q, g) d := ⟨hx, hb, hml, hown, hts, hKS, hAz, hAn, hst9, hlk, hrt, hnm, hR, hex⟩
  have hR' : R = d.2.2.2.2.1 := hR
  subst hR'
  obtain ⟨index, i1, i2, h1, rfl, e1, e2, hh, hcal⟩ := h
  obtain ⟨rfl, rfl, hrm1, hrm2⟩ := hrm
  have hrm := And.intro hrm1 hrm2
  have hz0 : g.2.2.1 ≤ sz := by rw [← hz]; exact Nat.le_trans hKS.2.2.1 hS.1
  have hMs : hv g.1 g.2.1 M H := fun q x h9 => hM q x (jn_m hdis h9)
  have hC9 := hC _ _ _ _ kk (fun q x h9 => hAz q (hA q x (jn_m hdis h9))) hz0
  exact run9f (As := As) (dc := dc) (aa := As.toArray) hX0 hz hM hdis hA hS hl (fun _ _ _ h1 h2 h3 => h1 h2 h3) (vx_runSX (Ts := []) (nL := c.maxLocals) (As := As) (rest := rest) ⟨hx, hb, rfl, hown, fun _ h9 => absurd h9 List.not_mem_nil⟩ hC9 (hcal.w hh hts rfl (hts.at i1 e1 rfl) (hts.at i2 e2 rfl)) (pre9 hX0 hz hMs hS) rfl hn hl.1 hst (lv_room hW) h1 hrm)

theorem g_cVf {As : List Value} {ci : Nat} {fs : List Value} (hX : Cok X d) (hC : Ctr X.1.2.1 X.2.2.2.2.2 dc sp) (h : AtV d pc dc na ci n) (hm : M a = some (.inl (ci, fs))) (hn : As.length = na) (hst : st = As.reverse ++ .ref a :: rest) (hW : (rest.map fun v => v.category).sum ≤ 8) {c2 s2 : Nat} (hrm : Rm9 d dc cs ss c2 s2) (hdis : dis F M) (kk : sp (.ref a :: As) M sz (fun r M' sz' => dis F M' → sz ≤ sz' → Kc X pc n lv rest c2 s2 r (jn M' F) sz')) : G X pc lv st (jn M F) sz cs ss := by
  obtain ⟨⟨p, l, e, R, s, m, args, below⟩, meth, c, A, Q, g⟩ := X
  obtain ⟨hx, hb, hml, hown, hts, hKS, hAz, hAn, hst9, hlk, hrt, hnm, hR, hex⟩ := hX
  intro H locs ls hz hM hA hS hl
  have hX0 : Cok ((p, l, e, R, s, m, args, below), meth, c, A, Q, g) d := ⟨hx, hb, hml, hown, hts, hKS, hAz, hAn, hst9, hlk, hrt, hnm, hR, hex⟩
  have hR' : R = d.2.2.2.2.1 := hR
  subst hR'
  obtain ⟨index, i1, i2, i3, q9, h1, rfl, hq, e1, e2, e3, hh, hcal⟩ := h
  obtain ⟨rfl, rfl, hrm1, hrm2⟩ := hrm
  have hrm := And.intro hrm1 hrm2
  have hz0 : g.2.2.1 ≤ sz := by rw [← hz]; exact Nat.le_trans hKS.2.2.1 hS.1
  have hMs : hv g.1 g.2.1 M H := fun q x h9 => hM q x (jn_m hdis h9)
  have hC9 := hC _ _ _ _ kk (fun q x h9 => hAz q (hA q x (jn_m hdis h9))) hz0
  exact run9f (As := .ref a :: As) (dc := dc) (aa := (Value.ref a :: As).toArray) hX0 hz hM hdis hA hS hl (fun _ _ _ h1 h2 h3 => h1 h2 h3) (vx_runV (Ts := []) (nL := c.maxLocals) (As := As) (rest := rest) (b := a) (C := q9.1) ⟨hx, hb, rfl, hown, fun _ h9 => absurd h9 List.not_mem_nil⟩ hC9 ⟨hcal.b hh hts rfl (hts.at i1 e1 rfl), hts.at i2 e2 rfl, hts.at i3 e3 rfl⟩ ⟨Pc9.blind, va_recv (D := g.1) hKS.1 (hMs.one hm) hq (q0 := 0) rfl, (pre9 hX0 hz hMs hS).2⟩ rfl hn hl.1 hst (lv_room hW) h1 hrm)

theorem g_cIf {As : List Value} (hX : Cok X d) (hC : Ctr X.1.2.1 X.2.2.2.2.2 dc sp) (h : AtNI d pc dc na n) (hn : As.length = na) (hst : st = As.reverse ++ .ref a :: rest) (hW : (rest.map fun v => v.category).sum ≤ 8) {c2 s2 : Nat} (hrm : Rm9 d dc cs ss c2 s2) (hdis : dis F M) (kk : sp (.ref a :: As) M sz (fun r M' sz' => dis F M' → sz ≤ sz' → Kc X pc n lv rest c2 s2 r (jn M' F) sz')) : G X pc lv st (jn M F) sz cs ss := by
  obtain ⟨⟨p, l, e, R, s, m, args, below⟩, meth, c, A, Q, g⟩ := X
  obtain ⟨hx, hb, hml, hown, hts, hKS, hAz, hAn, hst9, hlk, hrt, hnm, hR, hex⟩ := hX
  intro H locs ls hz hM hA hS hl
  have hX0 : Cok ((p, l, e, R, s, m, args, below), meth, c, A, Q, g) d := ⟨hx, hb, hml, hown, hts, hKS, hAz, hAn, hst9, hlk, hrt, hnm, hR, hex⟩
  have hR' : R = d.2.2.2.2.1 := hR
  subst hR'
  obtain ⟨index, i1, i2, h1, rfl, e1, e2, hnm9, hret9, hh, hcal⟩ := h
  obtain ⟨rfl, rfl, hrm1, hrm2⟩ := hrm
  have hrm := And.intro hrm1 hrm2
  have hz0 : g.2.2.1 ≤ sz := by rw [← hz]; exact Nat.le_trans hKS.2.2.1 hS.1
  have hMs : hv g.1 g.2.1 M H := fun q x h9 => hM q x (jn_m hdis h9)
  have hC9 := hC _ _ _ _ kk (fun q x h9 => hAz q (hA q x (jn_m hdis h9))) hz0
  have hcb := hcal.b hh hts rfl (hts.at i1 e1 rfl)
  rw [hret9] at hcb
  exact run9f (As := .ref a :: As) (dc := dc) (aa := (Value.ref a :: As).toArray) hX0 hz hM hdis hA hS hl (fun _ _ _ h1 h2 h3 => h1 h2 h3) (vx_runI (Ts := []) (nL := c.maxLocals) (As := As) (rest := rest) (b := a) ⟨hx, hb, rfl, hown, fun _ h9 => absurd h9 List.not_mem_nil⟩ hC9 ⟨hcb, hnm9, hts.at i2 e2 rfl⟩ (pre9 hX0 hz hMs hS) rfl hn hl.1 hst (lv_room hW) h1 hrm)
end R6
def sg (o : Nat) (f : Nat → Int64) : hM := fun q => if q = o then some (.inr (2, 1, .inr (.inl f))) else none
theorem sg_s (o : Nat) (f : Nat → Int64) : sg o f o = some (.inr (2, 1, .inr (.inl f))) := if_pos rfl
theorem sg_d {o : Nat} {f : Nat → Int64} {C : hM} (h : C o = none) : dis (sg o f) C := by
  intro q x hx
  unfold sg at hx
  by_cases e : q = o
  · rw [e]; exact h
  · rw [if_neg e] at hx; cases hx
theorem sg_o {o : Nat} {f : Nat → Int64} {C : hM} (h : dis (sg o f) C) : C o = none := h o _ (sg_s o f)
theorem jn_out {C : hM} {o : Nat} {f f' : Nat → Int64} : hup (jn C (sg o f)) o (.inr (2, 1, .inr (.inl f'))) = jn C (sg o f') := by
  funext q
  by_cases e : q = o
  · rw [e, hup_s, jn_f (sg_s o f')]
  · rw [hup_n _ _ e, jn_n (show sg o f q = none from if_neg e), jn_n (show sg o f' q = none from if_neg e)]
def KL (aD h o : Nat) (oc : OC) (K : hK) : Prop := ∀ (A' : Nat → Nat → Nat) (ow' : Nat → Nat × Nat) (τ' : Nat → Nat → Int) (C' : hM) (s9 : Nat) (f' : Nat → Int64), HX aD h A' ow' oc.2.2 τ' C' → SV oc.2.2 → C' o = none → (oc.1 = 0 → f' 0 = (iZ oc.2.1).toInt64) → K (.inl (some (.int (iZ oc.1)))) (jn C' (sg o f')) s9
theorem updL_0 (f : Nat → Int64) (x : Int64) : vp_updL f (iZ 0).toNatClampNeg x 0 = x := by
  rw [z_cl inR0]
  exact if_pos rfl
theorem vin_0 : vp_in (iZ 0) 1 := z_in (by decide) (by decide) (by decide)
theorem il_0 : Int64.ofNat ((0 : Fin 2) : Nat) = (iZ 0).toInt64 := by decide
theorem il_1 : Int64.ofNat ((1 : Fin 2) : Nat) = (iZ 1).toInt64 := by decide
