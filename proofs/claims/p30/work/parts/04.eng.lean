/-! THE ENGINE. A heap is seen through a map M from addresses to cells: what a method may read and write. G: the judgement at a pc, over every heap that M describes. -/
abbrev hC : Type := (Nat × List Value) ⊕ (Nat × Nat × ((Nat → Int32) ⊕ ((Nat → Int64) ⊕ (Nat → Option Nat))))
abbrev hM : Type := Nat → Option hC
def hE (dA : Nat → ClassId) (x : hC) : va_E := match x with
  | .inl o => .inr o
  | .inr (k, n, .inl f) => .inl (dA k, n, .inl f)
  | .inr (k, n, .inr (.inl f)) => .inl (dA k, n, .inr (.inl f))
  | .inr (k, n, .inr (.inr f)) => .inl (dA k, n, .inr (.inr (.inr (.inr f))))
def hup (M : hM) (a : Nat) (x : hC) : hM := fun q => if q = a then some x else M q
theorem hup_s (M : hM) (a : Nat) (x : hC) : hup M a x a = some x := if_pos rfl
theorem hup_n (M : hM) {a q : Nat} (x : hC) (h : q ≠ a) : hup M a x q = M q := if_neg h
def hv (D : va_G) (dA : Nat → ClassId) (M : hM) (H : Heap) : Prop := ∀ (a : Nat) (x : hC), M a = some x → va_at D cls9 (a, hE dA x) H
theorem hv.lt {D : va_G} {dA : Nat → ClassId} {M : hM} {H : Heap} (h : hv D dA M H) {a : Nat} {x : hC} (hx : M a = some x) : a < H.size := (h a x hx).lt
theorem hv.one {D : va_G} {dA : Nat → ClassId} {M : hM} {H : Heap} (h : hv D dA M H) {a : Nat} {x : hC} (hx : M a = some x) : va_P D cls9 [(a, hE dA x)] H := by
  intro k q hk
  match k, hk with
  | 0, hk => cases hk; exact h a x hx
  | k + 1, hk => simp at hk
theorem hv.kept {D : va_G} {dA : Nat → ClassId} {M : hM} {H H1 : Heap} (h : hv D dA M H) (hq : ∀ (a : Nat) (x : hC), M a = some x → H1[a]? = H[a]?) : hv D dA M H1 := fun a x hx => (h a x hx).kept (hq a x hx)
theorem hv.set {D : va_G} {dA : Nat → ClassId} {M : hM} {H H1 : Heap} (h : hv D dA M H) {a : Nat} {x : hC} (he : va_at D cls9 (a, hE dA x) H1) (oq : ∀ q : Nat, q ≠ a → H1[q]? = H[q]?) : hv D dA (hup M a x) H1 := by
  intro q y hy
  by_cases e : q = a
  · subst e
    rw [hup_s] at hy
    cases hy
    exact he
  · rw [hup_n _ _ e] at hy
    exact (h q y hy).kept (oq q e)
theorem hv.push {D : va_G} {dA : Nat → ClassId} {M : hM} {H H1 : Heap} (h : hv D dA M H) {x : hC} (he : va_at D cls9 (H.size, hE dA x) H1) (oq : ∀ q : Nat, q < H.size → H1[q]? = H[q]?) : hv D dA (hup M H.size x) H1 := by
  intro q y hy
  by_cases e : q = H.size
  · subst e
    rw [hup_s] at hy
    cases hy
    exact he
  · rw [hup_n _ _ e] at hy
    exact (h q y hy).kept (oq q (h.lt hy))
abbrev tys9 (dA : Nat → ClassId) : List (ClassId × FieldType) := [(dA 0, .int), (dA 1, .byte), (dA 2, .int), (dA 3, .object "java/lang/Object")]
/-- the words that a state keeps under every call -/
def isN (w : Cond) : Bool := match w with
  | .methodLinkNest .. => true
  | .fieldLinkNest .. => true
  | .castable .. => true
  | .declares _ => true
  | _ => false
def tw (w : Cond) : Bool := goodWord w || isN w
def TW (args : Array Value) (U : State) : Prop := ∀ w ∈ lw_tbl, tw w = true → w.before args U = true
theorem TW.warm {args a' : Array Value} {s U : State} (hW : s.WarmedH U.vm) (h : TW args s) : TW a' U := by
  intro w hw ht
  have h0 := h w hw ht
  simp only [tw, Bool.or_eq_true] at ht
  rcases ht with hg | hn
  · exact word_at hW (good_of_word hg) h0
  · cases w <;> first | (simp [isN] at hn; done) | skip
    all_goals first | exact va_Nw.use rfl (va_Nw.warmM hW (va_Nw.of rfl h0)) | exact va_Nw.use rfl (va_Nw.warmF hW (va_Nw.of rfl h0)) | exact va_Nw.use rfl (va_Nw.warmC hW (va_Nw.of rfl h0)) | exact va_Nw.use rfl (va_Nw.warmD hW (va_Nw.of rfl h0))
theorem TW.same {args a' : Array Value} {s U : State} (hv : s.vm = U.vm) (h : TW args s) : TW a' U := by
  intro w hw ht
  have h0 := h w hw ht
  by_cases ho : w.onTables = true
  · exact va_tabs ho hv h0
  · simp only [tw, Bool.or_eq_true] at ht
    rcases ht with hg | hn
    · rcases good_of_word hg with h1 | ⟨ty, rfl⟩
      · simp only [Bool.and_eq_true] at h1
        exact absurd h1.1 ho
      · have h1 : (Cond.arrayClass ty).before args (s.setVm U.vm) = true := by rw [← hv]; exact h0
        exact h1
    · cases w <;> first | (simp [isN] at hn; done) | exact absurd rfl ho
theorem TW.at {args : Array Value} {s : State} (h : TW args s) {w : Cond} (i : Nat) (hi : lw_tbl[i]? = some w) (ht : tw w = true) : w.before args s = true := h w (List.mem_of_getElem? hi) ht
