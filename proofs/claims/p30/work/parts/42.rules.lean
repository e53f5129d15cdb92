/-! rules for the law's methods -/
theorem ya_in {z : Int} (h : decide (-2147483648 ≤ z ∧ z ≤ 2147483647) = true) : inR z := show -2147483648 ≤ z ∧ z ≤ 2147483647 from of_decide_eq_true h
section Y1
variable {X : hX} {d : hD} {pc n t i : Nat} {lv st rest : List Value} {M : hM} {sz cs ss : Nat} {a b c v : Int}
theorem g_drop (kk : G X pc lv st (fun _ => none) sz cs ss) : G X pc lv st M sz cs ss := fun H locs ls hz hM hA hS hl => kk H locs ls hz (fun a x h => by cases h) (fun q x h => by cases h) hS hl
theorem g_ineg {x : Int32} (hX : Cok X d) (h : At d pc .ineg 1 n) (k : G X n lv (.int (-x) :: st) M sz cs ss) : G X pc lv (.int x :: st) M sz cs ss := by
  obtain ⟨⟨p, l, e, R, s, m, args, below⟩, meth, c, A, Q, g⟩ := X
  obtain ⟨hx, hb, hml, hown, hts, hKS, hAz, hAn, hst9, hlk, hrt, hnm, hR, hex⟩ := hX
  intro H locs ls hz hM hA hS hl
  obtain ⟨h1, rfl⟩ := h
  exact lv_ineg hx hb h1 (k H locs ls hz hM hA hS hl)
theorem y_ineg (hX : Cok X d) (h : At d pc .ineg 1 n) (e : -a = c) (k : G X n lv (.int (iZ c) :: st) M sz cs ss) : G X pc lv (.int (iZ a) :: st) M sz cs ss := by
  subst e
  refine g_ineg hX h ?_
  rw [show -(iZ a) = iZ (-a) from (Int32.ofInt_neg a).symm]
  exact k
theorem y_iadd (hX : Cok X d) (h : At d pc .iadd 1 n) (e : a + b = c) (k : G X n lv (.int (iZ c) :: st) M sz cs ss) : G X pc lv (.int (iZ b) :: .int (iZ a) :: st) M sz cs ss := by
  subst e
  exact z_iadd hX h k
theorem y_isub (hX : Cok X d) (h : At d pc .isub 1 n) (e : a - b = c) (k : G X n lv (.int (iZ c) :: st) M sz cs ss) : G X pc lv (.int (iZ b) :: .int (iZ a) :: st) M sz cs ss := by
  subst e
  exact z_isub hX h k
theorem y_imul (hX : Cok X d) (h : At d pc .imul 1 n) (e : a * b = c) (k : G X n lv (.int (iZ c) :: st) M sz cs ss) : G X pc lv (.int (iZ b) :: .int (iZ a) :: st) M sz cs ss := by
  subst e
  exact z_imul hX h k
theorem y_idiv (hX : Cok X d) (h : At d pc .idiv 1 n) (ha : inR a) (hb : inR b) (h0 : 0 ≤ a) (h2 : 0 < b) (e : a / b = c) (k : G X n lv (.int (iZ c) :: st) M sz cs ss) : G X pc lv (.int (iZ b) :: .int (iZ a) :: st) M sz cs ss := by
  subst e
  exact z_idiv hX h ha hb h0 h2 k
theorem y_irem (hX : Cok X d) (h : At d pc .irem 1 n) (ha : inR a) (hb : inR b) (h0 : 0 ≤ a) (h2 : 0 < b) (e : a % b = c) (k : G X n lv (.int (iZ c) :: st) M sz cs ss) : G X pc lv (.int (iZ b) :: .int (iZ a) :: st) M sz cs ss := by
  subst e
  exact z_irem hX h ha hb h0 h2 k
theorem y_iinc (hX : Cok X d) (h : AtInc d pc i (iZ b) n) (hv : lv[i]? = some (.int (iZ a))) (e : a + b = c) (k : G X n (lv.set i (.int (iZ c))) st M sz cs ss) : G X pc lv st M sz cs ss := by
  subst e
  exact z_iinc hX h hv k
theorem yt_icmp_eq (hX : Cok X d) (h : AtJ d pc (.if_icmp .eq) n t) (ha : inR a) (hb : inR b) (hq : a = b) (k : G X t lv st M sz cs ss) : G X pc lv (.int (iZ b) :: .int (iZ a) :: st) M sz cs ss := z_icmp_eq hX h ha hb (fun _ => k) (fun q => absurd q (by omega))
theorem yt_if_eq (hX : Cok X d) (h : AtJ d pc (.ifCond .eq) n t) (ha : inR a) (hq : a = 0) (k : G X t lv st M sz cs ss) : G X pc lv (.int (iZ a) :: st) M sz cs ss := z_if_eq hX h ha (fun _ => k) (fun q => absurd q (by omega))
theorem yf_icmp_eq (hX : Cok X d) (h : AtJ d pc (.if_icmp .eq) n t) (ha : inR a) (hb : inR b) (hq : a ≠ b) (k : G X n lv st M sz cs ss) : G X pc lv (.int (iZ b) :: .int (iZ a) :: st) M sz cs ss := z_icmp_eq hX h ha hb (fun q => absurd q (by omega)) (fun _ => k)
theorem yf_if_eq (hX : Cok X d) (h : AtJ d pc (.ifCond .eq) n t) (ha : inR a) (hq : a ≠ 0) (k : G X n lv st M sz cs ss) : G X pc lv (.int (iZ a) :: st) M sz cs ss := z_if_eq hX h ha (fun q => absurd q (by omega)) (fun _ => k)
theorem yt_icmp_ne (hX : Cok X d) (h : AtJ d pc (.if_icmp .ne) n t) (ha : inR a) (hb : inR b) (hq : a ≠ b) (k : G X t lv st M sz cs ss) : G X pc lv (.int (iZ b) :: .int (iZ a) :: st) M sz cs ss := z_icmp_ne hX h ha hb (fun _ => k) (fun q => absurd q (by omega))
theorem yt_if_ne (hX : Cok X d) (h : AtJ d pc (.ifCond .ne) n t) (ha : inR a) (hq : a ≠ 0) (k : G X t lv st M sz cs ss) : G X pc lv (.int (iZ a) :: st) M sz cs ss := z_if_ne hX h ha (fun _ => k) (fun q => absurd q (by omega))
theorem yf_icmp_ne (hX : Cok X d) (h : AtJ d pc (.if_icmp .ne) n t) (ha : inR a) (hb : inR b) (hq : a = b) (k : G X n lv st M sz cs ss) : G X pc lv (.int (iZ b) :: .int (iZ a) :: st) M sz cs ss := z_icmp_ne hX h ha hb (fun q => absurd q (by omega)) (fun _ => k)
theorem yf_if_ne (hX : Cok X d) (h : AtJ d pc (.ifCond .ne) n t) (ha : inR a) (hq : a = 0) (k : G X n lv st M sz cs ss) : G X pc lv (.int (iZ a) :: st) M sz cs ss := z_if_ne hX h ha (fun q => absurd q (by omega)) (fun _ => k)
theorem yt_icmp_lt (hX : Cok X d) (h : AtJ d pc (.if_icmp .lt) n t) (ha : inR a) (hb : inR b) (hq : a < b) (k : G X t lv st M sz cs ss) : G X pc lv (.int (iZ b) :: .int (iZ a) :: st) M sz cs ss := z_icmp_lt hX h ha hb (fun _ => k) (fun q => absurd q (by omega))
theorem yt_if_lt (hX : Cok X d) (h : AtJ d pc (.ifCond .lt) n t) (ha : inR a) (hq : a < 0) (k : G X t lv st M sz cs ss) : G X pc lv (.int (iZ a) :: st) M sz cs ss := z_if_lt hX h ha (fun _ => k) (fun q => absurd q (by omega))
theorem yf_icmp_lt (hX : Cok X d) (h : AtJ d pc (.if_icmp .lt) n t) (ha : inR a) (hb : inR b) (hq : b ≤ a) (k : G X n lv st M sz cs ss) : G X pc lv (.int (iZ b) :: .int (iZ a) :: st) M sz cs ss := z_icmp_lt hX h ha hb (fun q => absurd q (by omega)) (fun _ => k)
theorem yf_if_lt (hX : Cok X d) (h : AtJ d pc (.ifCond .lt) n t) (ha : inR a) (hq : 0 ≤ a) (k : G X n lv st M sz cs ss) : G X pc lv (.int (iZ a) :: st) M sz cs ss := z_if_lt hX h ha (fun q => absurd q (by omega)) (fun _ => k)
theorem yt_icmp_ge (hX : Cok X d) (h : AtJ d pc (.if_icmp .ge) n t) (ha : inR a) (hb : inR b) (hq : b ≤ a) (k : G X t lv st M sz cs ss) : G X pc lv (.int (iZ b) :: .int (iZ a) :: st) M sz cs ss := z_icmp_ge hX h ha hb (fun _ => k) (fun q => absurd q (by omega))
theorem yt_if_ge (hX : Cok X d) (h : AtJ d pc (.ifCond .ge) n t) (ha : inR a) (hq : 0 ≤ a) (k : G X t lv st M sz cs ss) : G X pc lv (.int (iZ a) :: st) M sz cs ss := z_if_ge hX h ha (fun _ => k) (fun q => absurd q (by omega))
theorem yf_icmp_ge (hX : Cok X d) (h : AtJ d pc (.if_icmp .ge) n t) (ha : inR a) (hb : inR b) (hq : a < b) (k : G X n lv st M sz cs ss) : G X pc lv (.int (iZ b) :: .int (iZ a) :: st) M sz cs ss := z_icmp_ge hX h ha hb (fun q => absurd q (by omega)) (fun _ => k)
theorem yf_if_ge (hX : Cok X d) (h : AtJ d pc (.ifCond .ge) n t) (ha : inR a) (hq : a < 0) (k : G X n lv st M sz cs ss) : G X pc lv (.int (iZ a) :: st) M sz cs ss := z_if_ge hX h ha (fun q => absurd q (by omega)) (fun _ => k)
theorem yt_icmp_gt (hX : Cok X d) (h : AtJ d pc (.if_icmp .gt) n t) (ha : inR a) (hb : inR b) (hq : b < a) (k : G X t lv st M sz cs ss) : G X pc lv (.int (iZ b) :: .int (iZ a) :: st) M sz cs ss := z_icmp_gt hX h ha hb (fun _ => k) (fun q => absurd q (by omega))
theorem yt_if_gt (hX : Cok X d) (h : AtJ d pc (.ifCond .gt) n t) (ha : inR a) (hq : 0 < a) (k : G X t lv st M sz cs ss) : G X pc lv (.int (iZ a) :: st) M sz cs ss := z_if_gt hX h ha (fun _ => k) (fun q => absurd q (by omega))
theorem yf_icmp_gt (hX : Cok X d) (h : AtJ d pc (.if_icmp .gt) n t) (ha : inR a) (hb : inR b) (hq : a ≤ b) (k : G X n lv st M sz cs ss) : G X pc lv (.int (iZ b) :: .int (iZ a) :: st) M sz cs ss := z_icmp_gt hX h ha hb (fun q => absurd q (by omega)) (fun _ => k)
theorem yf_if_gt (hX : Cok X d) (h : AtJ d pc (.ifCond .gt) n t) (ha : inR a) (hq : a ≤ 0) (k : G X n lv st M sz cs ss) : G X pc lv (.int (iZ a) :: st) M sz cs ss := z_if_gt hX h ha (fun q => absurd q (by omega)) (fun _ => k)
theorem yt_icmp_le (hX : Cok X d) (h : AtJ d pc (.if_icmp .le) n t) (ha : inR a) (hb : inR b) (hq : a ≤ b) (k : G X t lv st M sz cs ss) : G X pc lv (.int (iZ b) :: .int (iZ a) :: st) M sz cs ss := z_icmp_le hX h ha hb (fun _ => k) (fun q => absurd q (by omega))
theorem yt_if_le (hX : Cok X d) (h : AtJ d pc (.ifCond .le) n t) (ha : inR a) (hq : a ≤ 0) (k : G X t lv st M sz cs ss) : G X pc lv (.int (iZ a) :: st) M sz cs ss := z_if_le hX h ha (fun _ => k) (fun q => absurd q (by omega))
theorem yf_icmp_le (hX : Cok X d) (h : AtJ d pc (.if_icmp .le) n t) (ha : inR a) (hb : inR b) (hq : b < a) (k : G X n lv st M sz cs ss) : G X pc lv (.int (iZ b) :: .int (iZ a) :: st) M sz cs ss := z_icmp_le hX h ha hb (fun q => absurd q (by omega)) (fun _ => k)
theorem yf_if_le (hX : Cok X d) (h : AtJ d pc (.ifCond .le) n t) (ha : inR a) (hq : 0 < a) (k : G X n lv st M sz cs ss) : G X pc lv (.int (iZ a) :: st) M sz cs ss := z_if_le hX h ha (fun q => absurd q (by omega)) (fun _ => k)
/-- b == 1 ? true : false, as javac writes it -/
theorem y_eqb {n1 n2 e1 : Nat} (hX : Cok X d) (h0 : AtJ d pc (.if_icmp .ne) n t) (h1 : AtK d n (iZ 1) n1) (h2 : AtG d n1 e1) (h3 : AtK d t (iZ 0) e1) (ha : inR a) (hb : inR b) (kk : G X e1 lv (.int (iZ (bZ (a = b))) :: st) M sz cs ss) : G X pc lv (.int (iZ b) :: .int (iZ a) :: st) M sz cs ss := by
  refine z_icmp_ne hX h0 ha hb (fun q => g_const hX h3 ?_) (fun q => g_const hX h1 (g_goto hX h2 ?_))
  · rw [bZ_f q] at kk
    exact kk
  · rw [bZ_t q] at kk
    exact kk
theorem y_ltb {n1 n2 e1 : Nat} (hX : Cok X d) (h0 : AtJ d pc (.if_icmp .ge) n t) (h1 : AtK d n (iZ 1) n1) (h2 : AtG d n1 e1) (h3 : AtK d t (iZ 0) e1) (ha : inR a) (hb : inR b) (kk : G X e1 lv (.int (iZ (bZ (a < b))) :: st) M sz cs ss) : G X pc lv (.int (iZ b) :: .int (iZ a) :: st) M sz cs ss := by
  refine z_icmp_ge hX h0 ha hb (fun q => g_const hX h3 ?_) (fun q => g_const hX h1 (g_goto hX h2 ?_))
  · rw [bZ_f (by omega)] at kk
    exact kk
  · rw [bZ_t q] at kk
    exact kk
/-- x == 0 ? true : false -/
theorem y_eq0 {n1 e1 : Nat} (hX : Cok X d) (h0 : AtJ d pc (.ifCond .ne) n t) (h1 : AtK d n (iZ 1) n1) (h2 : AtG d n1 e1) (h3 : AtK d t (iZ 0) e1) (ha : inR a) (kk : G X e1 lv (.int (iZ (bZ (a = 0))) :: st) M sz cs ss) : G X pc lv (.int (iZ a) :: st) M sz cs ss := by
  refine z_if_ne hX h0 ha (fun q => g_const hX h3 ?_) (fun q => g_const hX h1 (g_goto hX h2 ?_))
  · rw [bZ_f q] at kk
    exact kk
  · rw [bZ_t q] at kk
    exact kk
/-- x ? 1 : 0 of a boolean -/
theorem y_b01 {n1 e1 : Nat} (hX : Cok X d) (h0 : AtJ d pc (.ifCond .eq) n t) (h1 : AtK d n (iZ 1) n1) (h2 : AtG d n1 e1) (h3 : AtK d t (iZ 0) e1) (hv : v = 0 ∨ v = 1) (kk : G X e1 lv (.int (iZ v) :: st) M sz cs ss) : G X pc lv (.int (iZ v) :: st) M sz cs ss := by
  rcases hv with rfl | rfl
  · exact z_if_eq hX h0 (ya_in rfl) (fun _ => g_const hX h3 kk) (fun q => absurd rfl q)
  · exact z_if_eq hX h0 (ya_in rfl) (fun q => absurd q (by decide)) (fun _ => g_const hX h1 (g_goto hX h2 kk))
theorem y_b01g {n1 n2 e1 : Nat} (hX : Cok X d) (h0 : AtJ d pc (.ifCond .eq) n t) (h1 : AtK d n (iZ 1) n1) (h2 : AtG d n1 e1) (h3 : AtK d t (iZ 0) n2) (h4 : AtG d n2 e1) (hv : v = 0 ∨ v = 1) (kk : G X e1 lv (.int (iZ v) :: st) M sz cs ss) : G X pc lv (.int (iZ v) :: st) M sz cs ss := by
  rcases hv with rfl | rfl
  · exact z_if_eq hX h0 (ya_in rfl) (fun _ => g_const hX h3 (g_goto hX h4 kk)) (fun q => absurd rfl q)
  · exact z_if_eq hX h0 (ya_in rfl) (fun q => absurd q (by decide)) (fun _ => g_const hX h1 (g_goto hX h2 kk))
end Y1
section Y2
variable {X : hX} {d : hD} {pc n t i : Nat} {lv st rest : List Value} {M : hM} {sz cs ss : Nat} {h : Nat} {A : Nat → Nat → Nat} {ow : Nat → Nat × Nat} {σ σ' : SG} {τ : Nat → Nat → Int} {v : Int}
theorem l_text {a b : Int} (hX : Cok X d) (hst : X.1.2.1.stackTraces = false) (hat : AtV d pc mX9_text 2 9 n) (hH : HX X.2.2.2.2.2.2.2.2.2 h A ow σ τ M) (hV : SV σ) (ra : inR a) (rb : inR b) (e : oc_text σ a b = (0, v, σ')) (hc : cs + 9 ≤ d.2.2.2.2.1.cells) (hs : ss + 243 ≤ d.2.2.2.2.1.slots) (hW : (rest.map fun v => v.category).sum ≤ 8) (kk : ∀ (A' : Nat → Nat → Nat) (ow' : Nat → Nat × Nat) (τ' : Nat → Nat → Int) (M' : hM) (s9 : Nat), HX X.2.2.2.2.2.2.2.2.2 h A' ow' σ' τ' M' → SV σ' → G X n lv (.int (iZ v) :: rest) M' s9 (cs + 9) (ss + 243)) : G X pc lv (.int (iZ b) :: .int (iZ a) :: .ref h :: rest) M sz cs ss := by
  refine g_cV2 (c2 := cs + 9) (s2 := ss + 243) hX (s_X9_text hst) hat hH.ob hW ⟨rfl, rfl, hc, hs⟩ ?_
  refine ⟨h, A, ow, σ, τ, a, b, rfl, hH, hV, ra, rb, fun A1 ow1 τ1 M1 s1 hH1 hV1 => ?_⟩
  rw [e] at hH1 hV1 ⊢
  exact Kc_i (kk A1 ow1 τ1 M1 s1 hH1 hV1)
theorem l_line {a m s : Int} (hX : Cok X d) (hst : X.1.2.1.stackTraces = false) (hat : AtV d pc mX9_line 3 9 n) (hH : HX X.2.2.2.2.2.2.2.2.2 h A ow σ τ M) (hV : SV σ) (ra : inR a) (rm : inR m) (rs : inR s) (e : oc_row 0 13 σ a m s = (0, v, σ')) (hc : cs + 4 ≤ d.2.2.2.2.1.cells) (hs : ss + 24 ≤ d.2.2.2.2.1.slots) (hW : (rest.map fun v => v.category).sum ≤ 8) (kk : ∀ (A' : Nat → Nat → Nat) (ow' : Nat → Nat × Nat) (τ' : Nat → Nat → Int) (M' : hM) (s9 : Nat), HX X.2.2.2.2.2.2.2.2.2 h A' ow' σ' τ' M' → SV σ' → G X n lv (.int (iZ v) :: rest) M' s9 (cs + 4) (ss + 24)) : G X pc lv (.int (iZ s) :: .int (iZ m) :: .int (iZ a) :: .ref h :: rest) M sz cs ss := by
  refine g_cV3 (c2 := cs + 4) (s2 := ss + 24) hX (s_X9_line hst) hat hH.ob hW ⟨rfl, rfl, hc, hs⟩ ?_
  refine ⟨h, A, ow, σ, τ, a, m, s, rfl, hH, hV, ra, rm, rs, fun A1 ow1 τ1 M1 s1 hH1 hV1 => ?_⟩
  rw [e] at hH1 hV1 ⊢
  exact Kc_i (kk A1 ow1 τ1 M1 s1 hH1 hV1)
theorem l_tune {a lo hi : Int} (hX : Cok X d) (hst : X.1.2.1.stackTraces = false) (hat : AtV d pc mX9_tune 3 9 n) (hH : HX X.2.2.2.2.2.2.2.2.2 h A ow σ τ M) (hV : SV σ) (ra : inR a) (rlo : inR lo) (rhi : inR hi) (e : oc_tune σ a lo hi = (0, v, σ')) (hc : cs + 10 ≤ d.2.2.2.2.1.cells) (hs : ss + 250 ≤ d.2.2.2.2.1.slots) (hW : (rest.map fun v => v.category).sum ≤ 8) (kk : ∀ (A' : Nat → Nat → Nat) (ow' : Nat → Nat × Nat) (τ' : Nat → Nat → Int) (M' : hM) (s9 : Nat), HX X.2.2.2.2.2.2.2.2.2 h A' ow' σ' τ' M' → SV σ' → G X n lv (.int (iZ v) :: rest) M' s9 (cs + 10) (ss + 250)) : G X pc lv (.int (iZ hi) :: .int (iZ lo) :: .int (iZ a) :: .ref h :: rest) M sz cs ss := by
  refine g_cV3 (c2 := cs + 10) (s2 := ss + 250) hX (s_X9_tune hst) hat hH.ob hW ⟨rfl, rfl, hc, hs⟩ ?_
  refine ⟨h, A, ow, σ, τ, a, lo, hi, rfl, hH, hV, ra, rlo, rhi, fun A1 ow1 τ1 M1 s1 hH1 hV1 => ?_⟩
  rw [e] at hH1 hV1 ⊢
  exact Kc_i (kk A1 ow1 τ1 M1 s1 hH1 hV1)
theorem l_phrase {a m s : Int} (hX : Cok X d) (hst : X.1.2.1.stackTraces = false) (hat : AtV d pc mX9_phrase 3 9 n) (hH : HX X.2.2.2.2.2.2.2.2.2 h A ow σ τ M) (hV : SV σ) (ra : inR a) (rm : inR m) (rs : inR s) (e : oc_row 1 24 σ a m s = (0, v, σ')) (hc : cs + 4 ≤ d.2.2.2.2.1.cells) (hs : ss + 24 ≤ d.2.2.2.2.1.slots) (hW : (rest.map fun v => v.category).sum ≤ 8) (kk : ∀ (A' : Nat → Nat → Nat) (ow' : Nat → Nat × Nat) (τ' : Nat → Nat → Int) (M' : hM) (s9 : Nat), HX X.2.2.2.2.2.2.2.2.2 h A' ow' σ' τ' M' → SV σ' → G X n lv (.int (iZ v) :: rest) M' s9 (cs + 4) (ss + 24)) : G X pc lv (.int (iZ s) :: .int (iZ m) :: .int (iZ a) :: .ref h :: rest) M sz cs ss := by
  refine g_cV3 (c2 := cs + 4) (s2 := ss + 24) hX (s_X9_phrase hst) hat hH.ob hW ⟨rfl, rfl, hc, hs⟩ ?_
  refine ⟨h, A, ow, σ, τ, a, m, s, rfl, hH, hV, ra, rm, rs, fun A1 ow1 τ1 M1 s1 hH1 hV1 => ?_⟩
  rw [e] at hH1 hV1 ⊢
  exact Kc_i (kk A1 ow1 τ1 M1 s1 hH1 hV1)
theorem l_fits {a b : Int} (hX : Cok X d) (hst : X.1.2.1.stackTraces = false) (hat : AtV d pc mX9_fits 2 9 n) (hH : HX X.2.2.2.2.2.2.2.2.2 h A ow σ τ M) (hV : SV σ) (ra : inR a) (rb : inR b) (e : oc_fits σ a b = (0, v, σ')) (hc : cs + 2 ≤ d.2.2.2.2.1.cells) (hs : ss + 12 ≤ d.2.2.2.2.1.slots) (hW : (rest.map fun v => v.category).sum ≤ 8) (kk : ∀ (A' : Nat → Nat → Nat) (ow' : Nat → Nat × Nat) (τ' : Nat → Nat → Int) (M' : hM) (s9 : Nat), HX X.2.2.2.2.2.2.2.2.2 h A' ow' σ' τ' M' → SV σ' → G X n lv (.int (iZ v) :: rest) M' s9 (cs + 2) (ss + 12)) : G X pc lv (.int (iZ b) :: .int (iZ a) :: .ref h :: rest) M sz cs ss := by
  refine g_cV2 (c2 := cs + 2) (s2 := ss + 12) hX (s_X9_fits hst) hat hH.ob hW ⟨rfl, rfl, hc, hs⟩ ?_
  refine ⟨h, A, ow, σ, τ, a, b, rfl, hH, hV, ra, rb, fun A1 ow1 τ1 M1 s1 hH1 hV1 => ?_⟩
  rw [e] at hH1 hV1 ⊢
  exact Kc_i (kk A1 ow1 τ1 M1 s1 hH1 hV1)
theorem l_clashes {a b : Int} (hX : Cok X d) (hst : X.1.2.1.stackTraces = false) (hat : AtV d pc mX9_clashes 2 9 n) (hH : HX X.2.2.2.2.2.2.2.2.2 h A ow σ τ M) (hV : SV σ) (ra : inR a) (rb : inR b) (e : oc_clashes σ a b = (0, v, σ')) (hc : cs + 3 ≤ d.2.2.2.2.1.cells) (hs : ss + 18 ≤ d.2.2.2.2.1.slots) (hW : (rest.map fun v => v.category).sum ≤ 8) (kk : ∀ (A' : Nat → Nat → Nat) (ow' : Nat → Nat × Nat) (τ' : Nat → Nat → Int) (M' : hM) (s9 : Nat), HX X.2.2.2.2.2.2.2.2.2 h A' ow' σ' τ' M' → SV σ' → G X n lv (.int (iZ v) :: rest) M' s9 (cs + 3) (ss + 18)) : G X pc lv (.int (iZ b) :: .int (iZ a) :: .ref h :: rest) M sz cs ss := by
  refine g_cV2 (c2 := cs + 3) (s2 := ss + 18) hX (s_X9_clashes hst) hat hH.ob hW ⟨rfl, rfl, hc, hs⟩ ?_
  refine ⟨h, A, ow, σ, τ, a, b, rfl, hH, hV, ra, rb, fun A1 ow1 τ1 M1 s1 hH1 hV1 => ?_⟩
  rw [e] at hH1 hV1 ⊢
  exact Kc_i (kk A1 ow1 τ1 M1 s1 hH1 hV1)
theorem l_best {a : Int} (hX : Cok X d) (hst : X.1.2.1.stackTraces = false) (hat : AtV d pc mX9_best 1 9 n) (hH : HX X.2.2.2.2.2.2.2.2.2 h A ow σ τ M) (hV : SV σ) (ra : inR a) (e : oc_best σ a = (0, v, σ')) (hc : cs + 1 ≤ d.2.2.2.2.1.cells) (hs : ss + 6 ≤ d.2.2.2.2.1.slots) (hW : (rest.map fun v => v.category).sum ≤ 8) (kk : ∀ (A' : Nat → Nat → Nat) (ow' : Nat → Nat × Nat) (τ' : Nat → Nat → Int) (M' : hM) (s9 : Nat), HX X.2.2.2.2.2.2.2.2.2 h A' ow' σ' τ' M' → SV σ' → G X n lv (.int (iZ v) :: rest) M' s9 (cs + 1) (ss + 6)) : G X pc lv (.int (iZ a) :: .ref h :: rest) M sz cs ss := by
  refine g_cV1 (c2 := cs + 1) (s2 := ss + 6) hX (s_X9_best hst) hat hH.ob hW ⟨rfl, rfl, hc, hs⟩ ?_
  refine ⟨h, A, ow, σ, τ, a, rfl, hH, hV, ra, fun A1 ow1 τ1 M1 s1 hH1 hV1 => ?_⟩
  rw [e] at hH1 hV1 ⊢
  exact Kc_i (kk A1 ow1 τ1 M1 s1 hH1 hV1)
theorem l_alike {a : Int} (hX : Cok X d) (hst : X.1.2.1.stackTraces = false) (hat : AtV d pc mX9_alike 1 9 n) (hH : HX X.2.2.2.2.2.2.2.2.2 h A ow σ τ M) (hV : SV σ) (ra : inR a) (e : oc_alike σ a = (0, v, σ')) (hc : cs + 1 ≤ d.2.2.2.2.1.cells) (hs : ss + 6 ≤ d.2.2.2.2.1.slots) (hW : (rest.map fun v => v.category).sum ≤ 8) (kk : ∀ (A' : Nat → Nat → Nat) (ow' : Nat → Nat × Nat) (τ' : Nat → Nat → Int) (M' : hM) (s9 : Nat), HX X.2.2.2.2.2.2.2.2.2 h A' ow' σ' τ' M' → SV σ' → G X n lv (.int (iZ v) :: rest) M' s9 (cs + 1) (ss + 6)) : G X pc lv (.int (iZ a) :: .ref h :: rest) M sz cs ss := by
  refine g_cV1 (c2 := cs + 1) (s2 := ss + 6) hX (s_X9_alike hst) hat hH.ob hW ⟨rfl, rfl, hc, hs⟩ ?_
  refine ⟨h, A, ow, σ, τ, a, rfl, hH, hV, ra, fun A1 ow1 τ1 M1 s1 hH1 hV1 => ?_⟩
  rw [e] at hH1 hV1 ⊢
  exact Kc_i (kk A1 ow1 τ1 M1 s1 hH1 hV1)
theorem l_metres  (hX : Cok X d) (hst : X.1.2.1.stackTraces = false) (hat : AtV d pc mX9_metres 0 9 n) (hH : HX X.2.2.2.2.2.2.2.2.2 h A ow σ τ M) (hV : SV σ)  (e : oc_metres σ = (0, v, σ')) (hc : cs + 0 ≤ d.2.2.2.2.1.cells) (hs : ss + 0 ≤ d.2.2.2.2.1.slots) (hW : (rest.map fun v => v.category).sum ≤ 8) (kk : ∀ (A' : Nat → Nat → Nat) (ow' : Nat → Nat × Nat) (τ' : Nat → Nat → Int) (M' : hM) (s9 : Nat), HX X.2.2.2.2.2.2.2.2.2 h A' ow' σ' τ' M' → SV σ' → G X n lv (.int (iZ v) :: rest) M' s9 (cs + 0) (ss + 0)) : G X pc lv (.ref h :: rest) M sz cs ss := by
  refine g_cV0 (c2 := cs + 0) (s2 := ss + 0) hX (s_X9_metres hst) hat hH.ob hW ⟨rfl, rfl, hc, hs⟩ ?_
  refine ⟨h, A, ow, σ, τ, rfl, hH, hV, fun A1 ow1 τ1 M1 s1 hH1 hV1 => ?_⟩
  rw [e] at hH1 hV1 ⊢
  exact Kc_i (kk A1 ow1 τ1 M1 s1 hH1 hV1)
theorem l_allowText {a b : Int} (hX : Cok X d) (hst : X.1.2.1.stackTraces = false) (hat : AtV d pc mX9_allowText 2 9 n) (hH : HX X.2.2.2.2.2.2.2.2.2 h A ow σ τ M) (hV : SV σ) (ra : inR a) (rb : b = 0 ∨ b = 1) (e : oc_allow 0 12 σ a b = (0, v, σ')) (hc : cs + 1 ≤ d.2.2.2.2.1.cells) (hs : ss + 6 ≤ d.2.2.2.2.1.slots) (hW : (rest.map fun v => v.category).sum ≤ 8) (kk : ∀ (A' : Nat → Nat → Nat) (ow' : Nat → Nat × Nat) (τ' : Nat → Nat → Int) (M' : hM) (s9 : Nat), HX X.2.2.2.2.2.2.2.2.2 h A' ow' σ' τ' M' → SV σ' → G X n lv (.int (iZ v) :: rest) M' s9 (cs + 1) (ss + 6)) : G X pc lv (.int (iZ b) :: .int (iZ a) :: .ref h :: rest) M sz cs ss := by
  refine g_cV2 (c2 := cs + 1) (s2 := ss + 6) hX (s_X9_allowText hst) hat hH.ob hW ⟨rfl, rfl, hc, hs⟩ ?_
  refine ⟨h, A, ow, σ, τ, a, b, rfl, hH, hV, ra, rb, fun A1 ow1 τ1 M1 s1 hH1 hV1 => ?_⟩
  rw [e] at hH1 hV1 ⊢
  exact Kc_i (kk A1 ow1 τ1 M1 s1 hH1 hV1)
theorem l_allowTune {a b : Int} (hX : Cok X d) (hst : X.1.2.1.stackTraces = false) (hat : AtV d pc mX9_allowTune 2 9 n) (hH : HX X.2.2.2.2.2.2.2.2.2 h A ow σ τ M) (hV : SV σ) (ra : inR a) (rb : b = 0 ∨ b = 1) (e : oc_allow 1 23 σ a b = (0, v, σ')) (hc : cs + 1 ≤ d.2.2.2.2.1.cells) (hs : ss + 6 ≤ d.2.2.2.2.1.slots) (hW : (rest.map fun v => v.category).sum ≤ 8) (kk : ∀ (A' : Nat → Nat → Nat) (ow' : Nat → Nat × Nat) (τ' : Nat → Nat → Int) (M' : hM) (s9 : Nat), HX X.2.2.2.2.2.2.2.2.2 h A' ow' σ' τ' M' → SV σ' → G X n lv (.int (iZ v) :: rest) M' s9 (cs + 1) (ss + 6)) : G X pc lv (.int (iZ b) :: .int (iZ a) :: .ref h :: rest) M sz cs ss := by
  refine g_cV2 (c2 := cs + 1) (s2 := ss + 6) hX (s_X9_allowTune hst) hat hH.ob hW ⟨rfl, rfl, hc, hs⟩ ?_
  refine ⟨h, A, ow, σ, τ, a, b, rfl, hH, hV, ra, rb, fun A1 ow1 τ1 M1 s1 hH1 hV1 => ?_⟩
  rw [e] at hH1 hV1 ⊢
  exact Kc_i (kk A1 ow1 τ1 M1 s1 hH1 hV1)
theorem l_shift {a lo hi : Int} (hX : Cok X d) (hst : X.1.2.1.stackTraces = false) (hat : AtV d pc mX9_shift 3 9 n) (hH : HX X.2.2.2.2.2.2.2.2.2 h A ow σ τ M) (hV : SV σ) (ra : inR a) (rlo : inR lo) (rhi : inR hi) (e : oc_shift σ a lo hi = (0, v, σ')) (hc : cs + 3 ≤ d.2.2.2.2.1.cells) (hs : ss + 18 ≤ d.2.2.2.2.1.slots) (hW : (rest.map fun v => v.category).sum ≤ 8) (kk : ∀ (A' : Nat → Nat → Nat) (ow' : Nat → Nat × Nat) (τ' : Nat → Nat → Int) (M' : hM) (s9 : Nat), HX X.2.2.2.2.2.2.2.2.2 h A' ow' σ' τ' M' → SV σ' → G X n lv (.int (iZ v) :: rest) M' s9 (cs + 3) (ss + 18)) : G X pc lv (.int (iZ hi) :: .int (iZ lo) :: .int (iZ a) :: .ref h :: rest) M sz cs ss := by
  refine g_cV3 (c2 := cs + 3) (s2 := ss + 18) hX (s_X9_shift hst) hat hH.ob hW ⟨rfl, rfl, hc, hs⟩ ?_
  refine ⟨h, A, ow, σ, τ, a, lo, hi, rfl, hH, hV, ra, rlo, rhi, fun A1 ow1 τ1 M1 s1 hH1 hV1 => ?_⟩
  rw [e] at hH1 hV1 ⊢
  exact Kc_i (kk A1 ow1 τ1 M1 s1 hH1 hV1)
theorem l_easter {y : Int} (hX : Cok X d) (hst : X.1.2.1.stackTraces = false) (hat : AtV d pc mX9_easter 1 9 n) (hH : HX X.2.2.2.2.2.2.2.2.2 h A ow σ τ M) (hV : SV σ) (ry : inR y) (e : oc_easter σ y = (0, v, σ')) (hc : cs + 1 ≤ d.2.2.2.2.1.cells) (hs : ss + 6 ≤ d.2.2.2.2.1.slots) (hW : (rest.map fun v => v.category).sum ≤ 8) (kk : ∀ (A' : Nat → Nat → Nat) (ow' : Nat → Nat × Nat) (τ' : Nat → Nat → Int) (M' : hM) (s9 : Nat), HX X.2.2.2.2.2.2.2.2.2 h A' ow' σ' τ' M' → SV σ' → G X n lv (.int (iZ v) :: rest) M' s9 (cs + 1) (ss + 6)) : G X pc lv (.int (iZ y) :: .ref h :: rest) M sz cs ss := by
  refine g_cV1 (c2 := cs + 1) (s2 := ss + 6) hX (s_X9_easter hst) hat hH.ob hW ⟨rfl, rfl, hc, hs⟩ ?_
  refine ⟨h, A, ow, σ, τ, y, rfl, hH, hV, ry, fun A1 ow1 τ1 M1 s1 hH1 hV1 => ?_⟩
  rw [e] at hH1 hV1 ⊢
  exact Kc_i (kk A1 ow1 τ1 M1 s1 hH1 hV1)
theorem l_easterAnew {y : Int} (hX : Cok X d) (hst : X.1.2.1.stackTraces = false) (hat : AtV d pc mX9_easterAnew 1 9 n) (hH : HX X.2.2.2.2.2.2.2.2.2 h A ow σ τ M) (hV : SV σ) (ry : inR y) (e : oc_easter σ y = (0, v, σ')) (hc : cs + 1 ≤ d.2.2.2.2.1.cells) (hs : ss + 6 ≤ d.2.2.2.2.1.slots) (hW : (rest.map fun v => v.category).sum ≤ 8) (kk : ∀ (A' : Nat → Nat → Nat) (ow' : Nat → Nat × Nat) (τ' : Nat → Nat → Int) (M' : hM) (s9 : Nat), HX X.2.2.2.2.2.2.2.2.2 h A' ow' σ' τ' M' → SV σ' → G X n lv (.int (iZ v) :: rest) M' s9 (cs + 1) (ss + 6)) : G X pc lv (.int (iZ y) :: .ref h :: rest) M sz cs ss := by
  refine g_cV1 (c2 := cs + 1) (s2 := ss + 6) hX (s_X9_easterAnew hst) hat hH.ob hW ⟨rfl, rfl, hc, hs⟩ ?_
  refine ⟨h, A, ow, σ, τ, y, rfl, hH, hV, ry, fun A1 ow1 τ1 M1 s1 hH1 hV1 => ?_⟩
  rw [e] at hH1 hV1 ⊢
  exact Kc_i (kk A1 ow1 τ1 M1 s1 hH1 hV1)
theorem l_weekday {y m d9 : Int} (hX : Cok X d) (hst : X.1.2.1.stackTraces = false) (hat : AtV d pc mX9_weekday 3 9 n) (hH : HX X.2.2.2.2.2.2.2.2.2 h A ow σ τ M) (hV : SV σ) (ry : inR y) (rm : inR m) (rd9 : inR d9) (e : oc_weekday σ y m d9 = (0, v, σ')) (hc : cs + 3 ≤ d.2.2.2.2.1.cells) (hs : ss + 18 ≤ d.2.2.2.2.1.slots) (hW : (rest.map fun v => v.category).sum ≤ 8) (kk : ∀ (A' : Nat → Nat → Nat) (ow' : Nat → Nat × Nat) (τ' : Nat → Nat → Int) (M' : hM) (s9 : Nat), HX X.2.2.2.2.2.2.2.2.2 h A' ow' σ' τ' M' → SV σ' → G X n lv (.int (iZ v) :: rest) M' s9 (cs + 3) (ss + 18)) : G X pc lv (.int (iZ d9) :: .int (iZ m) :: .int (iZ y) :: .ref h :: rest) M sz cs ss := by
  refine g_cV3 (c2 := cs + 3) (s2 := ss + 18) hX (s_X9_weekday hst) hat hH.ob hW ⟨rfl, rfl, hc, hs⟩ ?_
  refine ⟨h, A, ow, σ, τ, y, m, d9, rfl, hH, hV, ry, rm, rd9, fun A1 ow1 τ1 M1 s1 hH1 hV1 => ?_⟩
  rw [e] at hH1 hV1 ⊢
  exact Kc_i (kk A1 ow1 τ1 M1 s1 hH1 hV1)
theorem l_feast {r po m d9 : Int} (hX : Cok X d) (hst : X.1.2.1.stackTraces = false) (hat : AtV d pc mX9_feast 4 9 n) (hH : HX X.2.2.2.2.2.2.2.2.2 h A ow σ τ M) (hV : SV σ) (rr : inR r) (rpo : po = 0 ∨ po = 1) (rm : inR m) (rd9 : inR d9) (e : oc_feast σ r po m d9 = (0, v, σ')) (hc : cs + 9 ≤ d.2.2.2.2.1.cells) (hs : ss + 239 ≤ d.2.2.2.2.1.slots) (hW : (rest.map fun v => v.category).sum ≤ 8) (kk : ∀ (A' : Nat → Nat → Nat) (ow' : Nat → Nat × Nat) (τ' : Nat → Nat → Int) (M' : hM) (s9 : Nat), HX X.2.2.2.2.2.2.2.2.2 h A' ow' σ' τ' M' → SV σ' → G X n lv (.int (iZ v) :: rest) M' s9 (cs + 9) (ss + 239)) : G X pc lv (.int (iZ d9) :: .int (iZ m) :: .int (iZ po) :: .int (iZ r) :: .ref h :: rest) M sz cs ss := by
  refine g_cV4 (c2 := cs + 9) (s2 := ss + 239) hX (s_X9_feast hst) hat hH.ob hW ⟨rfl, rfl, hc, hs⟩ ?_
  refine ⟨h, A, ow, σ, τ, r, po, m, d9, rfl, hH, hV, rr, rpo, rm, rd9, fun A1 ow1 τ1 M1 s1 hH1 hV1 => ?_⟩
  rw [e] at hH1 hV1 ⊢
  exact Kc_i (kk A1 ow1 τ1 M1 s1 hH1 hV1)
theorem l_moving {r po d9 : Int} (hX : Cok X d) (hst : X.1.2.1.stackTraces = false) (hat : AtV d pc mX9_moving 3 9 n) (hH : HX X.2.2.2.2.2.2.2.2.2 h A ow σ τ M) (hV : SV σ) (rr : inR r) (rpo : po = 0 ∨ po = 1) (rd9 : inR d9) (e : oc_moving σ r po d9 = (0, v, σ')) (hc : cs + 7 ≤ d.2.2.2.2.1.cells) (hs : ss + 227 ≤ d.2.2.2.2.1.slots) (hW : (rest.map fun v => v.category).sum ≤ 8) (kk : ∀ (A' : Nat → Nat → Nat) (ow' : Nat → Nat × Nat) (τ' : Nat → Nat → Int) (M' : hM) (s9 : Nat), HX X.2.2.2.2.2.2.2.2.2 h A' ow' σ' τ' M' → SV σ' → G X n lv (.int (iZ v) :: rest) M' s9 (cs + 7) (ss + 227)) : G X pc lv (.int (iZ d9) :: .int (iZ po) :: .int (iZ r) :: .ref h :: rest) M sz cs ss := by
  refine g_cV3 (c2 := cs + 7) (s2 := ss + 227) hX (s_X9_moving hst) hat hH.ob hW ⟨rfl, rfl, hc, hs⟩ ?_
  refine ⟨h, A, ow, σ, τ, r, po, d9, rfl, hH, hV, rr, rpo, rd9, fun A1 ow1 τ1 M1 s1 hH1 hV1 => ?_⟩
  rw [e] at hH1 hV1 ⊢
  exact Kc_i (kk A1 ow1 τ1 M1 s1 hH1 hV1)
theorem l_sundays {r : Int} (hX : Cok X d) (hst : X.1.2.1.stackTraces = false) (hat : AtV d pc mX9_sundays 1 9 n) (hH : HX X.2.2.2.2.2.2.2.2.2 h A ow σ τ M) (hV : SV σ) (rr : inR r) (e : oc_sundays σ r = (0, v, σ')) (hc : cs + 1 ≤ d.2.2.2.2.1.cells) (hs : ss + 6 ≤ d.2.2.2.2.1.slots) (hW : (rest.map fun v => v.category).sum ≤ 8) (kk : ∀ (A' : Nat → Nat → Nat) (ow' : Nat → Nat × Nat) (τ' : Nat → Nat → Int) (M' : hM) (s9 : Nat), HX X.2.2.2.2.2.2.2.2.2 h A' ow' σ' τ' M' → SV σ' → G X n lv (.int (iZ v) :: rest) M' s9 (cs + 1) (ss + 6)) : G X pc lv (.int (iZ r) :: .ref h :: rest) M sz cs ss := by
  refine g_cV1 (c2 := cs + 1) (s2 := ss + 6) hX (s_X9_sundays hst) hat hH.ob hW ⟨rfl, rfl, hc, hs⟩ ?_
  refine ⟨h, A, ow, σ, τ, r, rfl, hH, hV, rr, fun A1 ow1 τ1 M1 s1 hH1 hV1 => ?_⟩
  rw [e] at hH1 hV1 ⊢
  exact Kc_i (kk A1 ow1 τ1 M1 s1 hH1 hV1)
theorem l_reading {a b th : Int} (hX : Cok X d) (hst : X.1.2.1.stackTraces = false) (hat : AtV d pc mX9_reading 3 9 n) (hH : HX X.2.2.2.2.2.2.2.2.2 h A ow σ τ M) (hV : SV σ) (ra : inR a) (rb : inR b) (rth : inR th) (e : oc_reading σ a b th = (0, v, σ')) (hc : cs + 3 ≤ d.2.2.2.2.1.cells) (hs : ss + 18 ≤ d.2.2.2.2.1.slots) (hW : (rest.map fun v => v.category).sum ≤ 8) (kk : ∀ (A' : Nat → Nat → Nat) (ow' : Nat → Nat × Nat) (τ' : Nat → Nat → Int) (M' : hM) (s9 : Nat), HX X.2.2.2.2.2.2.2.2.2 h A' ow' σ' τ' M' → SV σ' → G X n lv (.int (iZ v) :: rest) M' s9 (cs + 3) (ss + 18)) : G X pc lv (.int (iZ th) :: .int (iZ b) :: .int (iZ a) :: .ref h :: rest) M sz cs ss := by
  refine g_cV3 (c2 := cs + 3) (s2 := ss + 18) hX (s_X9_reading hst) hat hH.ob hW ⟨rfl, rfl, hc, hs⟩ ?_
  refine ⟨h, A, ow, σ, τ, a, b, th, rfl, hH, hV, ra, rb, rth, fun A1 ow1 τ1 M1 s1 hH1 hV1 => ?_⟩
  rw [e] at hH1 hV1 ⊢
  exact Kc_i (kk A1 ow1 τ1 M1 s1 hH1 hV1)
theorem l_kept {y m d9 : Int} (hX : Cok X d) (hst : X.1.2.1.stackTraces = false) (hat : AtV d pc mX9_kept 3 9 n) (hH : HX X.2.2.2.2.2.2.2.2.2 h A ow σ τ M) (hV : SV σ) (ry : inR y) (rm : inR m) (rd9 : inR d9) (e : oc_kept σ y m d9 = (0, v, σ')) (hc : cs + 3 ≤ d.2.2.2.2.1.cells) (hs : ss + 18 ≤ d.2.2.2.2.1.slots) (hW : (rest.map fun v => v.category).sum ≤ 8) (kk : ∀ (A' : Nat → Nat → Nat) (ow' : Nat → Nat × Nat) (τ' : Nat → Nat → Int) (M' : hM) (s9 : Nat), HX X.2.2.2.2.2.2.2.2.2 h A' ow' σ' τ' M' → SV σ' → G X n lv (.int (iZ v) :: rest) M' s9 (cs + 3) (ss + 18)) : G X pc lv (.int (iZ d9) :: .int (iZ m) :: .int (iZ y) :: .ref h :: rest) M sz cs ss := by
  refine g_cV3 (c2 := cs + 3) (s2 := ss + 18) hX (s_X9_kept hst) hat hH.ob hW ⟨rfl, rfl, hc, hs⟩ ?_
  refine ⟨h, A, ow, σ, τ, y, m, d9, rfl, hH, hV, ry, rm, rd9, fun A1 ow1 τ1 M1 s1 hH1 hV1 => ?_⟩
  rw [e] at hH1 hV1 ⊢
  exact Kc_i (kk A1 ow1 τ1 M1 s1 hH1 hV1)
theorem l_when {a y : Int} (hX : Cok X d) (hst : X.1.2.1.stackTraces = false) (hat : AtV d pc mX9_when 2 9 n) (hH : HX X.2.2.2.2.2.2.2.2.2 h A ow σ τ M) (hV : SV σ) (ra : inR a) (ry : inR y) (e : oc_when σ a y = (0, v, σ')) (hc : cs + 2 ≤ d.2.2.2.2.1.cells) (hs : ss + 12 ≤ d.2.2.2.2.1.slots) (hW : (rest.map fun v => v.category).sum ≤ 8) (kk : ∀ (A' : Nat → Nat → Nat) (ow' : Nat → Nat × Nat) (τ' : Nat → Nat → Int) (M' : hM) (s9 : Nat), HX X.2.2.2.2.2.2.2.2.2 h A' ow' σ' τ' M' → SV σ' → G X n lv (.int (iZ v) :: rest) M' s9 (cs + 2) (ss + 12)) : G X pc lv (.int (iZ y) :: .int (iZ a) :: .ref h :: rest) M sz cs ss := by
  refine g_cV2 (c2 := cs + 2) (s2 := ss + 12) hX (s_X9_when hst) hat hH.ob hW ⟨rfl, rfl, hc, hs⟩ ?_
  refine ⟨h, A, ow, σ, τ, a, y, rfl, hH, hV, ra, ry, fun A1 ow1 τ1 M1 s1 hH1 hV1 => ?_⟩
  rw [e] at hH1 hV1 ⊢
  exact Kc_i (kk A1 ow1 τ1 M1 s1 hH1 hV1)
theorem l_whenAnew {a y : Int} (hX : Cok X d) (hst : X.1.2.1.stackTraces = false) (hat : AtV d pc mX9_whenAnew 2 9 n) (hH : HX X.2.2.2.2.2.2.2.2.2 h A ow σ τ M) (hV : SV σ) (ra : inR a) (ry : inR y) (e : oc_when σ a y = (0, v, σ')) (hc : cs + 2 ≤ d.2.2.2.2.1.cells) (hs : ss + 12 ≤ d.2.2.2.2.1.slots) (hW : (rest.map fun v => v.category).sum ≤ 8) (kk : ∀ (A' : Nat → Nat → Nat) (ow' : Nat → Nat × Nat) (τ' : Nat → Nat → Int) (M' : hM) (s9 : Nat), HX X.2.2.2.2.2.2.2.2.2 h A' ow' σ' τ' M' → SV σ' → G X n lv (.int (iZ v) :: rest) M' s9 (cs + 2) (ss + 12)) : G X pc lv (.int (iZ y) :: .int (iZ a) :: .ref h :: rest) M sz cs ss := by
  refine g_cV2 (c2 := cs + 2) (s2 := ss + 12) hX (s_X9_whenAnew hst) hat hH.ob hW ⟨rfl, rfl, hc, hs⟩ ?_
  refine ⟨h, A, ow, σ, τ, a, y, rfl, hH, hV, ra, ry, fun A1 ow1 τ1 M1 s1 hH1 hV1 => ?_⟩
  rw [e] at hH1 hV1 ⊢
  exact Kc_i (kk A1 ow1 τ1 M1 s1 hH1 hV1)
theorem l_theme {y m d9 : Int} (hX : Cok X d) (hst : X.1.2.1.stackTraces = false) (hat : AtV d pc mX9_theme 3 9 n) (hH : HX X.2.2.2.2.2.2.2.2.2 h A ow σ τ M) (hV : SV σ) (ry : inR y) (rm : inR m) (rd9 : inR d9) (e : oc_theme σ y m d9 = (0, v, σ')) (hc : cs + 3 ≤ d.2.2.2.2.1.cells) (hs : ss + 18 ≤ d.2.2.2.2.1.slots) (hW : (rest.map fun v => v.category).sum ≤ 8) (kk : ∀ (A' : Nat → Nat → Nat) (ow' : Nat → Nat × Nat) (τ' : Nat → Nat → Int) (M' : hM) (s9 : Nat), HX X.2.2.2.2.2.2.2.2.2 h A' ow' σ' τ' M' → SV σ' → G X n lv (.int (iZ v) :: rest) M' s9 (cs + 3) (ss + 18)) : G X pc lv (.int (iZ d9) :: .int (iZ m) :: .int (iZ y) :: .ref h :: rest) M sz cs ss := by
  refine g_cV3 (c2 := cs + 3) (s2 := ss + 18) hX (s_X9_theme hst) hat hH.ob hW ⟨rfl, rfl, hc, hs⟩ ?_
  refine ⟨h, A, ow, σ, τ, y, m, d9, rfl, hH, hV, ry, rm, rd9, fun A1 ow1 τ1 M1 s1 hH1 hV1 => ?_⟩
  rw [e] at hH1 hV1 ⊢
  exact Kc_i (kk A1 ow1 τ1 M1 s1 hH1 hV1)
theorem l_why {a y m d9 : Int} (hX : Cok X d) (hst : X.1.2.1.stackTraces = false) (hat : AtV d pc mX9_why 4 9 n) (hH : HX X.2.2.2.2.2.2.2.2.2 h A ow σ τ M) (hV : SV σ) (ra : inR a) (ry : inR y) (rm : inR m) (rd9 : inR d9) (e : oc_why σ a y m d9 = (0, v, σ')) (hc : cs + 5 ≤ d.2.2.2.2.1.cells) (hs : ss + 30 ≤ d.2.2.2.2.1.slots) (hW : (rest.map fun v => v.category).sum ≤ 8) (kk : ∀ (A' : Nat → Nat → Nat) (ow' : Nat → Nat × Nat) (τ' : Nat → Nat → Int) (M' : hM) (s9 : Nat), HX X.2.2.2.2.2.2.2.2.2 h A' ow' σ' τ' M' → SV σ' → G X n lv (.int (iZ v) :: rest) M' s9 (cs + 5) (ss + 30)) : G X pc lv (.int (iZ d9) :: .int (iZ m) :: .int (iZ y) :: .int (iZ a) :: .ref h :: rest) M sz cs ss := by
  refine g_cV4 (c2 := cs + 5) (s2 := ss + 30) hX (s_X9_why hst) hat hH.ob hW ⟨rfl, rfl, hc, hs⟩ ?_
  refine ⟨h, A, ow, σ, τ, a, y, m, d9, rfl, hH, hV, ra, ry, rm, rd9, fun A1 ow1 τ1 M1 s1 hH1 hV1 => ?_⟩
  rw [e] at hH1 hV1 ⊢
  exact Kc_i (kk A1 ow1 τ1 M1 s1 hH1 hV1)
theorem l_sing {y m d9 : Int} (hX : Cok X d) (hst : X.1.2.1.stackTraces = false) (hat : AtV d pc mX9_sing 3 9 n) (hH : HX X.2.2.2.2.2.2.2.2.2 h A ow σ τ M) (hV : SV σ) (ry : inR y) (rm : inR m) (rd9 : inR d9) (e : oc_sing σ y m d9 = (0, v, σ')) (hc : cs + 8 ≤ d.2.2.2.2.1.cells) (hs : ss + 241 ≤ d.2.2.2.2.1.slots) (hW : (rest.map fun v => v.category).sum ≤ 8) (kk : ∀ (A' : Nat → Nat → Nat) (ow' : Nat → Nat × Nat) (τ' : Nat → Nat → Int) (M' : hM) (s9 : Nat), HX X.2.2.2.2.2.2.2.2.2 h A' ow' σ' τ' M' → SV σ' → G X n lv (.int (iZ v) :: rest) M' s9 (cs + 8) (ss + 241)) : G X pc lv (.int (iZ d9) :: .int (iZ m) :: .int (iZ y) :: .ref h :: rest) M sz cs ss := by
  refine g_cV3 (c2 := cs + 8) (s2 := ss + 241) hX (s_X9_sing hst) hat hH.ob hW ⟨rfl, rfl, hc, hs⟩ ?_
  refine ⟨h, A, ow, σ, τ, y, m, d9, rfl, hH, hV, ry, rm, rd9, fun A1 ow1 τ1 M1 s1 hH1 hV1 => ?_⟩
  rw [e] at hH1 hV1 ⊢
  exact Kc_i (kk A1 ow1 τ1 M1 s1 hH1 hV1)
theorem l_service {a b : Int} (hX : Cok X d) (hst : X.1.2.1.stackTraces = false) (hat : AtV d pc mX9_service 2 9 n) (hH : HX X.2.2.2.2.2.2.2.2.2 h A ow σ τ M) (hV : SV σ) (ra : inR a) (rb : inR b) (e : oc_service σ a b = (0, v, σ')) (hc : cs + 2 ≤ d.2.2.2.2.1.cells) (hs : ss + 12 ≤ d.2.2.2.2.1.slots) (hW : (rest.map fun v => v.category).sum ≤ 8) (kk : ∀ (A' : Nat → Nat → Nat) (ow' : Nat → Nat × Nat) (τ' : Nat → Nat → Int) (M' : hM) (s9 : Nat), HX X.2.2.2.2.2.2.2.2.2 h A' ow' σ' τ' M' → SV σ' → G X n lv (.int (iZ v) :: rest) M' s9 (cs + 2) (ss + 12)) : G X pc lv (.int (iZ b) :: .int (iZ a) :: .ref h :: rest) M sz cs ss := by
  refine g_cV2 (c2 := cs + 2) (s2 := ss + 12) hX (s_X9_service hst) hat hH.ob hW ⟨rfl, rfl, hc, hs⟩ ?_
  refine ⟨h, A, ow, σ, τ, a, b, rfl, hH, hV, ra, rb, fun A1 ow1 τ1 M1 s1 hH1 hV1 => ?_⟩
  rw [e] at hH1 hV1 ⊢
  exact Kc_i (kk A1 ow1 τ1 M1 s1 hH1 hV1)
theorem l_sung {a : Int} (hX : Cok X d) (hst : X.1.2.1.stackTraces = false) (hat : AtV d pc mX9_sung 1 9 n) (hH : HX X.2.2.2.2.2.2.2.2.2 h A ow σ τ M) (hV : SV σ) (ra : inR a) (e : oc_sung σ a = (0, v, σ')) (hc : cs + 1 ≤ d.2.2.2.2.1.cells) (hs : ss + 6 ≤ d.2.2.2.2.1.slots) (hW : (rest.map fun v => v.category).sum ≤ 8) (kk : ∀ (A' : Nat → Nat → Nat) (ow' : Nat → Nat × Nat) (τ' : Nat → Nat → Int) (M' : hM) (s9 : Nat), HX X.2.2.2.2.2.2.2.2.2 h A' ow' σ' τ' M' → SV σ' → G X n lv (.int (iZ v) :: rest) M' s9 (cs + 1) (ss + 6)) : G X pc lv (.int (iZ a) :: .ref h :: rest) M sz cs ss := by
  refine g_cV1 (c2 := cs + 1) (s2 := ss + 6) hX (s_X9_sung hst) hat hH.ob hW ⟨rfl, rfl, hc, hs⟩ ?_
  refine ⟨h, A, ow, σ, τ, a, rfl, hH, hV, ra, fun A1 ow1 τ1 M1 s1 hH1 hV1 => ?_⟩
  rw [e] at hH1 hV1 ⊢
  exact Kc_i (kk A1 ow1 τ1 M1 s1 hH1 hV1)
theorem l_new {n1 n2 : Nat} (hX : Cok X d) (hst : X.1.2.1.stackTraces = false) (h0 : AtN d pc 9 [.null, .null, .null, .null, .null, .null, .int 0] n1) (h1 : At d n1 .dup 1 n2) (h2 : AtNI d n2 mX9_init 0 n) (hc : cs + 10 ≤ d.2.2.2.2.1.cells) (hs : ss + 414 ≤ d.2.2.2.2.1.slots) (kk : ∀ (h : Nat) (A : Nat → Nat → Nat) (ow : Nat → Nat × Nat) (τ : Nat → Nat → Int) (M' : hM) (s9 : Nat), HX X.2.2.2.2.2.2.2.2.2 h A ow σ0 τ M' → SV σ0 → G X n lv [.ref h] M' s9 (cs + 10) (ss + 414)) : G X pc lv [] (fun _ => none) sz cs ss := by
  refine o_new (N := 7) hX h0 rfl (by omega) (by omega) (fun M1 hs1 hn1 => ?_)
  refine g_dup hX h1 rfl ?_
  refine g_cI0 (c2 := cs + 10) (s2 := ss + 414) hX (s_X9_init hst) h2 (by simp [Value.category]) ⟨(show cs + 1 + 9 = cs + 10 by omega), (show ss + 7 + 407 = ss + 414 by omega), hc, hs⟩ ?_
  refine ⟨sz, _, _, _, _, _, _, _, rfl, hs1, fun C h0 l0 r4 r5 p6 p7 p8 => Kc_v ?_⟩
  refine g_dom hX (fun hdom => ?_)
  have haD : C X.2.2.2.2.2.2.2.2.2 = none := by
    cases hq : C X.2.2.2.2.2.2.2.2.2 with
    | none => rfl
    | some x => have := (hdom _ x hq).2; have := hX.aD; omega
  exact kk _ _ _ _ _ _ (hx_0 (h := sz) (sz := sz + 1) (by omega) haD h0 l0 r4 r5 p6 p7 p8) SV_0
end Y2
