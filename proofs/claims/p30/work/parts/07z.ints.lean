/-! ints by their values -/
abbrev iZ (z : Int) : Int32 := Int32.ofInt z
def inR (z : Int) : Prop := -2147483648 ≤ z ∧ z ≤ 2147483647
theorem zt {z : Int} (h : inR z) : (iZ z).toInt = z := by
  unfold inR at h
  rw [Int32.toInt_ofInt]
  have hs : (Int32.size : Int) = 4294967296 := rfl
  exact Int.bmod_eq_of_le (by omega) (by omega)
theorem z_rng (x : Int32) : inR x.toInt := by
  have h1 := x.toInt_lt
  have h2 := x.le_toInt
  unfold inR
  omega
theorem z_of (x : Int32) : ∃ z : Int, inR z ∧ x = iZ z := ⟨x.toInt, z_rng x, (Int32.ofInt_toInt x).symm⟩
theorem z_add (a b : Int) : iZ a + iZ b = iZ (a + b) := (Int32.ofInt_add a b).symm
theorem z_sub (a b : Int) : iZ a - iZ b = iZ (a - b) := (Int32.ofInt_sub a b).symm
theorem z_mul (a b : Int) : iZ a * iZ b = iZ (a * b) := (Int32.ofInt_mul a b).symm
theorem z_lt {a b : Int} (ha : inR a) (hb : inR b) : iZ a < iZ b ↔ a < b := by rw [Int32.lt_iff_toInt_lt, zt ha, zt hb]
theorem z_le {a b : Int} (ha : inR a) (hb : inR b) : iZ a ≤ iZ b ↔ a ≤ b := by rw [Int32.le_iff_toInt_le, zt ha, zt hb]
theorem z_eq {a b : Int} (ha : inR a) (hb : inR b) : iZ a = iZ b ↔ a = b := by rw [← Int32.toInt_inj, zt ha, zt hb]
theorem z_0 : (0 : Int32) = iZ 0 := by decide
theorem inR0 : inR 0 := by unfold inR; omega
theorem z_div {a b : Int} (ha : inR a) (hb : inR b) (h : 0 ≤ a) (h2 : 0 < b) : iZ a / iZ b = iZ (a / b) := by
  have h3 : 0 ≤ a / b := Int.ediv_nonneg h (Int.le_of_lt h2)
  have h4 : a / b ≤ a := Int.ediv_le_self b h
  have hr : inR (a / b) := by unfold inR at *; omega
  rw [← Int32.toInt_inj, Int32.toInt_div, zt ha, zt hb, zt hr, Int.tdiv_eq_ediv_of_nonneg h]
  unfold inR at hr
  exact Int.bmod_eq_of_le (by omega) (by omega)
theorem z_rem {a b : Int} (ha : inR a) (hb : inR b) (h : 0 ≤ a) (h2 : 0 < b) : iZ a - iZ a / iZ b * iZ b = iZ (a % b) := by
  have h3 : 0 ≤ a % b := Int.emod_nonneg a (by omega)
  have h4 : a % b < b := Int.emod_lt_of_pos a h2
  have hr : inR (a % b) := by unfold inR at *; omega
  rw [z_div ha hb h h2, z_mul, z_sub]
  congr 1
  have := Int.mul_ediv_add_emod a b
  rw [Int.mul_comm] at this
  omega
theorem z_cl {a : Int} (ha : inR a) : (iZ a).toNatClampNeg = a.toNat := by
  show (iZ a).toInt.toNat = a.toNat
  rw [zt ha]
theorem z_in {a : Int} {len : Nat} (h0 : 0 ≤ a) (h1 : a < len) (hl : len < 100000) : vp_in (iZ a) len := by
  have ha : inR a := by unfold inR; omega
  refine vp_in_iff.mpr ?_
  rw [zt ha]
  exact ⟨h0, h1⟩
theorem z_n (n : Nat) : Int32.ofNat n = iZ (n : Int) := rfl
def bZ (c : Prop) [Decidable c] : Int := if c then 1 else 0
theorem bZ_t {c : Prop} [Decidable c] (h : c) : bZ c = 1 := if_pos h
theorem bZ_f {c : Prop} [Decidable c] (h : ¬ c) : bZ c = 0 := if_neg h
theorem bZ_r (c : Prop) [Decidable c] : inR (bZ c) := by unfold bZ inR; split <;> omega
theorem bZ_01 (c : Prop) [Decidable c] : bZ c = 0 ∨ bZ c = 1 := by unfold bZ; split <;> simp
theorem bZ_iff {a b : Prop} [Decidable a] [Decidable b] (h : a ↔ b) : bZ a = bZ b := by
  unfold bZ
  by_cases hb : b
  · rw [if_pos hb, if_pos (h.mpr hb)]
  · rw [if_neg hb, if_neg (fun ha => hb (h.mp ha))]
theorem z_band (a b : Prop) [Decidable a] [Decidable b] : iZ (bZ a) &&& iZ (bZ b) = iZ (bZ (a ∧ b)) := by
  by_cases ha : a <;> by_cases hb : b <;> simp [bZ, ha, hb] <;> decide
theorem z_bor (a b : Prop) [Decidable a] [Decidable b] : iZ (bZ a) ||| iZ (bZ b) = iZ (bZ (a ∨ b)) := by
  by_cases ha : a <;> by_cases hb : b <;> simp [bZ, ha, hb] <;> decide
theorem nar_b (c : Prop) [Decidable c] : narrow .boolean (.int (iZ (bZ c))) = .int (iZ (bZ c)) := by
  by_cases h : c <;> simp [bZ, h] <;> rfl
theorem fit_b (c : Prop) [Decidable c] : fits .boolean (.int (iZ (bZ c))) = true := by
  by_cases h : c <;> simp [bZ, h] <;> rfl
theorem nar_01 {z : Int} (h : z = 0 ∨ z = 1) : narrow .boolean (.int (iZ z)) = .int (iZ z) := by
  rcases h with rfl | rfl <;> rfl
theorem fit_01 {z : Int} (h : z = 0 ∨ z = 1) : fits .boolean (.int (iZ z)) = true := by
  rcases h with rfl | rfl <;> rfl
theorem vn_01 {z : Int} (h : z = 0 ∨ z = 1) : vp_nar .boolean (iZ z) = iZ z := by
  rcases h with rfl | rfl <;> rfl
section R4
variable {X : hX} {d : hD} {pc n t i a9 : Nat} {lv st : List Value} {M : hM} {sz cs ss : Nat} {a b : Int}
theorem z_iadd (hX : Cok X d) (h : At d pc .iadd 1 n) (k : G X n lv (.int (iZ (a + b)) :: st) M sz cs ss) : G X pc lv (.int (iZ b) :: .int (iZ a) :: st) M sz cs ss := g_iadd hX h (by rw [z_add]; exact k)
theorem z_isub (hX : Cok X d) (h : At d pc .isub 1 n) (k : G X n lv (.int (iZ (a - b)) :: st) M sz cs ss) : G X pc lv (.int (iZ b) :: .int (iZ a) :: st) M sz cs ss := g_isub hX h (by rw [z_sub]; exact k)
theorem z_imul (hX : Cok X d) (h : At d pc .imul 1 n) (k : G X n lv (.int (iZ (a * b)) :: st) M sz cs ss) : G X pc lv (.int (iZ b) :: .int (iZ a) :: st) M sz cs ss := g_imul hX h (by rw [z_mul]; exact k)
theorem z_idiv (hX : Cok X d) (h : At d pc .idiv 1 n) (ha : inR a) (hb : inR b) (h0 : 0 ≤ a) (h2 : 0 < b) (k : G X n lv (.int (iZ (a / b)) :: st) M sz cs ss) : G X pc lv (.int (iZ b) :: .int (iZ a) :: st) M sz cs ss := g_idiv hX h (fun e => by rw [z_0, z_eq hb inR0] at e; omega) (by rw [z_div ha hb h0 h2]; exact k)
theorem z_irem (hX : Cok X d) (h : At d pc .irem 1 n) (ha : inR a) (hb : inR b) (h0 : 0 ≤ a) (h2 : 0 < b) (k : G X n lv (.int (iZ (a % b)) :: st) M sz cs ss) : G X pc lv (.int (iZ b) :: .int (iZ a) :: st) M sz cs ss := g_irem hX h (fun e => by rw [z_0, z_eq hb inR0] at e; omega) (by rw [z_rem ha hb h0 h2]; exact k)
theorem z_iinc (hX : Cok X d) (h : AtInc d pc i (iZ b) n) (hv : lv[i]? = some (.int (iZ a))) (k : G X n (lv.set i (.int (iZ (a + b)))) st M sz cs ss) : G X pc lv st M sz cs ss := g_iinc hX h hv (by rw [z_add]; exact k)
theorem z_iband {p q : Prop} [Decidable p] [Decidable q] (hX : Cok X d) (h : At d pc .iand 1 n) (k : G X n lv (.int (iZ (bZ (p ∧ q))) :: st) M sz cs ss) : G X pc lv (.int (iZ (bZ q)) :: .int (iZ (bZ p)) :: st) M sz cs ss := g_iand hX h (by rw [z_band]; exact k)
theorem z_ibor {p q : Prop} [Decidable p] [Decidable q] (hX : Cok X d) (h : At d pc .ior 1 n) (k : G X n lv (.int (iZ (bZ (p ∨ q))) :: st) M sz cs ss) : G X pc lv (.int (iZ (bZ q)) :: .int (iZ (bZ p)) :: st) M sz cs ss := g_ior hX h (by rw [z_bor]; exact k)
theorem z_icmp_eq (hX : Cok X d) (h : AtJ d pc (.if_icmp .eq) n t) (ha : inR a) (hb : inR b) (kt : a = b → G X t lv st M sz cs ss) (kf : a ≠ b → G X n lv st M sz cs ss) : G X pc lv (.int (iZ b) :: .int (iZ a) :: st) M sz cs ss := g_icmp_eq hX h (fun q => kt ((z_eq ha hb).mp q)) (fun q => kf (fun e => q ((z_eq ha hb).mpr e)))
theorem z_if_eq (hX : Cok X d) (h : AtJ d pc (.ifCond .eq) n t) (ha : inR a) (kt : a = 0 → G X t lv st M sz cs ss) (kf : a ≠ 0 → G X n lv st M sz cs ss) : G X pc lv (.int (iZ a) :: st) M sz cs ss := g_if_eq hX h (fun q => by rw [z_0] at q; exact kt ((z_eq ha inR0).mp q)) (fun q => by rw [z_0] at q; exact kf (fun e => q ((z_eq ha inR0).mpr e)))
theorem z_icmp_ne (hX : Cok X d) (h : AtJ d pc (.if_icmp .ne) n t) (ha : inR a) (hb : inR b) (kt : a ≠ b → G X t lv st M sz cs ss) (kf : a = b → G X n lv st M sz cs ss) : G X pc lv (.int (iZ b) :: .int (iZ a) :: st) M sz cs ss := g_icmp_ne hX h (fun q => kt (fun e => q ((z_eq ha hb).mpr e))) (fun q => kf ((z_eq ha hb).mp q))
theorem z_if_ne (hX : Cok X d) (h : AtJ d pc (.ifCond .ne) n t) (ha : inR a) (kt : a ≠ 0 → G X t lv st M sz cs ss) (kf : a = 0 → G X n lv st M sz cs ss) : G X pc lv (.int (iZ a) :: st) M sz cs ss := g_if_ne hX h (fun q => by rw [z_0] at q; exact kt (fun e => q ((z_eq ha inR0).mpr e))) (fun q => by rw [z_0] at q; exact kf ((z_eq ha inR0).mp q))
theorem z_icmp_lt (hX : Cok X d) (h : AtJ d pc (.if_icmp .lt) n t) (ha : inR a) (hb : inR b) (kt : a < b → G X t lv st M sz cs ss) (kf : b ≤ a → G X n lv st M sz cs ss) : G X pc lv (.int (iZ b) :: .int (iZ a) :: st) M sz cs ss := g_icmp_lt hX h (fun q => kt ((z_lt ha hb).mp q)) (fun q => kf (by rw [z_lt ha hb] at q; omega))
theorem z_if_lt (hX : Cok X d) (h : AtJ d pc (.ifCond .lt) n t) (ha : inR a) (kt : a < 0 → G X t lv st M sz cs ss) (kf : 0 ≤ a → G X n lv st M sz cs ss) : G X pc lv (.int (iZ a) :: st) M sz cs ss := g_if_lt hX h (fun q => by rw [z_0] at q; exact kt ((z_lt ha inR0).mp q)) (fun q => by rw [z_0] at q; exact kf (by rw [z_lt ha inR0] at q; omega))
theorem z_icmp_ge (hX : Cok X d) (h : AtJ d pc (.if_icmp .ge) n t) (ha : inR a) (hb : inR b) (kt : b ≤ a → G X t lv st M sz cs ss) (kf : a < b → G X n lv st M sz cs ss) : G X pc lv (.int (iZ b) :: .int (iZ a) :: st) M sz cs ss := g_icmp_ge hX h (fun q => kt ((z_le hb ha).mp q)) (fun q => kf (by rw [z_le hb ha] at q; omega))
theorem z_if_ge (hX : Cok X d) (h : AtJ d pc (.ifCond .ge) n t) (ha : inR a) (kt : 0 ≤ a → G X t lv st M sz cs ss) (kf : a < 0 → G X n lv st M sz cs ss) : G X pc lv (.int (iZ a) :: st) M sz cs ss := g_if_ge hX h (fun q => by rw [z_0] at q; exact kt ((z_le inR0 ha).mp q)) (fun q => by rw [z_0] at q; exact kf (by rw [z_le inR0 ha] at q; omega))
theorem z_icmp_gt (hX : Cok X d) (h : AtJ d pc (.if_icmp .gt) n t) (ha : inR a) (hb : inR b) (kt : b < a → G X t lv st M sz cs ss) (kf : a ≤ b → G X n lv st M sz cs ss) : G X pc lv (.int (iZ b) :: .int (iZ a) :: st) M sz cs ss := g_icmp_gt hX h (fun q => kt ((z_lt hb ha).mp q)) (fun q => kf (by rw [z_lt hb ha] at q; omega))
theorem z_if_gt (hX : Cok X d) (h : AtJ d pc (.ifCond .gt) n t) (ha : inR a) (kt : 0 < a → G X t lv st M sz cs ss) (kf : a ≤ 0 → G X n lv st M sz cs ss) : G X pc lv (.int (iZ a) :: st) M sz cs ss := g_if_gt hX h (fun q => by rw [z_0] at q; exact kt ((z_lt inR0 ha).mp q)) (fun q => by rw [z_0] at q; exact kf (by rw [z_lt inR0 ha] at q; omega))
theorem z_icmp_le (hX : Cok X d) (h : AtJ d pc (.if_icmp .le) n t) (ha : inR a) (hb : inR b) (kt : a ≤ b → G X t lv st M sz cs ss) (kf : b < a → G X n lv st M sz cs ss) : G X pc lv (.int (iZ b) :: .int (iZ a) :: st) M sz cs ss := g_icmp_le hX h (fun q => kt ((z_le ha hb).mp q)) (fun q => kf (by rw [z_le ha hb] at q; omega))
theorem z_if_le (hX : Cok X d) (h : AtJ d pc (.ifCond .le) n t) (ha : inR a) (kt : a ≤ 0 → G X t lv st M sz cs ss) (kf : 0 < a → G X n lv st M sz cs ss) : G X pc lv (.int (iZ a) :: st) M sz cs ss := g_if_le hX h (fun q => by rw [z_0] at q; exact kt ((z_le ha inR0).mp q)) (fun q => by rw [z_0] at q; exact kf (by rw [z_le ha inR0] at q; omega))
theorem z_ifb_ne {c : Prop} [Decidable c] (hX : Cok X d) (h : AtJ d pc (.ifCond .ne) n t) (kt : c → G X t lv st M sz cs ss) (kf : ¬ c → G X n lv st M sz cs ss) : G X pc lv (.int (iZ (bZ c)) :: st) M sz cs ss := by
  by_cases hc : c
  · exact z_if_ne hX h (bZ_r c) (fun _ => kt hc) (fun q => by rw [bZ_t hc] at q; omega)
  · exact z_if_ne hX h (bZ_r c) (fun q => absurd (bZ_f hc) q) (fun _ => kf hc)
theorem z_ifb_eq {c : Prop} [Decidable c] (hX : Cok X d) (h : AtJ d pc (.ifCond .eq) n t) (kt : ¬ c → G X t lv st M sz cs ss) (kf : c → G X n lv st M sz cs ss) : G X pc lv (.int (iZ (bZ c)) :: st) M sz cs ss := by
  by_cases hc : c
  · exact z_if_eq hX h (bZ_r c) (fun q => by rw [bZ_t hc] at q; omega) (fun _ => kf hc)
  · exact z_if_eq hX h (bZ_r c) (fun _ => kt hc) (fun q => absurd (bZ_f hc) q)
theorem z_iald {len : Nat} {f : Nat → Int32} (hX : Cok X d) (h : At d pc .iaload 1 n) (hm : M a9 = some (.inr (0, len, .inl f))) (h0 : 0 ≤ a) (h1 : a < len) (hl : len < 100000) (hv : f a.toNat = iZ b) (kk : G X n lv (.int (iZ b) :: st) M sz cs ss) : G X pc lv (.int (iZ a) :: .ref a9 :: st) M sz cs ss := by
  refine g_iald hX h hm (z_in h0 h1 hl) ?_
  rw [z_cl (by unfold inR; omega), hv]
  exact kk
theorem z_aald {len : Nat} {f : Nat → Option Nat} {r : Option Nat} (hX : Cok X d) (h : At d pc .aaload 1 n) (hm : M a9 = some (.inr (3, len, .inr (.inr f)))) (h0 : 0 ≤ a) (h1 : a < len) (hl : len < 100000) (hv : f a.toNat = r) (kk : G X n lv (va_rf r :: st) M sz cs ss) : G X pc lv (.int (iZ a) :: .ref a9 :: st) M sz cs ss := by
  refine g_aald hX h hm (z_in h0 h1 hl) ?_
  rw [z_cl (by unfold inR; omega), hv]
  exact kk
theorem z_iast {len : Nat} {f : Nat → Int32} (hX : Cok X d) (h : At d pc .iastore 1 n) (hm : M a9 = some (.inr (0, len, .inl f))) (h0 : 0 ≤ a) (h1 : a < len) (hl : len < 100000) (kk : G X n lv st (hup M a9 (.inr (0, len, .inl (upd f a.toNat (iZ b))))) sz cs ss) : G X pc lv (.int (iZ b) :: .int (iZ a) :: .ref a9 :: st) M sz cs ss := by
  refine g_iast hX h hm (z_in h0 h1 hl) ?_
  rw [z_cl (by unfold inR; omega)]
  exact kk
theorem z_alen {x : Nat × ((Nat → Int32) ⊕ ((Nat → Int64) ⊕ (Nat → Option Nat)))} {k9 : Nat} (hX : Cok X d) (h : At d pc .arraylength 1 n) (hm : M a9 = some (.inr (k9, x))) (hk9 : k9 < 4) (kk : G X n lv (.int (iZ (x.1 : Int)) :: st) M sz cs ss) : G X pc lv (.ref a9 :: st) M sz cs ss := g_alen hX h hm hk9 kk
def fMz (k : Nat) : Int := ([0, 31, 59, 90, 120, 151, 181, 212, 243, 273, 304, 334] : List Int).getD k 0
theorem fM_z (k : Nat) : fM k = iZ (fMz k) := by
  rcases Nat.lt_or_ge k 12 with h | h
  · revert k
    decide
  · unfold fM fMz
    rw [List.getD_eq_getElem?_getD, List.getD_eq_getElem?_getD, List.getElem?_eq_none (by simpa using h), List.getElem?_eq_none (by simpa using h)]
    rfl
theorem z_ialdM (hX : Cok X d) (h : At d pc .iaload 1 n) (h0 : 0 ≤ a) (h1 : a < 12) (kk : G X n lv (.int (iZ (fMz a.toNat)) :: st) M sz cs ss) : G X pc lv (.int (iZ a) :: .ref X.2.2.2.2.2.2.2.2.1 :: st) M sz cs ss := by
  refine g_ialdM hX h (z_in h0 h1 (by decide)) ?_
  rw [z_cl (by unfold inR; omega), fM_z]
  exact kk
end R4
