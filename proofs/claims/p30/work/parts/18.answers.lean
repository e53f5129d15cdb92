/-! what is answered, of the state's numbers. 0..3 how many; 4 Sundays' rank; 10..15 texts; 20..26 tunes; 30..35 feasts; 40..43 services -/
theorem nx_xor (a b : Nat) : nI a ^^^ nI b = nI (a ^^^ b) := by
  apply Int32.toBitVec_inj.1
  show BitVec.ofNat 32 a ^^^ BitVec.ofNat 32 b = BitVec.ofNat 32 (a ^^^ b)
  apply BitVec.eq_of_getLsbD_eq
  intro i hi
  simp [hi]
theorem z_xor {a b : Int} (ha : 0 ≤ a) (hb : 0 ≤ b) : iZ a ^^^ iZ b = iZ (((a.toNat ^^^ b.toNat : Nat) : Int)) := by
  have h := nx_xor a.toNat b.toNat
  have e1 : nI a.toNat = iZ a := by rw [show nI a.toNat = iZ ((a.toNat : Nat) : Int) from rfl, Int.toNat_of_nonneg ha]
  have e2 : nI b.toNat = iZ b := by rw [show nI b.toNat = iZ ((b.toNat : Nat) : Int) from rfl, Int.toNat_of_nonneg hb]
  rw [e1, e2] at h
  exact h
theorem xor_r {a b : Nat} (ha : a < 4096) (hb : b < 4096) : a ^^^ b < 4096 := Nat.xor_lt_two_pow (n := 12) ha hb
theorem popK_r (m : Nat) : ∀ k, popK m k ≤ k
  | 0 => Nat.le_refl 0
  | k + 1 => by
    have h := popK_r m k
    have h2 := Nat.mod_lt (m / 2 ^ k) (show 0 < 2 by decide)
    show popK m k + m / 2 ^ k % 2 ≤ k + 1
    omega
def wrp (n k : Nat) : Nat := if k < n then k else k - n
def fitZ (σ : SG) (t u : Nat) : Int :=
  if ¬ 0 < σ 24 u 0 then 0
  else if σ 13 t 0 = σ 24 u 0 ∧ (∀ k : Nat, k < (σ 24 u 0).toNat → σ 14 t k = σ 25 u k) then 1
  else if σ 13 t 0 = 2 * σ 24 u 0 ∧ (∀ k : Nat, k < (σ 24 u 0).toNat → σ 14 t k = σ 25 u k ∧ σ 14 t (k + (σ 24 u 0).toNat) = σ 25 u k) then 2 else 0
def popX (σ : SG) (t u k : Nat) : Nat := popN ((σ 15 t k).toNat ^^^ (σ 26 u (wrp (σ 24 u 0).toNat k)).toNat)
def clK (σ : SG) (t u : Nat) : Nat → Int
  | 0 => 0
  | k + 1 => clK σ t u k + (popX σ t u k : Int)
def clZ (σ : SG) (t u : Nat) : Int := clK σ t u (σ 13 t 0).toNat
abbrev freeU (σ : SG) (u : Nat) (y : Int) : Prop := σ 23 u 0 = 1 ∨ σ 20 u 0 + 70 < y
abbrev freeT (σ : SG) (t : Nat) (y : Int) : Prop := σ 12 t 0 = 1 ∨ σ 10 t 0 + 70 < y
def bstK (σ : SG) (t : Nat) (of y : Int) : Nat → Int
  | 0 => -100
  | u + 1 => if (of = 0 ∨ freeU σ u y) ∧ fitZ σ t u ≠ 0 ∧ (bstK σ t of y u = -100 ∨ clZ σ t u < clZ σ t (bstK σ t of y u).toNat) then (u : Int) else bstK σ t of y u
def bstZ (σ : SG) (t : Nat) (of y : Int) : Int := bstK σ t of y (σ 1 0 0).toNat
abbrev alkZ (σ : SG) (a b : Nat) : Prop := σ 24 a 0 = σ 24 b 0 ∧ ∀ k : Nat, k < (σ 24 b 0).toNat → σ 25 a k = σ 25 b k
def alkK (σ : SG) (u : Nat) : Nat → Int
  | 0 => 0
  | a + 1 => alkK σ u a + bZ (alkZ σ a u)
abbrev fstM (σ : SG) (u : Nat) : Prop := ∀ m : Nat, m < u → ¬ alkZ σ m u
def metK (σ : SG) : Nat → Int
  | 0 => 0
  | u + 1 => metK σ u + bZ (fstM σ u)
def FF (σ : SG) : Nat → Nat → Int := fun c i => σ (30 + c) i 0
def layZ (σ : SG) (y : Int) : LY := lyR (FF σ) y (σ 4 0 0) (σ 2 0 0).toNat 9
def keptZ (σ : SG) (y : Int) (p : Nat) : Int := keptS y (layZ σ y) p
def thZ (σ : SG) (y : Int) (p : Nat) : Int := if keptZ σ y p = -100 then -100 else if keptZ σ y p = -2 then σ 35 20 (y % 3).toNat else σ 35 (keptZ σ y p).toNat (y % 3).toNat
abbrev latP (σ : SG) (t : Nat) (d : Int) (i : Nat) : Prop := σ 40 i 0 = (t : Int) ∧ 0 ≤ d - dnumZ (σ 42 i 0) (σ 43 i 0) ∧ d - dnumZ (σ 42 i 0) (σ 43 i 0) ≤ 28
abbrev latZ (σ : SG) (t : Nat) (d : Int) : Prop := ¬ ∀ i : Nat, i < (σ 3 0 0).toNat → ¬ latP σ t d i
def timK (σ : SG) (t : Nat) : Nat → Int
  | 0 => 0
  | i + 1 => timK σ t i + bZ (σ 40 i 0 = (t : Int))
def timZ (σ : SG) (t : Nat) : Int := timK σ t (σ 3 0 0).toNat
def reaZ (σ : SG) (t : Nat) (th y d : Int) : Int := if ¬ thmP (σ 11 t 0) th then 1 else if ¬ freeT σ t y then 2 else if bstZ σ t 1 y = -100 then 3 else if latZ σ t d then 4 else 0
def hymK (σ : SG) (th y d : Int) : Nat → Int
  | 0 => -100
  | t + 1 => if reaZ σ t th y d = 0 ∧ (hymK σ th y d t = -100 ∨ timZ σ (hymK σ th y d t).toNat < timZ σ t ∨ (timZ σ t = timZ σ (hymK σ th y d t).toNat ∧ clZ σ t (bstZ σ t 1 y).toNat < clZ σ (hymK σ th y d t).toNat (bstZ σ (hymK σ th y d t).toNat 1 y).toNat)) then (t : Int) else hymK σ th y d t
def hymZ (σ : SG) (th y d : Int) : Int := hymK σ th y d (σ 0 0 0).toNat
abbrev latrZ (σ : SG) (d : Int) : Prop := σ 3 0 0 = 0 ∨ dnumZ (σ 42 ((σ 3 0 0).toNat - 1) 0) (σ 43 ((σ 3 0 0).toNat - 1) 0) < d
/-- what the state's numbers keep -/
def SVn (σ : SG) : Prop := (0 ≤ σ 0 0 0 ∧ σ 0 0 0 ≤ 12) ∧ (0 ≤ σ 1 0 0 ∧ σ 1 0 0 ≤ 12) ∧ (0 ≤ σ 2 0 0 ∧ σ 2 0 0 ≤ 20) ∧ (0 ≤ σ 3 0 0 ∧ σ 3 0 0 ≤ 60) ∧ (0 ≤ σ 4 0 0 ∧ σ 4 0 0 ≤ 9)
def SVt (σ : SG) : Prop := ∀ i : Nat, (0 ≤ σ 10 i 0 ∧ σ 10 i 0 ≤ 2399) ∧ (0 ≤ σ 11 i 0 ∧ σ 11 i 0 ≤ 65535) ∧ (σ 12 i 0 = 0 ∨ σ 12 i 0 = 1) ∧ RR (σ 13 i 0) (σ 14 i) (σ 15 i) ∧ (σ 0 0 0 ≤ i → σ 12 i 0 = 0 ∧ σ 13 i 0 = 0)
def SVu (σ : SG) : Prop := ∀ i : Nat, (0 ≤ σ 20 i 0 ∧ σ 20 i 0 ≤ 2399) ∧ (0 ≤ σ 21 i 0 ∧ σ 21 i 0 ≤ 40) ∧ (0 ≤ σ 22 i 0 ∧ σ 22 i 0 ≤ 40) ∧ (σ 23 i 0 = 0 ∨ σ 23 i 0 = 1) ∧ RR (σ 24 i 0) (σ 25 i) (σ 26 i) ∧ (σ 1 0 0 ≤ i → σ 23 i 0 = 0 ∧ σ 24 i 0 = 0)
def SVf (σ : SG) : Prop := (∀ i : Nat, (i : Int) < σ 2 0 0 → FR (σ 30 i 0) (σ 31 i 0) (σ 32 i 0) (σ 33 i 0) ∧ σ 34 i 0 = bZ (σ 32 i 0 = 0)) ∧ (∀ i k : Nat, σ 35 i k = -100 ∨ (0 ≤ σ 35 i k ∧ σ 35 i k ≤ 15)) ∧ (∀ i k : Nat, σ 2 0 0 ≤ i → i < 20 → σ 35 i k = -100)
def SVs (σ : SG) : Prop := ∀ i : Nat, (i : Int) < σ 3 0 0 → (0 ≤ σ 40 i 0 ∧ σ 40 i 0 < σ 0 0 0) ∧ (0 ≤ σ 41 i 0 ∧ σ 41 i 0 < σ 1 0 0) ∧ (1600 ≤ σ 42 i 0 ∧ σ 42 i 0 ≤ 2399) ∧ (0 ≤ σ 43 i 0 ∧ σ 43 i 0 < ylenZ (σ 42 i 0))
def SV (σ : SG) : Prop := SVn σ ∧ SVt σ ∧ SVu σ ∧ SVf σ ∧ SVs σ
theorem SV.n {σ : SG} (h : SV σ) : SVn σ := h.1
theorem SV.t {σ : SG} (h : SV σ) (i : Nat) : (0 ≤ σ 10 i 0 ∧ σ 10 i 0 ≤ 2399) ∧ (0 ≤ σ 11 i 0 ∧ σ 11 i 0 ≤ 65535) ∧ (σ 12 i 0 = 0 ∨ σ 12 i 0 = 1) ∧ RR (σ 13 i 0) (σ 14 i) (σ 15 i) ∧ (σ 0 0 0 ≤ i → σ 12 i 0 = 0 ∧ σ 13 i 0 = 0) := h.2.1 i
theorem SV.u {σ : SG} (h : SV σ) (i : Nat) : (0 ≤ σ 20 i 0 ∧ σ 20 i 0 ≤ 2399) ∧ (0 ≤ σ 21 i 0 ∧ σ 21 i 0 ≤ 40) ∧ (0 ≤ σ 22 i 0 ∧ σ 22 i 0 ≤ 40) ∧ (σ 23 i 0 = 0 ∨ σ 23 i 0 = 1) ∧ RR (σ 24 i 0) (σ 25 i) (σ 26 i) ∧ (σ 1 0 0 ≤ i → σ 23 i 0 = 0 ∧ σ 24 i 0 = 0) := h.2.2.1 i
theorem SV.f {σ : SG} (h : SV σ) : SVf σ := h.2.2.2.1
theorem SV.s {σ : SG} (h : SV σ) : SVs σ := h.2.2.2.2
theorem SV.nat {σ : SG} (h : SV σ) : ∃ n0 n1 n2 n3 : Nat, (σ 0 0 0 = (n0 : Int) ∧ n0 ≤ 12) ∧ (σ 1 0 0 = (n1 : Int) ∧ n1 ≤ 12) ∧ (σ 2 0 0 = (n2 : Int) ∧ n2 ≤ 20) ∧ (σ 3 0 0 = (n3 : Int) ∧ n3 ≤ 60) := by
  obtain ⟨h0, h1, h2, h3, -⟩ := h.n
  exact ⟨(σ 0 0 0).toNat, (σ 1 0 0).toNat, (σ 2 0 0).toNat, (σ 3 0 0).toNat, by omega, by omega, by omega, by omega⟩
theorem SV.FA {σ : SG} (h : SV σ) : FA (FF σ) (σ 2 0 0).toNat := ⟨by have := h.n.2.2.1; omega, fun i hi => (h.f.1 i (by omega)).1⟩
theorem SV.LR {σ : SG} (h : SV σ) (y : Int) : LR (layZ σ y) := LR_lyR h.FA 9
theorem fit_r (σ : SG) (t u : Nat) : 0 ≤ fitZ σ t u ∧ fitZ σ t u ≤ 2 := by
  unfold fitZ
  split
  · omega
  · split
    · omega
    · split <;> omega
theorem fit_p {σ : SG} {t u : Nat} (h : fitZ σ t u ≠ 0) : 0 < σ 24 u 0 ∧ (σ 13 t 0 = σ 24 u 0 ∨ σ 13 t 0 = 2 * σ 24 u 0) := by
  unfold fitZ at h
  split at h
  · exact absurd rfl h
  · rename_i h1
    split at h
    · rename_i h2; exact ⟨by omega, Or.inl h2.1⟩
    · split at h
      · rename_i h3; exact ⟨by omega, Or.inr h3.1⟩
      · exact absurd rfl h
theorem clK_r (σ : SG) (t u : Nat) : ∀ k, 0 ≤ clK σ t u k ∧ clK σ t u k ≤ 12 * (k : Int)
  | 0 => by unfold clK; omega
  | k + 1 => by
    have h := clK_r σ t u k
    have h2 : popX σ t u k ≤ 12 := popK_r _ 12
    unfold clK
    omega
theorem cl_r {σ : SG} (h : SV σ) (t u : Nat) : 0 ≤ clZ σ t u ∧ clZ σ t u ≤ 96 := by
  have h1 := (h.t t).2.2.2.1.1
  have h2 := clK_r σ t u (σ 13 t 0).toNat
  unfold clZ
  omega
theorem bst_r (σ : SG) (t : Nat) (of y : Int) : ∀ n, bstK σ t of y n = -100 ∨ (0 ≤ bstK σ t of y n ∧ bstK σ t of y n < (n : Int) ∧ fitZ σ t (bstK σ t of y n).toNat ≠ 0)
  | 0 => Or.inl rfl
  | n + 1 => by
    unfold bstK
    split
    · rename_i h
      exact Or.inr ⟨by omega, by omega, by rw [Int.toNat_natCast]; exact h.2.1⟩
    · rcases bst_r σ t of y n with h | h
      · exact Or.inl h
      · exact Or.inr ⟨h.1, by omega, h.2.2⟩
theorem bstZ_r {σ : SG} (h : SV σ) (t : Nat) (of y : Int) : bstZ σ t of y = -100 ∨ (0 ≤ bstZ σ t of y ∧ bstZ σ t of y < σ 1 0 0 ∧ fitZ σ t (bstZ σ t of y).toNat ≠ 0) := by
  have h1 := h.n.2.1
  rcases bst_r σ t of y (σ 1 0 0).toNat with h2 | h2
  · exact Or.inl h2
  · refine Or.inr ⟨h2.1, ?_, h2.2.2⟩
    have := h2.2.1
    unfold bstZ
    omega
theorem alkK_r (σ : SG) (u : Nat) : ∀ n, 0 ≤ alkK σ u n ∧ alkK σ u n ≤ (n : Int)
  | 0 => by unfold alkK; omega
  | n + 1 => by
    have h := alkK_r σ u n
    have h2 := bZ_le (alkZ σ n u)
    unfold alkK
    omega
theorem metK_r (σ : SG) : ∀ n, 0 ≤ metK σ n ∧ metK σ n ≤ (n : Int)
  | 0 => by unfold metK; omega
  | n + 1 => by
    have h := metK_r σ n
    have h2 := bZ_le (fstM σ n)
    unfold metK
    omega
theorem timK_r (σ : SG) (t : Nat) : ∀ n, 0 ≤ timK σ t n ∧ timK σ t n ≤ (n : Int)
  | 0 => by unfold timK; omega
  | n + 1 => by
    have h := timK_r σ t n
    have h2 := bZ_le (σ 40 n 0 = (t : Int))
    unfold timK
    omega
theorem tim_r {σ : SG} (h : SV σ) (t : Nat) : 0 ≤ timZ σ t ∧ timZ σ t ≤ 60 := by
  have h1 := h.n.2.2.2.1
  have h2 := timK_r σ t (σ 3 0 0).toNat
  unfold timZ
  omega
theorem rea_r (σ : SG) (t : Nat) (th y d : Int) : 0 ≤ reaZ σ t th y d ∧ reaZ σ t th y d ≤ 4 := by
  unfold reaZ
  split
  · omega
  · split
    · omega
    · split
      · omega
      · split <;> omega
theorem rea_b {σ : SG} {t : Nat} {th y d : Int} (h : reaZ σ t th y d = 0) : bstZ σ t 1 y ≠ -100 := by
  unfold reaZ at h
  split at h
  · omega
  · split at h
    · omega
    · split at h
      · omega
      · assumption
theorem hym_r (σ : SG) (th y d : Int) : ∀ n, hymK σ th y d n = -100 ∨ (0 ≤ hymK σ th y d n ∧ hymK σ th y d n < (n : Int) ∧ reaZ σ (hymK σ th y d n).toNat th y d = 0)
  | 0 => Or.inl rfl
  | n + 1 => by
    unfold hymK
    split
    · rename_i h
      exact Or.inr ⟨by omega, by omega, by rw [Int.toNat_natCast]; exact h.1⟩
    · rcases hym_r σ th y d n with h | h
      · exact Or.inl h
      · exact Or.inr ⟨h.1, by omega, h.2.2⟩
theorem lyJ_v {F : Nat → Nat → Int} {y su r : Int} {n : Nat} {S : LY} (h : ∀ q, S.1 q = -100 ∨ (0 ≤ S.1 q ∧ S.1 q < (n : Int))) : ∀ j, j ≤ n → ∀ q, (lyJ F y su r j S).1 q = -100 ∨ (0 ≤ (lyJ F y su r j S).1 q ∧ (lyJ F y su r j S).1 q < (n : Int))
  | 0, _ => h
  | j + 1, hj => by
    intro q
    have ih := lyJ_v (F := F) (y := y) (su := su) (r := r) h j (by omega) q
    rw [lyJ_s]
    split
    · unfold lyS
      dsimp only
      split
      · exact ih
      · unfold iu
        split
        · exact Or.inr (by omega)
        · exact ih
    · exact ih
theorem lyR_v (F : Nat → Nat → Int) (y su : Int) (n : Nat) : ∀ t q, (lyR F y su n t).1 q = -100 ∨ (0 ≤ (lyR F y su n t).1 q ∧ (lyR F y su n t).1 q < (n : Int))
  | 0, _ => Or.inl rfl
  | t + 1, q => by rw [lyR_s]; exact lyJ_v (lyR_v F y su n t) n (Nat.le_refl n) q
theorem kept_r {σ : SG} (h : SV σ) (y : Int) (p : Nat) : keptZ σ y p = -100 ∨ keptZ σ y p = -2 ∨ (0 ≤ keptZ σ y p ∧ keptZ σ y p < σ 2 0 0) := by
  have h1 := h.n.2.2.1
  unfold keptZ keptS
  split
  · exact Or.inr (Or.inl rfl)
  · rcases lyR_v (FF σ) y (σ 4 0 0) (σ 2 0 0).toNat 9 p with h2 | h2
    · exact Or.inl h2
    · refine Or.inr (Or.inr ⟨h2.1, ?_⟩)
      have := h2.2
      unfold layZ
      omega
theorem th_r {σ : SG} (h : SV σ) (y : Int) (p : Nat) : thZ σ y p = -100 ∨ (0 ≤ thZ σ y p ∧ thZ σ y p ≤ 15) := by
  unfold thZ
  split
  · exact Or.inl rfl
  · split
    · exact h.f.2.1 _ _
    · exact h.f.2.1 _ _
