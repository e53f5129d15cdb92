/-! ArrayList.add, and the constructors above it -/
/-- what add leaves behind -/
def AddK (aD : Nat) (M : hM) (sz a ea n v : Nat) (f : Nat → Nat) (K : hK) (r : Option Value) : Prop := ∀ (M' : hM) (sz' ea' : Nat), LSt aD M' a ea' (n + 1) (fun k => if k = n then v else f k) → (∀ q, q ≠ a → q ≠ ea → q < sz → M' q = M q) → (ea' = ea ∨ ea' = sz) → sz ≤ sz' → (∀ (q : Nat) (x : hC), M' q = some x → (∃ y, M q = some y) ∨ (sz ≤ q ∧ q < sz')) → K (.inl r) M' sz'

theorem va_up_self9 {α : Type} (f : Nat → α) (k : Nat) (v : α) : va_up f k v k = v := by simp [va_up]

def sp_Jx4a65c_add_72be8 (g : hG) : hS := fun as M sz K => ∃ (a ea n v : Nat) (f : Nat → Nat), as = [.ref a, .ref v, .ref ea, .int (iZ (n : Int))] ∧ LSt g.2.2.2.2 M a ea n f ∧ n ≤ 60 ∧ CST M v ∧ (∀ i, i < n → CST M (f i)) ∧ v ≠ a ∧ AddK g.2.2.2.2 M sz a ea n v f K none
theorem s_Jx4a65c_add_72be8 {l : Launch} {g : hG} (hst : l.stackTraces = false) : Ctr l g mJx4a65c_add_72be8 (sp_Jx4a65c_add_72be8 g) := by
  refine Ctr.mk9 hst (by decide) ?_ ?_
  · rintro as M sz K ⟨a, ea, n, v, f, rfl, hL, hn, hcv, hcs, hva, hK⟩
    exact ⟨by simp [mJx4a65c_add_72be8], cat_ok rfl⟩
  rintro X as M sz K hX rfl rfl hR ⟨a, ea, n, v, f, rfl, hL, hn, hcv, hcs, hva, hK⟩
  show G X 0 [.ref a, .ref v, .ref ea, .int (iZ (n : Int))] [] M sz 0 0
  refine g_dom hX (fun hdom => ?_)
  obtain ⟨mod, hm, hrow⟩ := hL
  obtain ⟨cv, j9, vs, q9, hmv, hq9, hj9⟩ := hcv
  have hne : ∀ (q : Nat) (x : hC), M q = some x → q ≠ sz := fun q x h9 e => by have := (hdom q x h9).1; omega
  have hna := hne a _ hm
  have hnv := hne v _ hmv
  have tail : ∀ (M1 : hM) (ea1 len1 : Nat) (f1 : Nat → Option Nat) (sz1 c1 s1 : Nat), c1 ≤ 1 → s1 ≤ 200 → M1 a = some (.inl (0, [.int (iZ mod), .ref ea1, .int (iZ (n : Int))])) → M1 ea1 = some (.inr (3, len1, .inr (.inr f1))) → M1 v = some (.inl (cv, vs)) → n < len1 → len1 ≤ 1000 → K (.inl none) (hup (hup M1 ea1 (.inr (3, len1, .inr (.inr (va_up f1 n (some v)))))) a (.inl (0, [.int (iZ mod), .ref ea1, .int (iZ ((n : Int) + 1))]))) sz1 → G X 11 [.ref a, .ref v, .ref ea1, .int (iZ (n : Int))] [] M1 sz1 c1 s1 := by
    intro M1 ea1 len1 f1 sz1 c1 s1 hc1 hs1 ha1 he1 hv1 hn1 hl1 hk
    refine g_aload hX dJx4a65c_add_72be8_11 rfl rfl ?_
    refine g_iload hX dJx4a65c_add_72be8_12 rfl ?_
    refine g_aload hX dJx4a65c_add_72be8_13 rfl rfl ?_
    refine g_aast hX dJx4a65c_add_72be8_14 he1 (z_in (by omega) (by omega) (by omega)) hv1 ⟨_, _, hq9, hj9⟩ ?_
    rw [z_cl (by constructor <;> omega)]
    have hae : a ≠ ea1 := fun e => by rw [e, he1] at ha1; cases ha1
    have ha1 : hup M1 ea1 (.inr (3, len1, .inr (.inr (va_up f1 n (some v))))) a = some (.inl (0, [.int (iZ mod), .ref ea1, .int (iZ (n : Int))])) := by rw [hup_n _ _ hae]; exact ha1
    refine g_aload hX dJx4a65c_add_72be8_15 rfl rfl ?_
    refine g_iload hX dJx4a65c_add_72be8_16 rfl ?_
    refine g_const hX dJx4a65c_add_72be8_17 ?_
    refine z_iadd hX dJx4a65c_add_72be8_18 ?_
    refine g_put hX dJx4a65c_add_72be8_19 ha1 (by simp) rfl rfl ?_
    dsimp only [List.set]
    refine g_vret hX hR dJx4a65c_add_72be8_22 rfl hc1 hs1 ?_
    exact hk
  rcases hrow with ⟨rfl, rfl⟩ | ⟨len, f', hea, hl1, hl2, hl3, hf⟩
  · skip
    refine g_iload hX dJx4a65c_add_72be8_0 rfl ?_
    refine g_aload hX dJx4a65c_add_72be8_1 rfl rfl ?_
    refine z_alenD hX dJx4a65c_add_72be8_2 ?_
    refine z_icmp_ne hX dJx4a65c_add_72be8_3 (by constructor <;> omega) (by constructor <;> omega) (fun c3 => ?_) (fun c3 => ?_)
    · exact absurd rfl c3
    · refine g_aload hX dJx4a65c_add_72be8_6 rfl rfl ?_
      refine g_cV0 (c2 := 1) (s2 := 200) hX (s_Jx4a65c_grow_d5877 hst) dJx4a65c_add_72be8_7 (by assumption) (by first | exact Nat.le_of_ble_eq_true rfl | simp [cat_rf, Value.category]) ⟨rfl, rfl, by decide, by decide⟩ ?_
      refine ⟨_, _, 0, 0, _, fun _ => none, rfl, Or.inl ⟨rfl, rfl, hm, Kc_i ?_⟩⟩
      refine g_astore hX dJx4a65c_add_72be8_10 rfl ?_
      dsimp only [List.set]
      refine tail _ sz 10 (fun _ => none) _ _ _ (by decide) (by decide) (hup_s _ _ _) (by rw [hup_n _ _ (Ne.symm hna), hup_s]) (by rw [hup_n _ _ hva, hup_n _ _ hnv]; exact hmv) (by decide) (by decide) ?_
      refine hK _ _ sz ⟨mod, hup_s _ _ _, Or.inr ⟨10, _, by rw [hup_n _ _ (Ne.symm hna), hup_s], by decide, by decide, by decide, fun k hk => ?_⟩⟩ (fun q h1 h2 h3 => ?_) (Or.inr rfl) (by omega) (fun q x hx => ?_)
      · obtain rfl : k = 0 := by omega
        rfl
      · rw [hup_n _ _ h1, hup_n _ _ (by omega), hup_n _ _ h1, hup_n _ _ (by omega)]
      · by_cases e1 : q = a
        · exact Or.inl ⟨_, by rw [e1]; exact hm⟩
        · by_cases e2 : q = sz
          · exact Or.inr (by omega)
          · rw [hup_n _ _ e1, hup_n _ _ e2, hup_n _ _ e1, hup_n _ _ e2] at hx
            exact Or.inl ⟨x, hx⟩
  · have hae : a ≠ ea := fun e => by rw [e, hea] at hm; cases hm
    refine g_iload hX dJx4a65c_add_72be8_0 rfl ?_
    refine g_aload hX dJx4a65c_add_72be8_1 rfl rfl ?_
    refine z_alen hX dJx4a65c_add_72be8_2 (by first | exact hea | exact hm) (by decide) ?_
    dsimp only
    refine z_icmp_ne hX dJx4a65c_add_72be8_3 (by constructor <;> omega) (by constructor <;> omega) (fun c3 => ?_) (fun c3 => ?_)
    · have hlt : n < len := by omega
      refine tail M ea len f' sz _ _ (by decide) (by decide) hm hea hmv hlt (by omega) ?_
      refine hK _ _ ea ⟨mod, hup_s _ _ _, Or.inr ⟨len, _, by rw [hup_n _ _ (Ne.symm hae), hup_s], by omega, by omega, by omega, fun k hk => ?_⟩⟩ (fun q h1 h2 h3 => by rw [hup_n _ _ h1, hup_n _ _ h2]) (Or.inl rfl) (by omega) (fun q x hx => ?_)
      · show va_up f' n (some v) k = some (if k = n then v else f k)
        by_cases e : k = n
        · rw [if_pos e, e]; exact va_up_self9 _ _ _
        · rw [if_neg e]; exact (va_up_ne _ _ e).trans (hf k (by omega))
      · by_cases e1 : q = a
        · exact Or.inl ⟨_, by rw [e1]; exact hm⟩
        · by_cases e2 : q = ea
          · exact Or.inl ⟨_, by rw [e2]; exact hea⟩
          · rw [hup_n _ _ e1, hup_n _ _ e2] at hx
            exact Or.inl ⟨x, hx⟩
    · refine g_aload hX dJx4a65c_add_72be8_6 rfl rfl ?_
      refine g_cV0 (c2 := 1) (s2 := 200) hX (s_Jx4a65c_grow_d5877 hst) dJx4a65c_add_72be8_7 (by first | exact hea | exact hm) (by first | exact Nat.le_of_ble_eq_true rfl | simp [cat_rf, Value.category]) ⟨rfl, rfl, by decide, by decide⟩ ?_
      refine ⟨_, _, len, n, _, f', rfl, Or.inr ⟨hm, hea, by omega, fun i hi y hy => by rw [hf i (by omega)] at hy; cases hy; exact hcs i (by omega), Kc_i ?_⟩⟩
      refine g_astore hX dJx4a65c_add_72be8_10 rfl ?_
      dsimp only [List.set]
      have hnl : n = len := by omega
      refine tail _ sz (len + len / 2) _ _ _ _ (by decide) (by decide) (hup_s _ _ _) (by rw [hup_n _ _ (Ne.symm hna), hup_s]) (by rw [hup_n _ _ hva, hup_n _ _ hnv]; exact hmv) (by omega) (by omega) ?_
      refine hK _ _ sz ⟨mod, hup_s _ _ _, Or.inr ⟨len + len / 2, _, by rw [hup_n _ _ (Ne.symm hna), hup_s], by omega, by omega, by omega, fun k hk => ?_⟩⟩ (fun q h1 h2 h3 => ?_) (Or.inr rfl) (by omega) (fun q x hx => ?_)
      · show va_up (fun k => if k < len then f' k else none) n (some v) k = some (if k = n then v else f k)
        by_cases e : k = n
        · rw [if_pos e, e]; exact va_up_self9 _ _ _
        · rw [if_neg e]
          refine (va_up_ne _ _ e).trans ?_
          rw [if_pos (by omega)]
          exact hf k (by omega)
      · rw [hup_n _ _ h1, hup_n _ _ (by omega), hup_n _ _ h1, hup_n _ _ (by omega)]
      · by_cases e1 : q = a
        · exact Or.inl ⟨_, by rw [e1]; exact hm⟩
        · by_cases e2 : q = sz
          · exact Or.inr (by omega)
          · rw [hup_n _ _ e1, hup_n _ _ e2, hup_n _ _ e1, hup_n _ _ e2] at hx
            exact Or.inl ⟨x, hx⟩

def sp_Jx4a65c_add_9ea2d (g : hG) : hS := fun as M sz K => ∃ (a ea n v : Nat) (f : Nat → Nat), as = [.ref a, .ref v] ∧ LSt g.2.2.2.2 M a ea n f ∧ n ≤ 60 ∧ CST M v ∧ (∀ i, i < n → CST M (f i)) ∧ v ≠ a ∧ (∀ i, i < n → f i ≠ a) ∧ AddK g.2.2.2.2 M sz a ea n v f K (some (.int (iZ 1)))
theorem s_Jx4a65c_add_9ea2d {l : Launch} {g : hG} (hst : l.stackTraces = false) : Ctr l g mJx4a65c_add_9ea2d (sp_Jx4a65c_add_9ea2d g) := by
  refine Ctr.mk9 hst (by decide) ?_ ?_
  · rintro as M sz K ⟨a, ea, n, v, f, rfl, hL, hn, hcv, hcs, hva, hfa, hK⟩
    exact ⟨by simp [mJx4a65c_add_9ea2d], cat_ok rfl⟩
  rintro X as M sz K hX rfl rfl hR ⟨a, ea, n, v, f, rfl, hL, hn, hcv, hcs, hva, hfa, hK⟩
  show G X 0 [.ref a, .ref v] [] M sz 0 0
  obtain ⟨mod, hm, hrow⟩ := hL
  have hrow' : (n = 0 ∧ ea = X.2.2.2.2.2.2.2.2.2) ∨ ∃ (len : Nat) (f' : Nat → Option Nat), hup M a (.inl (0, [.int (iZ (mod + 1)), .ref ea, .int (iZ (n : Int))])) ea = some (.inr (3, len, .inr (.inr f'))) ∧ 10 ≤ len ∧ len ≤ 100 ∧ n ≤ len ∧ ∀ i, i < n → f' i = some (f i) := by
    rcases hrow with h | ⟨len, f', hea, h9⟩
    · exact Or.inl h
    · exact Or.inr ⟨len, f', by rw [hup_n _ _ (fun e => by rw [e, hm] at hea; cases hea)]; exact hea, h9⟩
  refine g_aload hX dJx4a65c_add_9ea2d_0 rfl rfl ?_
  refine g_dup hX dJx4a65c_add_9ea2d_1 rfl ?_
  refine g_get hX dJx4a65c_add_9ea2d_2 (by first | exact hm | exact hup_s _ _ _) rfl ?_
  refine g_const hX dJx4a65c_add_9ea2d_5 ?_
  refine z_iadd hX dJx4a65c_add_9ea2d_6 ?_
  refine g_put hX dJx4a65c_add_9ea2d_7 (by first | exact hm | exact hup_s _ _ _) (by simp) rfl rfl ?_
  dsimp only [List.set]
  refine g_aload hX dJx4a65c_add_9ea2d_10 rfl rfl ?_
  refine g_aload hX dJx4a65c_add_9ea2d_11 rfl rfl ?_
  refine g_aload hX dJx4a65c_add_9ea2d_12 rfl rfl ?_
  refine g_get hX dJx4a65c_add_9ea2d_13 (by first | exact hm | exact hup_s _ _ _) rfl ?_
  refine g_aload hX dJx4a65c_add_9ea2d_16 rfl rfl ?_
  refine g_get hX dJx4a65c_add_9ea2d_17 (by first | exact hm | exact hup_s _ _ _) rfl ?_
  refine g_cV3 (c2 := 1) (s2 := 200) hX (s_Jx4a65c_add_72be8 hst) dJx4a65c_add_9ea2d_20 (by first | exact hm | exact hup_s _ _ _) (by first | exact Nat.le_of_ble_eq_true rfl | simp [cat_rf, Value.category]) ⟨rfl, rfl, by decide, by decide⟩ ?_
  refine ⟨_, _, _, _, f, rfl, ⟨mod + 1, hup_s _ _ _, hrow'⟩, hn, hcv.kept (hup_n _ _ hva), fun i hi => (hcs i hi).kept (hup_n _ _ (hfa i hi)), hva, fun M' sz' ea' h1 h2 h3 h4 h5 => Kc_v ?_⟩
  have hK' := hK M' sz' ea' h1 (fun q e1 e2 e3 => (h2 q e1 e2 e3).trans (hup_n _ _ e1)) h3 h4 (fun q x hx => (h5 q x hx).imp (fun ⟨y, hy⟩ => (by
    by_cases e : q = a
    · exact ⟨_, by rw [e]; exact hm⟩
    · exact ⟨y, by rw [← hy, hup_n _ _ e]⟩)) id)
  refine g_const hX dJx4a65c_add_9ea2d_23 ?_
  refine g_iret hX hR dJx4a65c_add_9ea2d_24 rfl (by first | rfl | exact nar_b _ | exact nar_01 (by omega)) (by decide) (by decide) ?_
  exact hK'

def sp_Jxa1e45_init_da8c8 : hS := fun as M sz K => ∃ a : Nat, as = [.ref a] ∧ K (.inl none) M sz
theorem s_Jxa1e45_init_da8c8 {l : Launch} {g : hG} (hst : l.stackTraces = false) : Ctr l g mJxa1e45_init_da8c8 sp_Jxa1e45_init_da8c8 := by
  refine Ctr.mk9 hst (by decide) ?_ ?_
  · rintro as M sz K ⟨a, rfl, hK⟩
    exact ⟨by simp [mJxa1e45_init_da8c8], cat_ok rfl⟩
  rintro X as M sz K hX rfl rfl hR ⟨a, rfl, hK⟩
  show G X 0 [.ref a] [] M sz 0 0
  refine g_aload hX dJxa1e45_init_da8c8_0 rfl rfl ?_
  refine g_obj hX dJxa1e45_init_da8c8_1 ?_
  refine g_vret hX hR dJxa1e45_init_da8c8_4 rfl (by decide) (by decide) ?_
  exact hK

def sp_Jxc12de_init_da8c8 : hS := fun as M sz K => ∃ (a : Nat) (v0 v1 v2 : Value), as = [.ref a] ∧ M a = some (.inl (0, [v0, v1, v2])) ∧ K (.inl none) (hup M a (.inl (0, [.int (iZ 0), v1, v2]))) sz
theorem s_Jxc12de_init_da8c8 {l : Launch} {g : hG} (hst : l.stackTraces = false) : Ctr l g mJxc12de_init_da8c8 sp_Jxc12de_init_da8c8 := by
  refine Ctr.mk9 hst (by decide) ?_ ?_
  · rintro as M sz K ⟨a, v0, v1, v2, rfl, hm, hK⟩
    exact ⟨by simp [mJxc12de_init_da8c8], cat_ok rfl⟩
  rintro X as M sz K hX rfl rfl hR ⟨a, v0, v1, v2, rfl, hm, hK⟩
  show G X 0 [.ref a] [] M sz 0 0
  refine g_aload hX dJxc12de_init_da8c8_0 rfl rfl ?_
  refine g_cI0 (c2 := 0) (s2 := 0) hX (s_Jxa1e45_init_da8c8 hst) dJxc12de_init_da8c8_1 (by first | exact Nat.le_of_ble_eq_true rfl | simp [cat_rf, Value.category]) ⟨rfl, rfl, by decide, by decide⟩ ?_
  refine ⟨_, rfl, Kc_v ?_⟩
  refine g_aload hX dJxc12de_init_da8c8_4 rfl rfl ?_
  refine g_const hX dJxc12de_init_da8c8_5 ?_
  refine g_put hX dJxc12de_init_da8c8_6 (by assumption) (by simp) rfl rfl ?_
  dsimp only [List.set]
  refine g_vret hX hR dJxc12de_init_da8c8_9 rfl (by decide) (by decide) ?_
  exact hK

def sp_Jx4a65c_init_da8c8 (g : hG) : hS := fun as M sz K => ∃ (a : Nat) (v0 v1 v2 : Value), as = [.ref a] ∧ M a = some (.inl (0, [v0, v1, v2])) ∧ K (.inl none) (hup M a (.inl (0, [.int (iZ 0), .ref g.2.2.2.2, v2]))) sz
theorem s_Jx4a65c_init_da8c8 {l : Launch} {g : hG} (hst : l.stackTraces = false) : Ctr l g mJx4a65c_init_da8c8 (sp_Jx4a65c_init_da8c8 g) := by
  refine Ctr.mk9 hst (by decide) ?_ ?_
  · rintro as M sz K ⟨a, v0, v1, v2, rfl, hm, hK⟩
    exact ⟨by simp [mJx4a65c_init_da8c8], cat_ok rfl⟩
  rintro X as M sz K hX rfl rfl hR ⟨a, v0, v1, v2, rfl, hm, hK⟩
  show G X 0 [.ref a] [] M sz 0 0
  refine g_aload hX dJx4a65c_init_da8c8_0 rfl rfl ?_
  refine g_cI0 (c2 := 0) (s2 := 0) hX (s_Jxc12de_init_da8c8 hst) dJx4a65c_init_da8c8_1 (by first | exact Nat.le_of_ble_eq_true rfl | simp [cat_rf, Value.category]) ⟨rfl, rfl, by decide, by decide⟩ ?_
  refine ⟨_, _, _, _, rfl, hm, Kc_v ?_⟩
  refine g_aload hX dJx4a65c_init_da8c8_4 rfl rfl ?_
  refine g_getsD hX dJx4a65c_init_da8c8_5 ?_
  refine g_put hX dJx4a65c_init_da8c8_8 (hup_s _ _ _) (by simp) rfl rfl ?_
  dsimp only [List.set]
  refine g_vret hX hR dJx4a65c_init_da8c8_11 rfl (by decide) (by decide) ?_
  rw [hup_hup]; exact hK
