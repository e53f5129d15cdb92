/-! the reference: clashes, tunes -/
theorem popK_z (m s : Nat) : ((popK m (s + 1) : Nat) : Int) = (popK m s : Int) + (m : Int) / 2 ^ s % 2 := by
  show ((popK m s + m / 2 ^ s % 2 : Nat) : Int) = _
  simp

def sp_X10_clash : hS := fun as M sz K => ∃ (b r : Nat) (σ : SG) (th : Int) (P Q : Nat → Int) (t u : Nat), as = [.ref r, .int (iZ (t : Int)), .int (iZ (u : Int))] ∧ MX b r σ th P Q M ∧ SV σ ∧ (t : Int) < σ 0 0 0 ∧ (u : Int) < σ 1 0 0 ∧ fitZ σ t u ≠ 0 ∧ K (.inl (some (.int (iZ (clZ σ t u))))) M sz
theorem s_X10_clash {l : Launch} {g : hG} (hst : l.stackTraces = false) : Ctr l g mX10_clash sp_X10_clash := by
  refine Ctr.mk9 hst (by decide) ?_ ?_
  · rintro as M sz K ⟨b, r, σ, th, P, Q, t, u, rfl, hM, hV, ht, hu, hf, hK⟩
    exact ⟨by simp [mX10_clash], cat_ok rfl⟩
  rintro X as M sz K hX rfl rfl hR ⟨b, r, σ, th, P, Q, t, u, rfl, hM, hV, ht, hu, hf, hK⟩
  show G X 0 [.ref r, .int (iZ (t : Int)), .int (iZ (u : Int)), U9, U9, U9, U9] [] M sz 0 0
  obtain ⟨n0, n1, n2, n3, ⟨e0, hn0⟩, ⟨e1, hn1⟩, ⟨e2, hn2⟩, ⟨e3, hn3⟩⟩ := hV.nat
  have ha3 : M (b + 3) = some (.inr (0, 12, .inl (fun i => iZ (σ 13 i 0)))) := hM.2.2 3 (by decide)
  have ha5 : M (b + 5) = some (.inr (0, 96, .inl (fun i => iZ (σ 15 (i / 8) (i % 8))))) := hM.2.2 5 (by decide)
  have ha12 : M (b + 12) = some (.inr (0, 96, .inl (fun i => iZ (σ 26 (i / 8) (i % 8))))) := hM.2.2 12 (by decide)
  have ha10 : M (b + 10) = some (.inr (0, 12, .inl (fun i => iZ (σ 24 i 0)))) := hM.2.2 10 (by decide)
  obtain ⟨hfp1, hfp2⟩ := fit_p hf
  have hRt := (hV.t t).2.2.2.1
  have hRu := (hV.u u).2.2.2.2.1
  have ht1 := hRt.1
  have hu1 := hRu.1
  have hn8 : 1 ≤ σ 24 u 0 ∧ σ 24 u 0 ≤ 8 := by omega
  have inner : ∀ (k m : Nat), m < 4096 → G X 76 [.ref r, .int (iZ (t : Int)), .int (iZ (u : Int)), .int (iZ (clK σ t u k + (popN m : Int))), .int (iZ (k : Int)), .int (iZ (m : Int)), .int (iZ 12)] [] M sz 0 0 → ∀ (k9 s : Nat), s + k9 = 12 → G X 53 [.ref r, .int (iZ (t : Int)), .int (iZ (u : Int)), .int (iZ (clK σ t u k + (popK m s : Int))), .int (iZ (k : Int)), .int (iZ (m : Int)), .int (iZ (s : Int))] [] M sz 0 0 := by
    intro k m hm hend k9
    induction k9 with
    | zero =>
      intro s hs
      obtain rfl : s = 12 := by omega
      refine g_iload hX dX10_clash_53 rfl ?_
      refine g_const hX dX10_clash_55 ?_
      refine z_icmp_ge hX dX10_clash_57 (by first | assumption | (constructor <;> omega)) (by first | assumption | (constructor <;> omega)) (fun c57 => ?_) (fun c57 => ?_)
      · exact hend
      · exfalso; omega
    | succ k9 ih =>
      intro s hs
      have hq1 : 0 ≤ (m : Int) / 2 ^ s := Int.ediv_nonneg (by omega) (Int.le_of_lt (Int.pow_pos (by decide)))
      have hq2 : (m : Int) / 2 ^ s ≤ (m : Int) := Int.ediv_le_self _ (by omega)
      refine g_iload hX dX10_clash_53 rfl ?_
      refine g_const hX dX10_clash_55 ?_
      refine z_icmp_ge hX dX10_clash_57 (by first | assumption | (constructor <;> omega)) (by first | assumption | (constructor <;> omega)) (fun c57 => ?_) (fun c57 => ?_)
      · exfalso; omega
      · refine g_iload hX dX10_clash_60 rfl ?_
        refine g_iload hX dX10_clash_61 rfl ?_
        refine g_iload hX dX10_clash_63 rfl ?_
        refine g_ishr hX dX10_clash_65 ?_
        rw [z_shrk (by constructor <;> omega) (by omega) s (by omega)]
        refine g_const hX dX10_clash_66 ?_
        refine g_iand hX dX10_clash_67 ?_
        rw [z_and1 (by constructor <;> omega) (by omega)]
        refine z_iadd hX dX10_clash_68 ?_
        refine g_istore hX dX10_clash_69 ?_
        dsimp only [List.set]
        refine z_iinc hX dX10_clash_70 rfl ?_
        dsimp only [List.set]
        refine g_goto hX dX10_clash_73 ?_
        refine g_eqL (lv' := [.ref r, .int (iZ (t : Int)), .int (iZ (u : Int)), .int (iZ (clK σ t u k + (popK m (s + 1) : Int))), .int (iZ (k : Int)), .int (iZ (m : Int)), .int (iZ ((s + 1 : Nat) : Int))]) (by rw [popK_z, Int.add_assoc]; rfl) rfl ?_
        exact ih (s + 1) (by omega)
  have outer : ∀ (k9 k : Nat) (v5 v6 : Value), (k : Int) + k9 = σ 13 t 0 → G X 5 [.ref r, .int (iZ (t : Int)), .int (iZ (u : Int)), .int (iZ (clK σ t u k)), .int (iZ (k : Int)), v5, v6] [] M sz 0 0 := by
    intro k9
    induction k9 with
    | zero =>
      intro k v5 v6 hk
      refine g_iload hX dX10_clash_5 rfl ?_
      refine g_aload hX dX10_clash_7 rfl rfl ?_
      refine g_get hX dX10_clash_8 (by first | assumption | exact hM.2.1) rfl ?_
      refine g_iload hX dX10_clash_11 rfl ?_
      refine z_iald hX dX10_clash_12 (by first | assumption | exact hM.2.1) (by omega) (by omega) (by decide) rfl ?_
      try simp only [Int.toNat_natCast]
      refine z_icmp_ge hX dX10_clash_13 (by first | assumption | (constructor <;> omega)) (by first | assumption | (constructor <;> omega)) (fun c13 => ?_) (fun c13 => ?_)
      · refine g_iload hX dX10_clash_82 rfl ?_
        refine g_iret hX hR dX10_clash_83 rfl rfl (by decide) (by decide) ?_
        exact kint hK (by unfold clZ; congr 1; omega)
      · exfalso; omega
    | succ k9 ih =>
      intro k v5 v6 hk
      refine g_iload hX dX10_clash_5 rfl ?_
      refine g_aload hX dX10_clash_7 rfl rfl ?_
      refine g_get hX dX10_clash_8 (by first | assumption | exact hM.2.1) rfl ?_
      refine g_iload hX dX10_clash_11 rfl ?_
      refine z_iald hX dX10_clash_12 (by first | assumption | exact hM.2.1) (by omega) (by omega) (by decide) rfl ?_
      try simp only [Int.toNat_natCast]
      refine z_icmp_ge hX dX10_clash_13 (by first | assumption | (constructor <;> omega)) (by first | assumption | (constructor <;> omega)) (fun c13 => ?_) (fun c13 => ?_)
      · exfalso; omega
      · refine g_aload hX dX10_clash_16 rfl rfl ?_
        refine g_get hX dX10_clash_17 (by first | assumption | exact hM.2.1) rfl ?_
        refine g_const hX dX10_clash_20 ?_
        refine g_iload hX dX10_clash_22 rfl ?_
        refine z_imul hX dX10_clash_23 ?_
        refine g_iload hX dX10_clash_24 rfl ?_
        refine z_iadd hX dX10_clash_26 ?_
        refine z_iald hX dX10_clash_27 ha5 (by omega) (by omega) (by decide) rfl ?_
        rw [(div8 (t := t) (k := k) (by omega)).1, (div8 (t := t) (k := k) (by omega)).2]
        refine g_aload hX dX10_clash_28 rfl rfl ?_
        refine g_get hX dX10_clash_29 (by first | assumption | exact hM.2.1) rfl ?_
        refine g_const hX dX10_clash_32 ?_
        refine g_iload hX dX10_clash_34 rfl ?_
        refine z_imul hX dX10_clash_35 ?_
        refine g_iload hX dX10_clash_36 rfl ?_
        refine g_aload hX dX10_clash_38 rfl rfl ?_
        refine g_get hX dX10_clash_39 (by first | assumption | exact hM.2.1) rfl ?_
        refine g_iload hX dX10_clash_42 rfl ?_
        refine z_iald hX dX10_clash_43 (by first | assumption | exact hM.2.1) (by omega) (by omega) (by decide) rfl ?_
        try simp only [Int.toNat_natCast]
        refine z_irem hX dX10_clash_44 (by constructor <;> omega) (by constructor <;> omega) (by omega) (by omega) ?_
        rw [rem_w (k := k) hn8 (by omega)]
        have hwr := wrp_r (n := (σ 24 u 0).toNat) (k := k) (by omega)
        refine z_iadd hX dX10_clash_45 ?_
        refine z_iald hX dX10_clash_46 ha12 (by omega) (by omega) (by decide) rfl ?_
        rw [(div8 (t := u) (k := wrp (σ 24 u 0).toNat k) (by omega)).1, (div8 (t := u) (k := wrp (σ 24 u 0).toNat k) (by omega)).2]
        have hs1 := (hRt.2 k).2.1
        have hs2 := (hRu.2 (wrp (σ 24 u 0).toNat k)).2.1
        refine g_ixor hX dX10_clash_47 ?_
        rw [z_xor (by omega) (by omega)]
        obtain ⟨m, hm9⟩ : ∃ m : Nat, m = (σ 15 t k).toNat ^^^ (σ 26 u (wrp (σ 24 u 0).toNat k)).toNat := ⟨_, rfl⟩
        rw [← hm9]
        have hm : m < 4096 := by rw [hm9]; exact xor_r (by omega) (by omega)
        have hpx : popX σ t u k = popN m := by unfold popX; rw [hm9]
        refine g_istore hX dX10_clash_48 ?_
        dsimp only [List.set]
        refine g_const hX dX10_clash_50 ?_
        refine g_istore hX dX10_clash_51 ?_
        dsimp only [List.set]
        have hin := inner k m hm ?_ 12 0 (by omega)
        · rw [show clK σ t u k + ((popK m 0 : Nat) : Int) = clK σ t u k from Int.add_zero _] at hin
          exact hin
        · refine z_iinc hX dX10_clash_76 rfl ?_
          dsimp only [List.set]
          refine g_goto hX dX10_clash_79 ?_
          have h9 := ih (k + 1) (.int (iZ (m : Int))) (.int (iZ 12)) (by omega)
          rw [show clK σ t u (k + 1) = clK σ t u k + (popN m : Int) by rw [← hpx]; rfl] at h9
          exact h9
  refine g_const hX dX10_clash_0 ?_
  refine g_istore hX dX10_clash_1 ?_
  dsimp only [List.set]
  refine g_const hX dX10_clash_2 ?_
  refine g_istore hX dX10_clash_3 ?_
  dsimp only [List.set]
  exact outer (σ 13 t 0).toNat 0 _ _ (by omega)

def sp_X10_isTuneFree : hS := fun as M sz K => ∃ (b r : Nat) (σ : SG) (th : Int) (P Q : Nat → Int) (u : Nat) (y : Int), as = [.ref r, .int (iZ (u : Int)), .int (iZ y)] ∧ MX b r σ th P Q M ∧ SV σ ∧ (u : Int) < σ 1 0 0 ∧ (0 ≤ y ∧ y ≤ 5000) ∧ K (.inl (some (.int (iZ (bZ (freeU σ u y)))))) M sz
theorem s_X10_isTuneFree {l : Launch} {g : hG} (hst : l.stackTraces = false) : Ctr l g mX10_isTuneFree sp_X10_isTuneFree := by
  refine Ctr.mk9 hst (by decide) ?_ ?_
  · rintro as M sz K ⟨b, r, σ, th, P, Q, u, y, rfl, hM, hV, hu, hy, hK⟩
    exact ⟨by simp [mX10_isTuneFree], cat_ok rfl⟩
  rintro X as M sz K hX rfl rfl hR ⟨b, r, σ, th, P, Q, u, y, rfl, hM, hV, hu, hy, hK⟩
  show G X 0 [.ref r, .int (iZ (u : Int)), .int (iZ y)] [] M sz 0 0
  obtain ⟨n0, n1, n2, n3, ⟨e0, hn0⟩, ⟨e1, hn1⟩, ⟨e2, hn2⟩, ⟨e3, hn3⟩⟩ := hV.nat
  have ha7 : M (b + 7) = some (.inr (1, 12, .inl (fun i => iZ (σ 23 i 0)))) := hM.2.2 7 (by decide)
  have ha6 : M (b + 6) = some (.inr (0, 12, .inl (fun i => iZ (σ 20 i 0)))) := hM.2.2 6 (by decide)
  have hU9 := hV.u u
  refine g_aload hX dX10_isTuneFree_0 rfl rfl ?_
  refine g_get hX dX10_isTuneFree_1 (by first | assumption | exact hM.2.1) rfl ?_
  refine g_iload hX dX10_isTuneFree_4 rfl ?_
  refine z_zald hX dX10_isTuneFree_5 (by first | assumption | exact hM.2.1) (by omega) (by omega) (by decide) rfl ?_
  try simp only [Int.toNat_natCast]
  refine z_if_ne hX dX10_isTuneFree_6 (by first | assumption | (constructor <;> omega)) (fun c6 => ?_) (fun c6 => ?_)
  · refine g_const hX dX10_isTuneFree_22 ?_
    refine g_goto hX dX10_isTuneFree_23 ?_
    refine g_iret hX hR dX10_isTuneFree_27 rfl (by first | rfl | exact nar_b _ | exact nar_01 (by omega)) (by decide) (by decide) ?_
    exact kint hK (bZ_t (Or.inl (by omega)))
  · refine g_iload hX dX10_isTuneFree_9 rfl ?_
    refine g_aload hX dX10_isTuneFree_10 rfl rfl ?_
    refine g_get hX dX10_isTuneFree_11 (by first | assumption | exact hM.2.1) rfl ?_
    refine g_iload hX dX10_isTuneFree_14 rfl ?_
    refine z_iald hX dX10_isTuneFree_15 (by first | assumption | exact hM.2.1) (by omega) (by omega) (by decide) rfl ?_
    try simp only [Int.toNat_natCast]
    refine g_const hX dX10_isTuneFree_16 ?_
    refine z_iadd hX dX10_isTuneFree_18 ?_
    refine z_icmp_le hX dX10_isTuneFree_19 (by first | assumption | (constructor <;> omega)) (by first | assumption | (constructor <;> omega)) (fun c19 => ?_) (fun c19 => ?_)
    · refine g_const hX dX10_isTuneFree_26 ?_
      refine g_iret hX hR dX10_isTuneFree_27 rfl (by first | rfl | exact nar_b _ | exact nar_01 (by omega)) (by decide) (by decide) ?_
      exact kint hK (bZ_f (fun h9 => h9.elim (fun q => by omega) (fun q => by omega)))
    · refine g_const hX dX10_isTuneFree_22 ?_
      refine g_goto hX dX10_isTuneFree_23 ?_
      refine g_iret hX hR dX10_isTuneFree_27 rfl (by first | rfl | exact nar_b _ | exact nar_01 (by omega)) (by decide) (by decide) ?_
      exact kint hK (bZ_t (Or.inr (by omega)))

abbrev alP (σ : SG) (a c k : Nat) : Prop := σ 24 a 0 = σ 24 c 0 ∧ ∀ j : Nat, j < k → σ 25 a j = σ 25 c j

def sp_X10_areAlike : hS := fun as M sz K => ∃ (b r : Nat) (σ : SG) (th : Int) (P Q : Nat → Int) (a c : Nat), as = [.ref r, .int (iZ (a : Int)), .int (iZ (c : Int))] ∧ MX b r σ th P Q M ∧ SV σ ∧ (a : Int) < σ 1 0 0 ∧ (c : Int) < σ 1 0 0 ∧ K (.inl (some (.int (iZ (bZ (alkZ σ a c)))))) M sz
theorem s_X10_areAlike {l : Launch} {g : hG} (hst : l.stackTraces = false) : Ctr l g mX10_areAlike sp_X10_areAlike := by
  refine Ctr.mk9 hst (by decide) ?_ ?_
  · rintro as M sz K ⟨b, r, σ, th, P, Q, a, c, rfl, hM, hV, ha, hc, hK⟩
    exact ⟨by simp [mX10_areAlike], cat_ok rfl⟩
  rintro X as M sz K hX rfl rfl hR ⟨b, r, σ, th, P, Q, a, c, rfl, hM, hV, ha, hc, hK⟩
  show G X 0 [.ref r, .int (iZ (a : Int)), .int (iZ (c : Int)), U9, U9] [] M sz 0 0
  obtain ⟨n0, n1, n2, n3, ⟨e0, hn0⟩, ⟨e1, hn1⟩, ⟨e2, hn2⟩, ⟨e3, hn3⟩⟩ := hV.nat
  have ha10 : M (b + 10) = some (.inr (0, 12, .inl (fun i => iZ (σ 24 i 0)))) := hM.2.2 10 (by decide)
  have ha11 : M (b + 11) = some (.inr (0, 96, .inl (fun i => iZ (σ 25 (i / 8) (i % 8))))) := hM.2.2 11 (by decide)
  have hA9 := (hV.u a).2.2.2.2.1.1
  have hC9 := (hV.u c).2.2.2.2.1.1
  have loop : ∀ (k9 k : Nat) (e : Int), (k : Int) + k9 = σ 24 a 0 → e = bZ (alP σ a c k) → G X 24 [.ref r, .int (iZ (a : Int)), .int (iZ (c : Int)), .int (iZ e), .int (iZ (k : Int))] [] M sz 0 0 := by
    intro k9
    induction k9 with
    | zero =>
      intro k e hk he
      have hb01 := bZ_le (alP σ a c k)
      refine g_iload hX dX10_areAlike_24 rfl ?_
      refine g_aload hX dX10_areAlike_26 rfl rfl ?_
      refine g_get hX dX10_areAlike_27 (by first | assumption | exact hM.2.1) rfl ?_
      refine g_iload hX dX10_areAlike_30 rfl ?_
      refine z_iald hX dX10_areAlike_31 (by first | assumption | exact hM.2.1) (by omega) (by omega) (by decide) rfl ?_
      try simp only [Int.toNat_natCast]
      refine z_icmp_ge hX dX10_areAlike_32 (by first | assumption | (constructor <;> omega)) (by first | assumption | (constructor <;> omega)) (fun c32 => ?_) (fun c32 => ?_)
      · refine g_iload hX dX10_areAlike_78 rfl ?_
        refine g_iret hX hR dX10_areAlike_79 rfl (by first | rfl | exact nar_b _ | exact nar_01 (by omega)) (by decide) (by decide) ?_
        exact kint hK (by rw [he]; exact bZ_iff ⟨fun h9 => ⟨h9.1, fun j hj => h9.2 j (by omega)⟩, fun h9 => ⟨h9.1, fun j hj => h9.2 j (by have := h9.1; omega)⟩⟩)
      · exfalso; omega
    | succ k9 ih =>
      intro k e hk he
      have hb01 := bZ_le (alP σ a c k)
      refine g_iload hX dX10_areAlike_24 rfl ?_
      refine g_aload hX dX10_areAlike_26 rfl rfl ?_
      refine g_get hX dX10_areAlike_27 (by first | assumption | exact hM.2.1) rfl ?_
      refine g_iload hX dX10_areAlike_30 rfl ?_
      refine z_iald hX dX10_areAlike_31 (by first | assumption | exact hM.2.1) (by omega) (by omega) (by decide) rfl ?_
      try simp only [Int.toNat_natCast]
      refine z_icmp_ge hX dX10_areAlike_32 (by first | assumption | (constructor <;> omega)) (by first | assumption | (constructor <;> omega)) (fun c32 => ?_) (fun c32 => ?_)
      · refine g_iload hX dX10_areAlike_78 rfl ?_
        refine g_iret hX hR dX10_areAlike_79 rfl (by first | rfl | exact nar_b _ | exact nar_01 (by omega)) (by decide) (by decide) ?_
        exfalso; omega
      · refine g_iload hX dX10_areAlike_35 rfl ?_
        by_cases hp9 : alP σ a c k
        · refine z_if_eq hX dX10_areAlike_36 (by constructor <;> omega) (fun c36 => absurd c36 (by rw [he, bZ_t hp9]; decide)) (fun c36 => ?_)
          refine g_aload hX dX10_areAlike_39 rfl rfl ?_
          refine g_get hX dX10_areAlike_40 (by first | assumption | exact hM.2.1) rfl ?_
          refine g_const hX dX10_areAlike_43 ?_
          refine g_iload hX dX10_areAlike_45 rfl ?_
          refine z_imul hX dX10_areAlike_46 ?_
          refine g_iload hX dX10_areAlike_47 rfl ?_
          refine z_iadd hX dX10_areAlike_49 ?_
          refine z_iald hX dX10_areAlike_50 ha11 (by omega) (by omega) (by decide) rfl ?_
          rw [(div8 (t := a) (k := k) (by omega)).1, (div8 (t := a) (k := k) (by omega)).2]
          refine g_aload hX dX10_areAlike_51 rfl rfl ?_
          refine g_get hX dX10_areAlike_52 (by first | assumption | exact hM.2.1) rfl ?_
          refine g_const hX dX10_areAlike_55 ?_
          refine g_iload hX dX10_areAlike_57 rfl ?_
          refine z_imul hX dX10_areAlike_58 ?_
          refine g_iload hX dX10_areAlike_59 rfl ?_
          refine z_iadd hX dX10_areAlike_61 ?_
          refine z_iald hX dX10_areAlike_62 ha11 (by omega) (by omega) (by decide) rfl ?_
          rw [(div8 (t := c) (k := k) (by omega)).1, (div8 (t := c) (k := k) (by omega)).2]
          have hs1 := ((hV.u a).2.2.2.2.1.2 k).1
          have hs2 := ((hV.u c).2.2.2.2.1.2 k).1
          refine z_icmp_ne hX dX10_areAlike_63 (by first | assumption | (constructor <;> omega)) (by first | assumption | (constructor <;> omega)) (fun c63 => ?_) (fun c63 => ?_)
          · refine g_const hX dX10_areAlike_70 ?_
            refine g_istore hX dX10_areAlike_71 ?_
            dsimp only [List.set]
            refine z_iinc hX dX10_areAlike_72 rfl ?_
            dsimp only [List.set]
            refine g_goto hX dX10_areAlike_75 ?_
            exact ih (k + 1) 0 (by omega) ((bZ_f (fun h9 => c63 (h9.2 k (by omega)))).symm)
          · refine g_const hX dX10_areAlike_66 ?_
            refine g_goto hX dX10_areAlike_67 ?_
            refine g_istore hX dX10_areAlike_71 ?_
            dsimp only [List.set]
            refine z_iinc hX dX10_areAlike_72 rfl ?_
            dsimp only [List.set]
            refine g_goto hX dX10_areAlike_75 ?_
            exact ih (k + 1) 1 (by omega) ((bZ_t ⟨hp9.1, fun j hj => by
              by_cases e9 : j = k
              · rw [e9]; exact c63
              · exact hp9.2 j (by omega)⟩).symm)
        · refine z_if_eq hX dX10_areAlike_36 (by constructor <;> omega) (fun c36 => ?_) (fun c36 => absurd (by rw [he, bZ_f hp9]) c36)
          refine g_iload hX dX10_areAlike_78 rfl ?_
          refine g_iret hX hR dX10_areAlike_79 rfl (by first | rfl | exact nar_b _ | exact nar_01 (by omega)) (by decide) (by decide) ?_
          exact kint hK (by rw [he, bZ_f hp9]; exact bZ_f (fun h9 => hp9 ⟨h9.1, fun j hj => h9.2 j (by have := h9.1; omega)⟩))
  refine g_aload hX dX10_areAlike_0 rfl rfl ?_
  refine g_get hX dX10_areAlike_1 (by first | assumption | exact hM.2.1) rfl ?_
  refine g_iload hX dX10_areAlike_4 rfl ?_
  refine z_iald hX dX10_areAlike_5 (by first | assumption | exact hM.2.1) (by omega) (by omega) (by decide) rfl ?_
  try simp only [Int.toNat_natCast]
  refine g_aload hX dX10_areAlike_6 rfl rfl ?_
  refine g_get hX dX10_areAlike_7 (by first | assumption | exact hM.2.1) rfl ?_
  refine g_iload hX dX10_areAlike_10 rfl ?_
  refine z_iald hX dX10_areAlike_11 (by first | assumption | exact hM.2.1) (by omega) (by omega) (by decide) rfl ?_
  try simp only [Int.toNat_natCast]
  refine z_icmp_ne hX dX10_areAlike_12 (by first | assumption | (constructor <;> omega)) (by first | assumption | (constructor <;> omega)) (fun c12 => ?_) (fun c12 => ?_)
  · refine g_const hX dX10_areAlike_19 ?_
    refine g_istore hX dX10_areAlike_20 ?_
    dsimp only [List.set]
    refine g_const hX dX10_areAlike_21 ?_
    refine g_istore hX dX10_areAlike_22 ?_
    dsimp only [List.set]
    exact loop (σ 24 a 0).toNat 0 0 (by omega) ((bZ_f (fun h9 => c12 h9.1)).symm)
  · refine g_const hX dX10_areAlike_15 ?_
    refine g_goto hX dX10_areAlike_16 ?_
    refine g_istore hX dX10_areAlike_20 ?_
    dsimp only [List.set]
    refine g_const hX dX10_areAlike_21 ?_
    refine g_istore hX dX10_areAlike_22 ?_
    dsimp only [List.set]
    exact loop (σ 24 a 0).toNat 0 1 (by omega) ((bZ_t ⟨c12, fun j hj => absurd hj (Nat.not_lt_zero j)⟩).symm)

def sp_X10_bestOf : hS := fun as M sz K => ∃ (b r : Nat) (σ : SG) (th : Int) (P Q : Nat → Int) (t : Nat) (a1 y : Int), as = [.ref r, .int (iZ (t : Int)), .int (iZ a1), .int (iZ y)] ∧ MX b r σ th P Q M ∧ SV σ ∧ (t : Int) < σ 0 0 0 ∧ (a1 = 0 ∨ a1 = 1) ∧ (0 ≤ y ∧ y ≤ 5000) ∧ K (.inl (some (.int (iZ (bstZ σ t (1 - a1) y))))) M sz
theorem s_X10_bestOf {l : Launch} {g : hG} (hst : l.stackTraces = false) : Ctr l g mX10_bestOf sp_X10_bestOf := by
  refine Ctr.mk9 hst (by decide) ?_ ?_
  · rintro as M sz K ⟨b, r, σ, th, P, Q, t, a1, y, rfl, hM, hV, ht, ha1, hy, hK⟩
    exact ⟨by simp [mX10_bestOf], cat_ok rfl⟩
  rintro X as M sz K hX rfl rfl hR ⟨b, r, σ, th, P, Q, t, a1, y, rfl, hM, hV, ht, ha1, hy, hK⟩
  show G X 0 [.ref r, .int (iZ (t : Int)), .int (iZ a1), .int (iZ y), U9, U9, U9] [] M sz 0 0
  obtain ⟨n0, n1, n2, n3, ⟨e0, hn0⟩, ⟨e1, hn1⟩, ⟨e2, hn2⟩, ⟨e3, hn3⟩⟩ := hV.nat
  have loop : ∀ (k9 u : Nat) (v6 : Value), (u : Int) + k9 = σ 1 0 0 → G X 7 [.ref r, .int (iZ (t : Int)), .int (iZ a1), .int (iZ y), .int (iZ (bstK σ t (1 - a1) y u)), .int (iZ (u : Int)), v6] [] M sz 0 0 := by
    intro k9
    induction k9 with
    | zero =>
      intro u v6 hk
      have hbr := bst_r σ t (1 - a1) y u
      refine g_iload hX dX10_bestOf_7 rfl ?_
      refine g_aload hX dX10_bestOf_9 rfl rfl ?_
      refine g_get hX dX10_bestOf_10 (by first | assumption | exact hM.2.1) rfl ?_
      refine z_icmp_ge hX dX10_bestOf_13 (by first | assumption | (constructor <;> omega)) (by first | assumption | (constructor <;> omega)) (fun c13 => ?_) (fun c13 => ?_)
      · refine g_iload hX dX10_bestOf_91 rfl ?_
        refine g_iret hX hR dX10_bestOf_93 rfl rfl (by decide) (by decide) ?_
        exact kint hK (by unfold bstZ; congr 1; omega)
      · exfalso; omega
    | succ k9 ih =>
      intro u v6 hk
      have hbr := bst_r σ t (1 - a1) y u
      refine g_iload hX dX10_bestOf_7 rfl ?_
      refine g_aload hX dX10_bestOf_9 rfl rfl ?_
      refine g_get hX dX10_bestOf_10 (by first | assumption | exact hM.2.1) rfl ?_
      refine z_icmp_ge hX dX10_bestOf_13 (by first | assumption | (constructor <;> omega)) (by first | assumption | (constructor <;> omega)) (fun c13 => ?_) (fun c13 => ?_)
      · exfalso; omega
      · refine g_aload hX dX10_bestOf_16 rfl rfl ?_
        refine g_iload hX dX10_bestOf_17 rfl ?_
        refine g_iload hX dX10_bestOf_18 rfl ?_
        refine g_cV2 (c2 := 0) (s2 := 0) hX (s_X10_fit hst) dX10_bestOf_20 (by first | assumption | exact hM.2.1) (by first | exact Nat.le_of_ble_eq_true rfl | simp [cat_rf, Value.category]) ⟨rfl, rfl, by decide, by decide⟩ ?_
        refine ⟨_, _, _, _, _, _, _, _, rfl, hM, hV, by omega, by omega, Kc_i ?_⟩
        have hft := fit_r σ t u
        refine z_if_le hX dX10_bestOf_23 (by first | assumption | (constructor <;> omega)) (fun c23 => ?_) (fun c23 => ?_)
        · refine g_const hX dX10_bestOf_44 ?_
          refine g_istore hX dX10_bestOf_45 ?_
          dsimp only [List.set]
          refine g_iload hX dX10_bestOf_47 rfl ?_
          refine z_if_eq hX dX10_bestOf_49 (by first | assumption | (constructor <;> omega)) (fun c49 => ?_) (fun c49 => ?_)
          · refine g_iload hX dX10_bestOf_81 rfl ?_
            refine g_istore hX dX10_bestOf_83 ?_
            dsimp only [List.set]
            refine z_iinc hX dX10_bestOf_85 rfl ?_
            dsimp only [List.set]
            refine g_goto hX dX10_bestOf_88 ?_
            have hb1 : bstK σ t (1 - a1) y (u + 1) = bstK σ t (1 - a1) y u := bst_n (fun h9 => h9.2.1 (by omega))
            have h9 := fun v6 => ih (u + 1) v6 (by omega)
            rw [hb1] at h9
            exact h9 _
          · exfalso; omega
        · refine g_iload hX dX10_bestOf_26 rfl ?_
          refine z_if_ne hX dX10_bestOf_27 (by first | assumption | (constructor <;> omega)) (fun c27 => ?_) (fun c27 => ?_)
          · refine g_const hX dX10_bestOf_40 ?_
            refine g_goto hX dX10_bestOf_41 ?_
            refine g_istore hX dX10_bestOf_45 ?_
            dsimp only [List.set]
            refine g_iload hX dX10_bestOf_47 rfl ?_
            refine z_if_eq hX dX10_bestOf_49 (by first | assumption | (constructor <;> omega)) (fun c49 => ?_) (fun c49 => ?_)
            · exfalso; omega
            · refine g_iload hX dX10_bestOf_52 rfl ?_
              refine g_const hX dX10_bestOf_54 ?_
              refine z_icmp_eq hX dX10_bestOf_56 (by first | assumption | (constructor <;> omega)) (by first | assumption | (constructor <;> omega)) (fun c56 => ?_) (fun c56 => ?_)
              · refine g_iload hX dX10_bestOf_76 rfl ?_
                refine g_goto hX dX10_bestOf_78 ?_
                refine g_istore hX dX10_bestOf_83 ?_
                dsimp only [List.set]
                refine z_iinc hX dX10_bestOf_85 rfl ?_
                dsimp only [List.set]
                refine g_goto hX dX10_bestOf_88 ?_
                have hb1 : bstK σ t (1 - a1) y (u + 1) = (u : Int) := bst_y (⟨Or.inl (by omega), (by omega), Or.inl c56⟩)
                have h9 := fun v6 => ih (u + 1) v6 (by omega)
                rw [hb1] at h9
                exact h9 _
              · refine g_aload hX dX10_bestOf_59 rfl rfl ?_
                refine g_iload hX dX10_bestOf_60 rfl ?_
                refine g_iload hX dX10_bestOf_61 rfl ?_
                refine g_cV2 (c2 := 0) (s2 := 0) hX (s_X10_clash hst) dX10_bestOf_63 (by first | assumption | exact hM.2.1) (by first | exact Nat.le_of_ble_eq_true rfl | simp [cat_rf, Value.category]) ⟨rfl, rfl, by decide, by decide⟩ ?_
                refine ⟨_, _, _, _, _, _, t, u, rfl, hM, hV, by omega, by omega, (by omega), Kc_i ?_⟩
                have hcl := cl_r hV t u
                refine g_aload hX dX10_bestOf_66 rfl rfl ?_
                refine g_iload hX dX10_bestOf_67 rfl ?_
                refine g_iload hX dX10_bestOf_68 rfl ?_
                refine g_cV2 (c2 := 0) (s2 := 0) hX (s_X10_clash hst) dX10_bestOf_70 (by first | assumption | exact hM.2.1) (by first | exact Nat.le_of_ble_eq_true rfl | simp [cat_rf, Value.category]) ⟨rfl, rfl, by decide, by decide⟩ ?_
                obtain ⟨hb0, hb1, hb2⟩ := (bst_r σ t (1 - a1) y u).resolve_left c56
                obtain ⟨b9, hb⟩ : ∃ b9 : Nat, bstK σ t (1 - a1) y u = (b9 : Int) := ⟨(bstK σ t (1 - a1) y u).toNat, by omega⟩
                rw [hb, Int.toNat_natCast] at hb2
                rw [hb]
                refine ⟨_, _, _, _, _, _, t, b9, rfl, hM, hV, by omega, by omega, hb2, Kc_i ?_⟩
                have hcl9 := cl_r hV t b9
                refine z_icmp_ge hX dX10_bestOf_73 (by first | assumption | (constructor <;> omega)) (by first | assumption | (constructor <;> omega)) (fun c73 => ?_) (fun c73 => ?_)
                · refine g_iload hX dX10_bestOf_81 rfl ?_
                  refine g_istore hX dX10_bestOf_83 ?_
                  dsimp only [List.set]
                  refine z_iinc hX dX10_bestOf_85 rfl ?_
                  dsimp only [List.set]
                  refine g_goto hX dX10_bestOf_88 ?_
                  have hb1 : bstK σ t (1 - a1) y (u + 1) = bstK σ t (1 - a1) y u := bst_n (fun h9 => h9.2.2.elim (fun q => c56 q) (fun q => by rw [hb, Int.toNat_natCast] at q; omega))
                  have h9 := fun v6 => ih (u + 1) v6 (by omega)
                  rw [hb1, hb] at h9
                  exact h9 _
                · refine g_iload hX dX10_bestOf_76 rfl ?_
                  refine g_goto hX dX10_bestOf_78 ?_
                  refine g_istore hX dX10_bestOf_83 ?_
                  dsimp only [List.set]
                  refine z_iinc hX dX10_bestOf_85 rfl ?_
                  dsimp only [List.set]
                  refine g_goto hX dX10_bestOf_88 ?_
                  have hb1 : bstK σ t (1 - a1) y (u + 1) = (u : Int) := bst_y (⟨Or.inl (by omega), (by omega), Or.inr (by rw [hb, Int.toNat_natCast]; omega)⟩)
                  have h9 := fun v6 => ih (u + 1) v6 (by omega)
                  rw [hb1] at h9
                  exact h9 _
          · refine g_aload hX dX10_bestOf_30 rfl rfl ?_
            refine g_iload hX dX10_bestOf_31 rfl ?_
            refine g_iload hX dX10_bestOf_33 rfl ?_
            refine g_cV2 (c2 := 0) (s2 := 0) hX (s_X10_isTuneFree hst) dX10_bestOf_34 (by first | assumption | exact hM.2.1) (by first | exact Nat.le_of_ble_eq_true rfl | simp [cat_rf, Value.category]) ⟨rfl, rfl, by decide, by decide⟩ ?_
            refine ⟨_, _, _, _, _, _, _, _, rfl, hM, hV, by omega, by omega, Kc_i ?_⟩
            refine z_ifb_eq hX dX10_bestOf_37 (fun c37 => ?_) (fun c37 => ?_)
            · refine g_const hX dX10_bestOf_44 ?_
              refine g_istore hX dX10_bestOf_45 ?_
              dsimp only [List.set]
              refine g_iload hX dX10_bestOf_47 rfl ?_
              refine z_if_eq hX dX10_bestOf_49 (by first | assumption | (constructor <;> omega)) (fun c49 => ?_) (fun c49 => ?_)
              · refine g_iload hX dX10_bestOf_81 rfl ?_
                refine g_istore hX dX10_bestOf_83 ?_
                dsimp only [List.set]
                refine z_iinc hX dX10_bestOf_85 rfl ?_
                dsimp only [List.set]
                refine g_goto hX dX10_bestOf_88 ?_
                have hb1 : bstK σ t (1 - a1) y (u + 1) = bstK σ t (1 - a1) y u := bst_n (fun h9 => h9.1.elim (fun q => by omega) (fun q => c37 q))
                have h9 := fun v6 => ih (u + 1) v6 (by omega)
                rw [hb1] at h9
                exact h9 _
              · exfalso; omega
            · refine g_const hX dX10_bestOf_40 ?_
              refine g_goto hX dX10_bestOf_41 ?_
              refine g_istore hX dX10_bestOf_45 ?_
              dsimp only [List.set]
              refine g_iload hX dX10_bestOf_47 rfl ?_
              refine z_if_eq hX dX10_bestOf_49 (by first | assumption | (constructor <;> omega)) (fun c49 => ?_) (fun c49 => ?_)
              · exfalso; omega
              · refine g_iload hX dX10_bestOf_52 rfl ?_
                refine g_const hX dX10_bestOf_54 ?_
                refine z_icmp_eq hX dX10_bestOf_56 (by first | assumption | (constructor <;> omega)) (by first | assumption | (constructor <;> omega)) (fun c56 => ?_) (fun c56 => ?_)
                · refine g_iload hX dX10_bestOf_76 rfl ?_
                  refine g_goto hX dX10_bestOf_78 ?_
                  refine g_istore hX dX10_bestOf_83 ?_
                  dsimp only [List.set]
                  refine z_iinc hX dX10_bestOf_85 rfl ?_
                  dsimp only [List.set]
                  refine g_goto hX dX10_bestOf_88 ?_
                  have hb1 : bstK σ t (1 - a1) y (u + 1) = (u : Int) := bst_y (⟨Or.inr c37, (by omega), Or.inl c56⟩)
                  have h9 := fun v6 => ih (u + 1) v6 (by omega)
                  rw [hb1] at h9
                  exact h9 _
                · refine g_aload hX dX10_bestOf_59 rfl rfl ?_
                  refine g_iload hX dX10_bestOf_60 rfl ?_
                  refine g_iload hX dX10_bestOf_61 rfl ?_
                  refine g_cV2 (c2 := 0) (s2 := 0) hX (s_X10_clash hst) dX10_bestOf_63 (by first | assumption | exact hM.2.1) (by first | exact Nat.le_of_ble_eq_true rfl | simp [cat_rf, Value.category]) ⟨rfl, rfl, by decide, by decide⟩ ?_
                  refine ⟨_, _, _, _, _, _, t, u, rfl, hM, hV, by omega, by omega, (by omega), Kc_i ?_⟩
                  have hcl := cl_r hV t u
                  refine g_aload hX dX10_bestOf_66 rfl rfl ?_
                  refine g_iload hX dX10_bestOf_67 rfl ?_
                  refine g_iload hX dX10_bestOf_68 rfl ?_
                  refine g_cV2 (c2 := 0) (s2 := 0) hX (s_X10_clash hst) dX10_bestOf_70 (by first | assumption | exact hM.2.1) (by first | exact Nat.le_of_ble_eq_true rfl | simp [cat_rf, Value.category]) ⟨rfl, rfl, by decide, by decide⟩ ?_
                  obtain ⟨hb0, hb1, hb2⟩ := (bst_r σ t (1 - a1) y u).resolve_left c56
                  obtain ⟨b9, hb⟩ : ∃ b9 : Nat, bstK σ t (1 - a1) y u = (b9 : Int) := ⟨(bstK σ t (1 - a1) y u).toNat, by omega⟩
                  rw [hb, Int.toNat_natCast] at hb2
                  rw [hb]
                  refine ⟨_, _, _, _, _, _, t, b9, rfl, hM, hV, by omega, by omega, hb2, Kc_i ?_⟩
                  have hcl9 := cl_r hV t b9
                  refine z_icmp_ge hX dX10_bestOf_73 (by first | assumption | (constructor <;> omega)) (by first | assumption | (constructor <;> omega)) (fun c73 => ?_) (fun c73 => ?_)
                  · refine g_iload hX dX10_bestOf_81 rfl ?_
                    refine g_istore hX dX10_bestOf_83 ?_
                    dsimp only [List.set]
                    refine z_iinc hX dX10_bestOf_85 rfl ?_
                    dsimp only [List.set]
                    refine g_goto hX dX10_bestOf_88 ?_
                    have hb1 : bstK σ t (1 - a1) y (u + 1) = bstK σ t (1 - a1) y u := bst_n (fun h9 => h9.2.2.elim (fun q => c56 q) (fun q => by rw [hb, Int.toNat_natCast] at q; omega))
                    have h9 := fun v6 => ih (u + 1) v6 (by omega)
                    rw [hb1, hb] at h9
                    exact h9 _
                  · refine g_iload hX dX10_bestOf_76 rfl ?_
                    refine g_goto hX dX10_bestOf_78 ?_
                    refine g_istore hX dX10_bestOf_83 ?_
                    dsimp only [List.set]
                    refine z_iinc hX dX10_bestOf_85 rfl ?_
                    dsimp only [List.set]
                    refine g_goto hX dX10_bestOf_88 ?_
                    have hb1 : bstK σ t (1 - a1) y (u + 1) = (u : Int) := bst_y (⟨Or.inr c37, (by omega), Or.inr (by rw [hb, Int.toNat_natCast]; omega)⟩)
                    have h9 := fun v6 => ih (u + 1) v6 (by omega)
                    rw [hb1] at h9
                    exact h9 _
  refine g_const hX dX10_bestOf_0 ?_
  refine g_istore hX dX10_bestOf_2 ?_
  dsimp only [List.set]
  refine g_const hX dX10_bestOf_4 ?_
  refine g_istore hX dX10_bestOf_5 ?_
  dsimp only [List.set]
  exact loop (σ 1 0 0).toNat 0 _ (by omega)
