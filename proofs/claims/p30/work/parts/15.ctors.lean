/-! constructors of the small objects: each write gives a map that is known by what it holds -/
section OP
variable {X : hX} {d : hD} {pc n t i a ci k : Nat} {lv st : List Value} {M : hM} {sz cs ss : Nat}
theorem o_put {fs : List Value} {v : Value} {ty : FieldType} (hX : Cok X d) (h : AtP d pc ci k ty n) (hm : M a = some (.inl (ci, fs))) (hlen : k < fs.length) (hn : narrow ty v = v) (hfit : fits ty v = true) (kk : ∀ M1 : hM, M1 a = some (.inl (ci, fs.set k v)) → (∀ q, q ≠ a → M1 q = M q) → G X n lv st M1 sz cs ss) : G X pc lv (v :: .ref a :: st) M sz cs ss := g_put hX h hm hlen hn hfit (kk _ (hup_s _ _ _) (fun _ h => hup_n _ _ h))
theorem o_new {fs : List Value} {N : Nat} (hX : Cok X d) (h : AtN d pc ci fs n) (hN : fs.length = N) (hc : cs + 1 ≤ d.2.2.2.2.1.cells) (hs : ss + N ≤ d.2.2.2.2.1.slots) (kk : ∀ M1 : hM, M1 sz = some (.inl (ci, fs)) → (∀ q, q ≠ sz → M1 q = M q) → G X n lv (.ref sz :: st) M1 (sz + 1) (cs + 1) (ss + N)) : G X pc lv st M sz cs ss := g_new hX h hN hc hs (kk _ (hup_s _ _ _) (fun _ h => hup_n _ _ h))
theorem o_newa {i : Int32} {k9 N : Nat} (hX : Cok X d) (h : AtNA d pc k9 n) (hi : i = nI N) (hN : N < 65536) (hc : cs + 1 ≤ d.2.2.2.2.1.cells) (hs : ss + N ≤ d.2.2.2.2.1.slots) (kk : ∀ M1 : hM, M1 sz = some (.inr (k9, N, nul9 k9)) → (∀ q, q ≠ sz → M1 q = M q) → G X n lv (.ref sz :: st) M1 (sz + 1) (cs + 1) (ss + N)) : G X pc lv (.int i :: st) M sz cs ss := g_newa hX h hi hN hc hs (kk _ (hup_s _ _ _) (fun _ h => hup_n _ _ h))
theorem o_iast {len : Nat} {f : Nat → Int32} {z b : Int} (hX : Cok X d) (h : At d pc .iastore 1 n) (hm : M a = some (.inr (0, len, .inl f))) (h0 : 0 ≤ z) (h1 : z < len) (hl : len < 100000) (kk : ∀ M1 : hM, M1 a = some (.inr (0, len, .inl (upd f z.toNat (iZ b)))) → (∀ q, q ≠ a → M1 q = M q) → G X n lv st M1 sz cs ss) : G X pc lv (.int (iZ b) :: .int (iZ z) :: .ref a :: st) M sz cs ss := z_iast hX h hm h0 h1 hl (kk _ (hup_s _ _ _) (fun _ h => hup_n _ _ h))
end OP
theorem FRM.put9 {M M' M2 : hM} {r sz sz' : Nat} {y : hC} (h : FRM M M' r sz sz') (hr : M r = some y) (hn : ∀ q, q ≠ r → M2 q = M' q) : FRM M M2 r sz sz' := by
  refine ⟨fun q h1 h2 => (hn q h1).trans (h.1 q h1 h2), fun q z hz => ?_⟩
  by_cases e : q = r
  · exact Or.inl ⟨y, by rw [e]; exact hr⟩
  · rw [hn q e] at hz
    exact h.2 q z hz
theorem FRM.new9 {M M' M2 : hM} {r sz sz' a : Nat} (h : FRM M M' r sz sz') (h1 : sz ≤ a) (h2 : a < sz') (hn : ∀ q, q ≠ a → M2 q = M' q) : FRM M M2 r sz sz' := by
  refine ⟨fun q g1 g2 => (hn q (by omega)).trans (h.1 q g1 g2), fun q z hz => ?_⟩
  by_cases e : q = a
  · exact Or.inr (by omega)
  · rw [hn q e] at hz
    exact h.2 q z hz
theorem FRM.rf {M : hM} {r sz sz' : Nat} : FRM M M r sz sz' := ⟨fun _ _ _ => rfl, fun q x hx => Or.inl ⟨x, hx⟩⟩
theorem FRM.ap {M M1 M2 : hM} {r r2 sz sz1 sz2 sz' : Nat} (h : FRM M M1 r sz sz') (h2 : FRM M1 M2 r2 sz1 sz2) (hr : sz ≤ r2 ∧ r2 < sz') (h3 : sz ≤ sz1) (h4 : sz2 ≤ sz') : FRM M M2 r sz sz' := by
  refine ⟨fun q g1 g2 => (h2.1 q (by omega) (by omega)).trans (h.1 q g1 g2), fun q z hz => ?_⟩
  rcases h2.2 q z hz with ⟨y, hy⟩ | h9
  · exact h.2 q y hy
  · exact Or.inr (by omega)

def sp_X4_init : hS := fun as M sz K => ∃ (r : Nat) (v0 v1 v2 : Value), as = [.ref r] ∧ M r = some (.inl (4, [v0, v1, v2])) ∧ (∀ M' : hM, M' r = some (.inl (4, [.ref sz, .ref (sz + 1), .int (iZ 0)])) → M' sz = some (.inr (0, 8, .inl (fun _ => iZ 0))) → M' (sz + 1) = some (.inr (0, 8, .inl (fun _ => iZ 0))) → FRM M M' r sz (sz + 2) → K (.inl none) M' (sz + 2))
theorem s_X4_init {l : Launch} {g : hG} (hst : l.stackTraces = false) : Ctr l g mX4_init sp_X4_init := by
  refine Ctr.mk9 hst (by decide) ?_ ?_
  · rintro as M sz K ⟨r, v0, v1, v2, rfl, hm, hK⟩
    exact ⟨by simp [mX4_init], cat_ok rfl⟩
  rintro X as M sz K hX rfl rfl hR ⟨r, v0, v1, v2, rfl, hm, hK⟩
  show G X 0 [.ref r] [] M sz 0 0
  refine g_dom hX (fun hdom => ?_)
  have hr9 := (hdom r _ hm).1
  have hm0 := hm
  have hfr : FRM M M r sz (sz + 2) := FRM.rf
  refine g_aload hX dX4_init_0 rfl rfl ?_
  refine g_obj hX dX4_init_1 ?_
  refine g_aload hX dX4_init_4 rfl rfl ?_
  refine g_const hX dX4_init_5 ?_
  refine o_newa hX dX4_init_7 (N := 8) rfl (by decide) (by decide) (by decide) (fun M1 hs1 hn1 => ?_)
  have hm := (hn1 (r) (by omega)).trans hm
  have hf1 := hs1
  have hfr := hfr.new9 (a := sz) (by omega) (by omega) hn1
  refine o_put hX dX4_init_9 (by assumption) (by simp) rfl rfl (fun M2 hs2 hn2 => ?_)
  dsimp only [List.set] at hs2
  have hm := hs2
  have hf1 := (hn2 (sz) (by omega)).trans hf1
  have hfr := hfr.put9 hm0 hn2
  refine g_aload hX dX4_init_12 rfl rfl ?_
  refine g_const hX dX4_init_13 ?_
  refine o_newa hX dX4_init_15 (N := 8) rfl (by decide) (by decide) (by decide) (fun M3 hs3 hn3 => ?_)
  have hm := (hn3 (r) (by omega)).trans hm
  have hf1 := (hn3 (sz) (by omega)).trans hf1
  have hf3 := hs3
  have hfr := hfr.new9 (a := sz + 1) (by omega) (by omega) hn3
  refine o_put hX dX4_init_17 (by assumption) (by simp) rfl rfl (fun M4 hs4 hn4 => ?_)
  dsimp only [List.set] at hs4
  have hm := hs4
  have hf1 := (hn4 (sz) (by omega)).trans hf1
  have hf3 := (hn4 (sz + 1) (by omega)).trans hf3
  have hfr := hfr.put9 hm0 hn4
  refine g_aload hX dX4_init_20 rfl rfl ?_
  refine g_const hX dX4_init_21 ?_
  refine o_put hX dX4_init_22 (by assumption) (by simp) rfl rfl (fun M5 hs5 hn5 => ?_)
  dsimp only [List.set] at hs5
  have hm := hs5
  have hf1 := (hn5 (sz) (by omega)).trans hf1
  have hf3 := (hn5 (sz + 1) (by omega)).trans hf3
  have hfr := hfr.put9 hm0 hn5
  refine g_vret hX hR dX4_init_25 rfl (by decide) (by decide) ?_
  exact hK _ hm hf1 hf3 hfr

def sp_X2_init : hS := fun as M sz K => ∃ (r : Nat) (v0 : Value), as = [.ref r] ∧ M r = some (.inl (2, [v0])) ∧ (∀ M' : hM, M' r = some (.inl (2, [.ref sz])) → M' sz = some (.inr (0, 3, .inl (fun _ => iZ (-100)))) → FRM M M' r sz (sz + 1) → K (.inl none) M' (sz + 1))
theorem s_X2_init {l : Launch} {g : hG} (hst : l.stackTraces = false) : Ctr l g mX2_init sp_X2_init := by
  refine Ctr.mk9 hst (by decide) ?_ ?_
  · rintro as M sz K ⟨r, v0, rfl, hm, hK⟩
    exact ⟨by simp [mX2_init], cat_ok rfl⟩
  rintro X as M sz K hX rfl rfl hR ⟨r, v0, rfl, hm, hK⟩
  show G X 0 [.ref r] [] M sz 0 0
  refine g_dom hX (fun hdom => ?_)
  have hr9 := (hdom r _ hm).1
  have hm0 := hm
  have hfr : FRM M M r sz (sz + 1) := FRM.rf
  refine g_aload hX dX2_init_0 rfl rfl ?_
  refine g_obj hX dX2_init_1 ?_
  refine g_aload hX dX2_init_4 rfl rfl ?_
  refine g_const hX dX2_init_5 ?_
  refine o_newa hX dX2_init_6 (N := 3) rfl (by decide) (by decide) (by decide) (fun M1 hs1 hn1 => ?_)
  have hm := (hn1 (r) (by omega)).trans hm
  have hf1 := hs1
  have hfr := hfr.new9 (a := sz) (by omega) (by omega) hn1
  refine o_put hX dX2_init_8 (by assumption) (by simp) rfl rfl (fun M2 hs2 hn2 => ?_)
  dsimp only [List.set] at hs2
  have hm := hs2
  have hf1 := (hn2 (sz) (by omega)).trans hf1
  have hfr := hfr.put9 hm0 hn2
  refine g_aload hX dX2_init_11 rfl rfl ?_
  refine g_get hX dX2_init_12 (by assumption) rfl ?_
  refine g_const hX dX2_init_15 ?_
  refine g_cS2 (c2 := 1) (s2 := 3) hX (s_J7_fill_53178 hst) dX2_init_17 (by first | exact Nat.le_of_ble_eq_true rfl | simp [cat_rf, Value.category]) ⟨rfl, rfl, by decide, by decide⟩ ?_
  refine ⟨_, 3, _, fun _ => iZ 0, rfl, hf1, by decide, Kc_v ?_⟩
  refine g_vret hX hR dX2_init_20 rfl (by decide) (by decide) ?_
  exact hK _ ((hup_n _ _ (by omega)).trans hm) (hup_s _ _ _) (hfr.new9 (Nat.le_refl _) (by omega) (fun q h => hup_n _ _ h))

def sp_X5_init : hS := fun as M sz K => ∃ (r t u : Nat) (y md dn : Int) (v0 v1 v2 v3 v4 : Value), as = [.ref r, .ref t, .ref u, .int (iZ y), .int (iZ md), .int (iZ dn)] ∧ M r = some (.inl (5, [v0, v1, v2, v3, v4])) ∧ K (.inl none) (hup M r (.inl (5, [.ref t, .ref u, .int (iZ y), .int (iZ md), .int (iZ dn)]))) sz
theorem s_X5_init {l : Launch} {g : hG} (hst : l.stackTraces = false) : Ctr l g mX5_init sp_X5_init := by
  refine Ctr.mk9 hst (by decide) ?_ ?_
  · rintro as M sz K ⟨r, t, u, y, md, dn, v0, v1, v2, v3, v4, rfl, hm, hK⟩
    exact ⟨by simp [mX5_init], cat_ok rfl⟩
  rintro X as M sz K hX rfl rfl hR ⟨r, t, u, y, md, dn, v0, v1, v2, v3, v4, rfl, hm, hK⟩
  show G X 0 [.ref r, .ref t, .ref u, .int (iZ y), .int (iZ md), .int (iZ dn)] [] M sz 0 0
  refine g_aload hX dX5_init_0 rfl rfl ?_
  refine g_obj hX dX5_init_1 ?_
  refine g_aload hX dX5_init_4 rfl rfl ?_
  refine g_aload hX dX5_init_5 rfl rfl ?_
  refine g_put hX dX5_init_6 (by first | exact hm | exact hup_s _ _ _) (by simp) rfl rfl ?_
  dsimp only [List.set]
  refine g_aload hX dX5_init_9 rfl rfl ?_
  refine g_aload hX dX5_init_10 rfl rfl ?_
  refine g_put hX dX5_init_11 (by first | exact hm | exact hup_s _ _ _) (by simp) rfl rfl ?_
  dsimp only [List.set]
  refine g_aload hX dX5_init_14 rfl rfl ?_
  refine g_iload hX dX5_init_15 rfl ?_
  refine g_put hX dX5_init_16 (by first | exact hm | exact hup_s _ _ _) (by simp) rfl rfl ?_
  dsimp only [List.set]
  refine g_aload hX dX5_init_19 rfl rfl ?_
  refine g_iload hX dX5_init_20 rfl ?_
  refine g_put hX dX5_init_22 (by first | exact hm | exact hup_s _ _ _) (by simp) rfl rfl ?_
  dsimp only [List.set]
  refine g_aload hX dX5_init_25 rfl rfl ?_
  refine g_iload hX dX5_init_26 rfl ?_
  refine g_put hX dX5_init_28 (by first | exact hm | exact hup_s _ _ _) (by simp) rfl rfl ?_
  dsimp only [List.set]
  refine g_vret hX hR dX5_init_31 rfl (by decide) (by decide) ?_
  simp only [hup_hup]; exact hK

def sp_X6_init : hS := fun as M sz K => ∃ (r : Nat) (n9 dd th : Int) (v0 v1 v2 v3 : Value), as = [.ref r, .int (iZ n9), .int (iZ dd), .int (iZ th)] ∧ M r = some (.inl (6, [v0, v1, v2, v3])) ∧ (∀ M' : hM, M' r = some (.inl (6, [.int (iZ n9), .int (iZ th), .ref (sz + 3), .ref sz])) → M' sz = some (.inl (4, [.ref (sz + 1), .ref (sz + 2), .int (iZ 0)])) → M' (sz + 1) = some (.inr (0, 8, .inl (fun _ => iZ 0))) → M' (sz + 2) = some (.inr (0, 8, .inl (fun _ => iZ 0))) → M' (sz + 3) = some (.inl (3, [.int (iZ dd), .int (iZ 0)])) → FRM M M' r sz (sz + 4) → K (.inl none) M' (sz + 4))
theorem s_X6_init {l : Launch} {g : hG} (hst : l.stackTraces = false) : Ctr l g mX6_init sp_X6_init := by
  refine Ctr.mk9 hst (by decide) ?_ ?_
  · rintro as M sz K ⟨r, n9, dd, th, v0, v1, v2, v3, rfl, hm, hK⟩
    exact ⟨by simp [mX6_init], cat_ok rfl⟩
  rintro X as M sz K hX rfl rfl hR ⟨r, n9, dd, th, v0, v1, v2, v3, rfl, hm, hK⟩
  show G X 0 [.ref r, .int (iZ n9), .int (iZ dd), .int (iZ th)] [] M sz 0 0
  refine g_dom hX (fun hdom => ?_)
  have hr9 := (hdom r _ hm).1
  have hm0 := hm
  have hfr : FRM M M r sz (sz + 4) := FRM.rf
  refine g_aload hX dX6_init_0 rfl rfl ?_
  refine g_obj hX dX6_init_1 ?_
  refine g_aload hX dX6_init_4 rfl rfl ?_
  refine o_new hX dX6_init_5 rfl (by decide) (by decide) (fun M1 hs1 hn1 => ?_)
  have hm := (hn1 (r) (by omega)).trans hm
  have hf1 := hs1
  have hfr := hfr.new9 (a := sz) (by omega) (by omega) hn1
  refine g_dup hX dX6_init_8 rfl ?_
  refine g_cIN0 (c2 := 3) (s2 := 19) hX (s_X4_init hst) dX6_init_9 (by first | exact Nat.le_of_ble_eq_true rfl | simp [cat_rf, Value.category]) ⟨rfl, rfl, by decide, by decide⟩ ?_
  refine ⟨_, _, _, _, rfl, hf1, fun M9 h1a h1b h1c h1f => Kc_v ?_⟩
  have hfr := FRM.ap hfr h1f ⟨Nat.le_refl _, by omega⟩ (by omega) (by omega)
  have hm := (h1f.1 r (by omega) (by omega)).trans hm
  have hf1 := h1a
  have hf7 := h1b
  have hf8 := h1c
  refine o_put hX dX6_init_12 (by assumption) (by simp) rfl rfl (fun M2 hs2 hn2 => ?_)
  dsimp only [List.set] at hs2
  have hm := hs2
  have hf1 := (hn2 (sz) (by omega)).trans hf1
  have hf7 := (hn2 (sz + 1) (by omega)).trans hf7
  have hf8 := (hn2 (sz + 2) (by omega)).trans hf8
  have hfr := hfr.put9 hm0 hn2
  refine g_aload hX dX6_init_15 rfl rfl ?_
  refine g_iload hX dX6_init_16 rfl ?_
  refine o_put hX dX6_init_17 (by assumption) (by simp) rfl rfl (fun M3 hs3 hn3 => ?_)
  dsimp only [List.set] at hs3
  have hm := hs3
  have hf1 := (hn3 (sz) (by omega)).trans hf1
  have hf7 := (hn3 (sz + 1) (by omega)).trans hf7
  have hf8 := (hn3 (sz + 2) (by omega)).trans hf8
  have hfr := hfr.put9 hm0 hn3
  refine g_aload hX dX6_init_20 rfl rfl ?_
  refine g_iload hX dX6_init_21 rfl ?_
  refine o_put hX dX6_init_22 (by assumption) (by simp) rfl rfl (fun M4 hs4 hn4 => ?_)
  dsimp only [List.set] at hs4
  have hm := hs4
  have hf1 := (hn4 (sz) (by omega)).trans hf1
  have hf7 := (hn4 (sz + 1) (by omega)).trans hf7
  have hf8 := (hn4 (sz + 2) (by omega)).trans hf8
  have hfr := hfr.put9 hm0 hn4
  refine g_aload hX dX6_init_25 rfl rfl ?_
  refine o_new hX dX6_init_26 rfl (by decide) (by decide) (fun M5 hs5 hn5 => ?_)
  have hm := (hn5 (r) (by omega)).trans hm
  have hf1 := (hn5 (sz) (by omega)).trans hf1
  have hf7 := (hn5 (sz + 1) (by omega)).trans hf7
  have hf8 := (hn5 (sz + 2) (by omega)).trans hf8
  have hf5 := hs5
  have hfr := hfr.new9 (a := sz + 3) (by omega) (by omega) hn5
  refine g_dup hX dX6_init_29 rfl ?_
  refine g_iload hX dX6_init_30 rfl ?_
  refine g_cIN1 (c2 := 4) (s2 := 21) hX (s_X3_init hst) dX6_init_31 (by first | exact Nat.le_of_ble_eq_true rfl | simp [cat_rf, Value.category]) ⟨rfl, rfl, by decide, by decide⟩ ?_
  refine ⟨_, _, _, _, rfl, by assumption, Kc_v ?_⟩
  generalize hg9 : hup _ _ _ = M10
  have hn10 : ∀ q, q ≠ sz + 3 → M10 q = _ := fun q h => (congrFun hg9 q).symm.trans (hup_n _ _ h)
  have hs10 : M10 (sz + 3) = _ := (congrFun hg9 (sz + 3)).symm.trans (hup_s _ _ _)
  have hfr := hfr.new9 (a := sz + 3) (by omega) (by omega) hn10
  have hm := (hn10 r (by omega)).trans hm
  have hf1 := (hn10 sz (by omega)).trans hf1
  have hf7 := (hn10 (sz + 1) (by omega)).trans hf7
  have hf8 := (hn10 (sz + 2) (by omega)).trans hf8
  have hf9 := hs10
  refine o_put hX dX6_init_34 (by assumption) (by simp) rfl rfl (fun M6 hs6 hn6 => ?_)
  dsimp only [List.set] at hs6
  have hm := hs6
  have hf1 := (hn6 (sz) (by omega)).trans hf1
  have hf7 := (hn6 (sz + 1) (by omega)).trans hf7
  have hf8 := (hn6 (sz + 2) (by omega)).trans hf8
  have hf9 := (hn6 (sz + 3) (by omega)).trans hf9
  have hfr := hfr.put9 hm0 hn6
  refine g_vret hX hR dX6_init_37 rfl (by decide) (by decide) ?_
  exact hK _ hm hf1 hf7 hf8 hf9 hfr

def sp_X7_init : hS := fun as M sz K => ∃ (r : Nat) (n9 dd lo hi : Int) (v0 v1 v2 v3 v4 : Value), as = [.ref r, .int (iZ n9), .int (iZ dd), .int (iZ lo), .int (iZ hi)] ∧ M r = some (.inl (7, [v0, v1, v2, v3, v4])) ∧ (∀ M' : hM, M' r = some (.inl (7, [.int (iZ n9), .int (iZ lo), .int (iZ hi), .ref (sz + 3), .ref sz])) → M' sz = some (.inl (4, [.ref (sz + 1), .ref (sz + 2), .int (iZ 0)])) → M' (sz + 1) = some (.inr (0, 8, .inl (fun _ => iZ 0))) → M' (sz + 2) = some (.inr (0, 8, .inl (fun _ => iZ 0))) → M' (sz + 3) = some (.inl (3, [.int (iZ dd), .int (iZ 0)])) → FRM M M' r sz (sz + 4) → K (.inl none) M' (sz + 4))
theorem s_X7_init {l : Launch} {g : hG} (hst : l.stackTraces = false) : Ctr l g mX7_init sp_X7_init := by
  refine Ctr.mk9 hst (by decide) ?_ ?_
  · rintro as M sz K ⟨r, n9, dd, lo, hi, v0, v1, v2, v3, v4, rfl, hm, hK⟩
    exact ⟨by simp [mX7_init], cat_ok rfl⟩
  rintro X as M sz K hX rfl rfl hR ⟨r, n9, dd, lo, hi, v0, v1, v2, v3, v4, rfl, hm, hK⟩
  show G X 0 [.ref r, .int (iZ n9), .int (iZ dd), .int (iZ lo), .int (iZ hi)] [] M sz 0 0
  refine g_dom hX (fun hdom => ?_)
  have hr9 := (hdom r _ hm).1
  have hm0 := hm
  have hfr : FRM M M r sz (sz + 4) := FRM.rf
  refine g_aload hX dX7_init_0 rfl rfl ?_
  refine g_obj hX dX7_init_1 ?_
  refine g_aload hX dX7_init_4 rfl rfl ?_
  refine o_new hX dX7_init_5 rfl (by decide) (by decide) (fun M1 hs1 hn1 => ?_)
  have hm := (hn1 (r) (by omega)).trans hm
  have hf1 := hs1
  have hfr := hfr.new9 (a := sz) (by omega) (by omega) hn1
  refine g_dup hX dX7_init_8 rfl ?_
  refine g_cIN0 (c2 := 3) (s2 := 19) hX (s_X4_init hst) dX7_init_9 (by first | exact Nat.le_of_ble_eq_true rfl | simp [cat_rf, Value.category]) ⟨rfl, rfl, by decide, by decide⟩ ?_
  refine ⟨_, _, _, _, rfl, hf1, fun M9 h1a h1b h1c h1f => Kc_v ?_⟩
  have hfr := FRM.ap hfr h1f ⟨Nat.le_refl _, by omega⟩ (by omega) (by omega)
  have hm := (h1f.1 r (by omega) (by omega)).trans hm
  have hf1 := h1a
  have hf7 := h1b
  have hf8 := h1c
  refine o_put hX dX7_init_12 (by assumption) (by simp) rfl rfl (fun M2 hs2 hn2 => ?_)
  dsimp only [List.set] at hs2
  have hm := hs2
  have hf1 := (hn2 (sz) (by omega)).trans hf1
  have hf7 := (hn2 (sz + 1) (by omega)).trans hf7
  have hf8 := (hn2 (sz + 2) (by omega)).trans hf8
  have hfr := hfr.put9 hm0 hn2
  refine g_aload hX dX7_init_15 rfl rfl ?_
  refine g_iload hX dX7_init_16 rfl ?_
  refine o_put hX dX7_init_17 (by assumption) (by simp) rfl rfl (fun M3 hs3 hn3 => ?_)
  dsimp only [List.set] at hs3
  have hm := hs3
  have hf1 := (hn3 (sz) (by omega)).trans hf1
  have hf7 := (hn3 (sz + 1) (by omega)).trans hf7
  have hf8 := (hn3 (sz + 2) (by omega)).trans hf8
  have hfr := hfr.put9 hm0 hn3
  refine g_aload hX dX7_init_20 rfl rfl ?_
  refine g_iload hX dX7_init_21 rfl ?_
  refine o_put hX dX7_init_22 (by assumption) (by simp) rfl rfl (fun M4 hs4 hn4 => ?_)
  dsimp only [List.set] at hs4
  have hm := hs4
  have hf1 := (hn4 (sz) (by omega)).trans hf1
  have hf7 := (hn4 (sz + 1) (by omega)).trans hf7
  have hf8 := (hn4 (sz + 2) (by omega)).trans hf8
  have hfr := hfr.put9 hm0 hn4
  refine g_aload hX dX7_init_25 rfl rfl ?_
  refine g_iload hX dX7_init_26 rfl ?_
  refine o_put hX dX7_init_28 (by assumption) (by simp) rfl rfl (fun M5 hs5 hn5 => ?_)
  dsimp only [List.set] at hs5
  have hm := hs5
  have hf1 := (hn5 (sz) (by omega)).trans hf1
  have hf7 := (hn5 (sz + 1) (by omega)).trans hf7
  have hf8 := (hn5 (sz + 2) (by omega)).trans hf8
  have hfr := hfr.put9 hm0 hn5
  refine g_aload hX dX7_init_31 rfl rfl ?_
  refine o_new hX dX7_init_32 rfl (by decide) (by decide) (fun M6 hs6 hn6 => ?_)
  have hm := (hn6 (r) (by omega)).trans hm
  have hf1 := (hn6 (sz) (by omega)).trans hf1
  have hf7 := (hn6 (sz + 1) (by omega)).trans hf7
  have hf8 := (hn6 (sz + 2) (by omega)).trans hf8
  have hf6 := hs6
  have hfr := hfr.new9 (a := sz + 3) (by omega) (by omega) hn6
  refine g_dup hX dX7_init_35 rfl ?_
  refine g_iload hX dX7_init_36 rfl ?_
  refine g_cIN1 (c2 := 4) (s2 := 21) hX (s_X3_init hst) dX7_init_37 (by first | exact Nat.le_of_ble_eq_true rfl | simp [cat_rf, Value.category]) ⟨rfl, rfl, by decide, by decide⟩ ?_
  refine ⟨_, _, _, _, rfl, by assumption, Kc_v ?_⟩
  generalize hg9 : hup _ _ _ = M10
  have hn10 : ∀ q, q ≠ sz + 3 → M10 q = _ := fun q h => (congrFun hg9 q).symm.trans (hup_n _ _ h)
  have hs10 : M10 (sz + 3) = _ := (congrFun hg9 (sz + 3)).symm.trans (hup_s _ _ _)
  have hfr := hfr.new9 (a := sz + 3) (by omega) (by omega) hn10
  have hm := (hn10 r (by omega)).trans hm
  have hf1 := (hn10 sz (by omega)).trans hf1
  have hf7 := (hn10 (sz + 1) (by omega)).trans hf7
  have hf8 := (hn10 (sz + 2) (by omega)).trans hf8
  have hf9 := hs10
  refine o_put hX dX7_init_40 (by assumption) (by simp) rfl rfl (fun M7 hs7 hn7 => ?_)
  dsimp only [List.set] at hs7
  have hm := hs7
  have hf1 := (hn7 (sz) (by omega)).trans hf1
  have hf7 := (hn7 (sz + 1) (by omega)).trans hf7
  have hf8 := (hn7 (sz + 2) (by omega)).trans hf8
  have hf9 := (hn7 (sz + 3) (by omega)).trans hf9
  have hfr := hfr.put9 hm0 hn7
  refine g_vret hX hR dX7_init_43 rfl (by decide) (by decide) ?_
  exact hK _ hm hf1 hf7 hf8 hf9 hfr

def sp_X1_init : hS := fun as M sz K => ∃ (r : Nat) (rk po mo dy : Int) (v0 v1 v2 v3 v4 : Value), as = [.ref r, .int (iZ rk), .int (iZ po), .int (iZ mo), .int (iZ dy)] ∧ M r = some (.inl (1, [v0, v1, v2, v3, v4])) ∧ (po = 0 ∨ po = 1) ∧ (∀ M' : hM, M' r = some (.inl (1, [.int (iZ rk), .int (iZ po), .int (iZ mo), .int (iZ dy), .ref sz])) → M' sz = some (.inl (2, [.ref (sz + 1)])) → M' (sz + 1) = some (.inr (0, 3, .inl (fun _ => iZ (-100)))) → FRM M M' r sz (sz + 2) → K (.inl none) M' (sz + 2))
theorem s_X1_init {l : Launch} {g : hG} (hst : l.stackTraces = false) : Ctr l g mX1_init sp_X1_init := by
  refine Ctr.mk9 hst (by decide) ?_ ?_
  · rintro as M sz K ⟨r, rk, po, mo, dy, v0, v1, v2, v3, v4, rfl, hm, hb, hK⟩
    exact ⟨by simp [mX1_init], cat_ok rfl⟩
  rintro X as M sz K hX rfl rfl hR ⟨r, rk, po, mo, dy, v0, v1, v2, v3, v4, rfl, hm, hb, hK⟩
  show G X 0 [.ref r, .int (iZ rk), .int (iZ po), .int (iZ mo), .int (iZ dy)] [] M sz 0 0
  refine g_dom hX (fun hdom => ?_)
  have hr9 := (hdom r _ hm).1
  have hm0 := hm
  have hfr : FRM M M r sz (sz + 2) := FRM.rf
  refine g_aload hX dX1_init_0 rfl rfl ?_
  refine g_obj hX dX1_init_1 ?_
  refine g_aload hX dX1_init_4 rfl rfl ?_
  refine o_new hX dX1_init_5 rfl (by decide) (by decide) (fun M1 hs1 hn1 => ?_)
  have hm := (hn1 (r) (by omega)).trans hm
  have hf1 := hs1
  have hfr := hfr.new9 (a := sz) (by omega) (by omega) hn1
  refine g_dup hX dX1_init_8 rfl ?_
  refine g_cIN0 (c2 := 2) (s2 := 4) hX (s_X2_init hst) dX1_init_9 (by first | exact Nat.le_of_ble_eq_true rfl | simp [cat_rf, Value.category]) ⟨rfl, rfl, by decide, by decide⟩ ?_
  refine ⟨_, _, rfl, hf1, fun M9 h1a h1b h1f => Kc_v ?_⟩
  have hfr := FRM.ap hfr h1f ⟨Nat.le_refl _, by omega⟩ (by omega) (by omega)
  have hm := (h1f.1 r (by omega) (by omega)).trans hm
  have hf1 := h1a
  have hf7 := h1b
  refine o_put hX dX1_init_12 (by assumption) (by simp) rfl rfl (fun M2 hs2 hn2 => ?_)
  dsimp only [List.set] at hs2
  have hm := hs2
  have hf1 := (hn2 (sz) (by omega)).trans hf1
  have hf7 := (hn2 (sz + 1) (by omega)).trans hf7
  have hfr := hfr.put9 hm0 hn2
  refine g_aload hX dX1_init_15 rfl rfl ?_
  refine g_iload hX dX1_init_16 rfl ?_
  refine o_put hX dX1_init_17 (by assumption) (by simp) rfl rfl (fun M3 hs3 hn3 => ?_)
  dsimp only [List.set] at hs3
  have hm := hs3
  have hf1 := (hn3 (sz) (by omega)).trans hf1
  have hf7 := (hn3 (sz + 1) (by omega)).trans hf7
  have hfr := hfr.put9 hm0 hn3
  refine g_aload hX dX1_init_20 rfl rfl ?_
  refine g_iload hX dX1_init_21 rfl ?_
  refine o_put hX dX1_init_22 (by assumption) (by simp) (nar_01 hb) (fit_01 hb) (fun M4 hs4 hn4 => ?_)
  dsimp only [List.set] at hs4
  have hm := hs4
  have hf1 := (hn4 (sz) (by omega)).trans hf1
  have hf7 := (hn4 (sz + 1) (by omega)).trans hf7
  have hfr := hfr.put9 hm0 hn4
  refine g_aload hX dX1_init_25 rfl rfl ?_
  refine g_iload hX dX1_init_26 rfl ?_
  refine o_put hX dX1_init_27 (by assumption) (by simp) rfl rfl (fun M5 hs5 hn5 => ?_)
  dsimp only [List.set] at hs5
  have hm := hs5
  have hf1 := (hn5 (sz) (by omega)).trans hf1
  have hf7 := (hn5 (sz + 1) (by omega)).trans hf7
  have hfr := hfr.put9 hm0 hn5
  refine g_aload hX dX1_init_30 rfl rfl ?_
  refine g_iload hX dX1_init_31 rfl ?_
  refine o_put hX dX1_init_33 (by assumption) (by simp) rfl rfl (fun M6 hs6 hn6 => ?_)
  dsimp only [List.set] at hs6
  have hm := hs6
  have hf1 := (hn6 (sz) (by omega)).trans hf1
  have hf7 := (hn6 (sz + 1) (by omega)).trans hf7
  have hfr := hfr.put9 hm0 hn6
  refine g_vret hX hR dX1_init_36 rfl (by decide) (by decide) ?_
  exact hK _ hm hf1 hf7 hfr
