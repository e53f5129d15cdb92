/-! the beginnings: the system's and the reference's worlds, new -/
def σ0 : SG := fun c _ _ => if c = 35 then -100 else 0
def τ0 : Nat → Nat → Int := fun c _ => if c = 0 then 2000 else 0
def A0 (aD h sz : Nat) : Nat → Nat → Nat := fun k i => if k = 0 then sz + i else if k = 1 then aD else if k = 2 then h else if k = 3 then sz + 6 else if k = 4 then sz + 7 else if k = 5 then sz + 8 else if k = 18 then sz + 4 else sz + 5
def ow0 (h sz : Nat) : Nat → Nat × Nat := fun q => if q = h then (2, 0) else if q = sz + 6 then (3, 0) else if q = sz + 7 then (4, 0) else if q = sz + 8 then (5, 0) else if q = sz + 4 then (18, 20) else if q = sz + 5 then (19, 20) else (0, q - sz)
theorem SV_0 : SV σ0 := by
  have q : ∀ B : Int, 0 ≤ B → (0 : Int) ≤ 0 ∧ (0 : Int) ≤ B := fun B h => ⟨Int.le_refl 0, h⟩
  have nk : ∀ k : Nat, ¬ ((k : Int) < 0) := fun k => by omega
  have rr : RR 0 (fun _ => 0) (fun _ => 0) := ⟨q 8 (by decide), fun k => ⟨q 12 (by decide), q 4095 (by decide), fun _ => ⟨rfl, rfl⟩, fun h => absurd h (nk k)⟩⟩
  exact ⟨⟨q 12 (by decide), q 12 (by decide), q 20 (by decide), q 60 (by decide), q 9 (by decide)⟩, fun i => ⟨q 2399 (by decide), q 65535 (by decide), Or.inl rfl, rr, fun _ => ⟨rfl, rfl⟩⟩, fun i => ⟨q 2399 (by decide), q 40 (by decide), q 40 (by decide), Or.inl rfl, rr, fun _ => ⟨rfl, rfl⟩⟩, ⟨fun i h => absurd h (nk i), fun i k => Or.inl rfl, fun i k _ _ => rfl⟩, fun i h => absurd h (nk i)⟩
theorem hx_0 {aD h sz : Nat} {M : hM} (hh : h < sz) (haD : M aD = none) (h0 : M h = some (.inl (9, [.ref sz, .ref (sz + 1), .ref (sz + 2), .ref (sz + 3), .ref (sz + 4), .ref (sz + 6), .int (iZ 0)]))) (l0 : ∀ j, j < 4 → M (sz + j) = some (.inl (0, [.int (iZ 0), .ref aD, .int (iZ 0)]))) (r4 : M (sz + 4) = some (.inl (2, [.ref (sz + 5)]))) (r5 : M (sz + 5) = some (.inr (0, 3, .inl (fun _ => iZ (-100))))) (p6 : M (sz + 6) = some (.inl (8, [.ref (sz + 7), .ref (sz + 8), .int (iZ 2000), .int (iZ 0), .int (iZ 0)]))) (p7 : M (sz + 7) = some (.inr (0, 366, .inl (fun _ => iZ 0)))) (p8 : M (sz + 8) = some (.inr (0, 20, .inl (fun _ => iZ 0)))) : HX aD h (A0 aD h sz) (ow0 h sz) σ0 τ0 M := by
  refine ⟨haD, rfl, fun k i hv => ?_, fun j hj => ⟨?_, ?_, Or.inl rfl⟩⟩
  · have e0 : σ0 0 0 0 = 0 := rfl
    have e1 : σ0 1 0 0 = 0 := rfl
    have e2 : σ0 2 0 0 = 0 := rfl
    have e3 : σ0 3 0 0 = 0 := rfl
    unfold VLD at hv
    rcases (show (k = 2 ∧ i = 0) ∨ (k = 3 ∧ i = 0) ∨ (k = 4 ∧ i = 0) ∨ (k = 5 ∧ i = 0) ∨ (k = 18 ∧ i = 20) ∨ (k = 19 ∧ i = 20) by omega) with ⟨rfl, rfl⟩ | ⟨rfl, rfl⟩ | ⟨rfl, rfl⟩ | ⟨rfl, rfl⟩ | ⟨rfl, rfl⟩ | ⟨rfl, rfl⟩
    · exact ⟨h0, if_pos rfl⟩
    · exact ⟨p6, (if_neg (show ¬ sz + 6 = h by omega)).trans (if_pos rfl)⟩
    · exact ⟨p7, (if_neg (show ¬ sz + 7 = h by omega)).trans ((if_neg (show ¬ sz + 7 = sz + 6 by omega)).trans (if_pos rfl))⟩
    · exact ⟨p8, (if_neg (show ¬ sz + 8 = h by omega)).trans ((if_neg (show ¬ sz + 8 = sz + 6 by omega)).trans ((if_neg (show ¬ sz + 8 = sz + 7 by omega)).trans (if_pos rfl)))⟩
    · exact ⟨r4, (if_neg (show ¬ sz + 4 = h by omega)).trans ((if_neg (show ¬ sz + 4 = sz + 6 by omega)).trans ((if_neg (show ¬ sz + 4 = sz + 7 by omega)).trans ((if_neg (show ¬ sz + 4 = sz + 8 by omega)).trans (if_pos rfl))))⟩
    · exact ⟨r5, (if_neg (show ¬ sz + 5 = h by omega)).trans ((if_neg (show ¬ sz + 5 = sz + 6 by omega)).trans ((if_neg (show ¬ sz + 5 = sz + 7 by omega)).trans ((if_neg (show ¬ sz + 5 = sz + 8 by omega)).trans ((if_neg (show ¬ sz + 5 = sz + 4 by omega)).trans (if_pos rfl)))))⟩
  · rcases (show j = 0 ∨ j = 1 ∨ j = 2 ∨ j = 3 by omega) with rfl | rfl | rfl | rfl <;> exact ⟨0, l0 _ hj, Or.inl ⟨rfl, rfl⟩⟩
  · show ow0 h sz (sz + j) = (0, j)
    unfold ow0
    rw [if_neg (by omega), if_neg (by omega), if_neg (by omega), if_neg (by omega), if_neg (by omega), if_neg (by omega), Nat.add_sub_cancel_left]

def sp_X8_init : hS := fun as M sz K => ∃ (r : Nat) (v0 v1 v2 v3 v4 : Value), as = [.ref r] ∧ M r = some (.inl (8, [v0, v1, v2, v3, v4])) ∧ (∀ M' : hM, M' r = some (.inl (8, [.ref sz, .ref (sz + 1), .int (iZ 2000), .int (iZ 0), .int (iZ 0)])) → M' sz = some (.inr (0, 366, .inl (fun _ => iZ 0))) → M' (sz + 1) = some (.inr (0, 20, .inl (fun _ => iZ 0))) → FRM M M' r sz (sz + 2) → K (.inl none) M' (sz + 2))
theorem s_X8_init {l : Launch} {g : hG} (hst : l.stackTraces = false) : Ctr l g mX8_init sp_X8_init := by
  refine Ctr.mk9 hst (by decide) ?_ ?_
  · rintro as M sz K ⟨r, v0, v1, v2, v3, v4, rfl, hm, hK⟩
    exact ⟨by simp [mX8_init], cat_ok rfl⟩
  rintro X as M sz K hX rfl rfl hR ⟨r, v0, v1, v2, v3, v4, rfl, hm, hK⟩
  show G X 0 [.ref r] [] M sz 0 0
  refine g_dom hX (fun hdom => ?_)
  have hr9 := (hdom r _ hm).1
  have hm0 := hm
  have hfr : FRM M M r sz (sz + 2) := FRM.rf
  refine g_aload hX dX8_init_0 rfl rfl ?_
  refine g_obj hX dX8_init_1 ?_
  refine g_aload hX dX8_init_4 rfl rfl ?_
  refine g_const hX dX8_init_5 ?_
  refine o_newa hX dX8_init_8 (N := 366) rfl (by decide) (by decide) (by decide) (fun M1 hs1 hn1 => ?_)
  have hm := (hn1 (r) (by omega)).trans hm
  have hf1 := hs1
  have hfr := hfr.new9 (a := sz) (by omega) (by omega) hn1
  refine o_put hX dX8_init_10 (by assumption) (by simp) rfl rfl (fun M2 hs2 hn2 => ?_)
  dsimp only [List.set] at hs2
  have hm := hs2
  have hf1 := (hn2 (sz) (by omega)).trans hf1
  have hfr := hfr.put9 hm0 hn2
  refine g_aload hX dX8_init_13 rfl rfl ?_
  refine g_const hX dX8_init_14 ?_
  refine o_newa hX dX8_init_16 (N := 20) rfl (by decide) (by decide) (by decide) (fun M3 hs3 hn3 => ?_)
  have hm := (hn3 (r) (by omega)).trans hm
  have hf1 := (hn3 (sz) (by omega)).trans hf1
  have hf3 := hs3
  have hfr := hfr.new9 (a := sz + 1) (by omega) (by omega) hn3
  refine o_put hX dX8_init_18 (by assumption) (by simp) rfl rfl (fun M4 hs4 hn4 => ?_)
  dsimp only [List.set] at hs4
  have hm := hs4
  have hf1 := (hn4 (sz) (by omega)).trans hf1
  have hf3 := (hn4 (sz + 1) (by omega)).trans hf3
  have hfr := hfr.put9 hm0 hn4
  refine g_aload hX dX8_init_21 rfl rfl ?_
  refine g_const hX dX8_init_22 ?_
  refine o_put hX dX8_init_25 (by assumption) (by simp) rfl rfl (fun M5 hs5 hn5 => ?_)
  dsimp only [List.set] at hs5
  have hm := hs5
  have hf1 := (hn5 (sz) (by omega)).trans hf1
  have hf3 := (hn5 (sz + 1) (by omega)).trans hf3
  have hfr := hfr.put9 hm0 hn5
  refine g_aload hX dX8_init_28 rfl rfl ?_
  refine g_const hX dX8_init_29 ?_
  refine o_put hX dX8_init_30 (by assumption) (by simp) rfl rfl (fun M6 hs6 hn6 => ?_)
  dsimp only [List.set] at hs6
  have hm := hs6
  have hf1 := (hn6 (sz) (by omega)).trans hf1
  have hf3 := (hn6 (sz + 1) (by omega)).trans hf3
  have hfr := hfr.put9 hm0 hn6
  refine g_aload hX dX8_init_33 rfl rfl ?_
  refine g_const hX dX8_init_34 ?_
  refine o_put hX dX8_init_35 (by assumption) (by simp) rfl rfl (fun M7 hs7 hn7 => ?_)
  dsimp only [List.set] at hs7
  have hm := hs7
  have hf1 := (hn7 (sz) (by omega)).trans hf1
  have hf3 := (hn7 (sz + 1) (by omega)).trans hf3
  have hfr := hfr.put9 hm0 hn7
  refine g_vret hX hR dX8_init_38 rfl (by decide) (by decide) ?_
  exact hK _ hm hf1 hf3 hfr

def sp_X9_init (g : hG) : hS := fun as M sz K => ∃ (r : Nat) (v0 v1 v2 v3 v4 v5 v6 : Value), as = [.ref r] ∧ M r = some (.inl (9, [v0, v1, v2, v3, v4, v5, v6])) ∧ (∀ M' : hM, M' r = some (.inl (9, [.ref sz, .ref (sz + 1), .ref (sz + 2), .ref (sz + 3), .ref (sz + 4), .ref (sz + 6), .int (iZ 0)])) → (∀ j, j < 4 → M' (sz + j) = some (.inl (0, [.int (iZ 0), .ref g.2.2.2.2, .int (iZ 0)]))) → M' (sz + 4) = some (.inl (2, [.ref (sz + 5)])) → M' (sz + 5) = some (.inr (0, 3, .inl (fun _ => iZ (-100)))) → M' (sz + 6) = some (.inl (8, [.ref (sz + 7), .ref (sz + 8), .int (iZ 2000), .int (iZ 0), .int (iZ 0)])) → M' (sz + 7) = some (.inr (0, 366, .inl (fun _ => iZ 0))) → M' (sz + 8) = some (.inr (0, 20, .inl (fun _ => iZ 0))) → K (.inl none) M' (sz + 9))
theorem s_X9_init {l : Launch} {g : hG} (hst : l.stackTraces = false) : Ctr l g mX9_init (sp_X9_init g) := by
  refine Ctr.mk9 hst (by decide) ?_ ?_
  · rintro as M sz K ⟨r, v0, v1, v2, v3, v4, v5, v6, rfl, hm, hK⟩
    exact ⟨by simp [mX9_init], cat_ok rfl⟩
  rintro X as M sz K hX rfl rfl hR ⟨r, v0, v1, v2, v3, v4, v5, v6, rfl, hm, hK⟩
  show G X 0 [.ref r] [] M sz 0 0
  refine g_dom hX (fun hdom => ?_)
  have hr9 := (hdom r _ hm).1
  refine g_aload hX dX9_init_0 rfl rfl ?_
  refine g_obj hX dX9_init_1 ?_
  refine g_aload hX dX9_init_4 rfl rfl ?_
  refine o_new hX dX9_init_5 rfl (by decide) (by decide) (fun M1 hs1 hn1 => ?_)
  have hm := (hn1 (r) (by omega)).trans hm
  have hf1 := hs1
  
  refine g_dup hX dX9_init_8 rfl ?_
  refine g_cI0 (c2 := 1) (s2 := 3) hX (s_Jx4a65c_init_da8c8 hst) dX9_init_9 (by first | exact Nat.le_of_ble_eq_true rfl | simp [cat_rf, Value.category]) ⟨rfl, rfl, by decide, by decide⟩ ?_
  refine ⟨_, _, _, _, rfl, hf1, Kc_v ?_⟩
  generalize hg2 : hup _ _ _ = M2
  have hn2 := fun q (h : q ≠ sz) => (congrFun hg2 q).symm.trans (hup_n _ _ h)
  have hs2 : M2 (sz) = some (.inl (0, [.int (iZ 0), .ref X.2.2.2.2.2.2.2.2.2, .int (iZ 0)])) := (congrFun hg2 (sz)).symm.trans ((hup_s _ _ _).trans (by rw [← z_0]))
  have hm := (hn2 (r) (by omega)).trans hm
  have hf1 := hs2
  
  refine o_put hX dX9_init_12 hm (by simp) rfl rfl (fun M3 hs3 hn3 => ?_)
  dsimp only [List.set] at hs3
  have hm := hs3
  have hf1 := (hn3 (sz) (by omega)).trans hf1
  
  refine g_aload hX dX9_init_15 rfl rfl ?_
  refine o_new hX dX9_init_16 rfl (by decide) (by decide) (fun M4 hs4 hn4 => ?_)
  have hm := (hn4 (r) (by omega)).trans hm
  have hf1 := (hn4 (sz) (by omega)).trans hf1
  have hf4 := hs4
  
  refine g_dup hX dX9_init_19 rfl ?_
  refine g_cI0 (c2 := 2) (s2 := 6) hX (s_Jx4a65c_init_da8c8 hst) dX9_init_20 (by first | exact Nat.le_of_ble_eq_true rfl | simp [cat_rf, Value.category]) ⟨rfl, rfl, by decide, by decide⟩ ?_
  refine ⟨_, _, _, _, rfl, hf4, Kc_v ?_⟩
  generalize hg5 : hup _ _ _ = M5
  have hn5 := fun q (h : q ≠ sz + 1) => (congrFun hg5 q).symm.trans (hup_n _ _ h)
  have hs5 : M5 (sz + 1) = some (.inl (0, [.int (iZ 0), .ref X.2.2.2.2.2.2.2.2.2, .int (iZ 0)])) := (congrFun hg5 (sz + 1)).symm.trans ((hup_s _ _ _).trans (by rw [← z_0]))
  have hm := (hn5 (r) (by omega)).trans hm
  have hf1 := (hn5 (sz) (by omega)).trans hf1
  have hf4 := hs5
  
  refine o_put hX dX9_init_23 hm (by simp) rfl rfl (fun M6 hs6 hn6 => ?_)
  dsimp only [List.set] at hs6
  have hm := hs6
  have hf1 := (hn6 (sz) (by omega)).trans hf1
  have hf4 := (hn6 (sz + 1) (by omega)).trans hf4
  
  refine g_aload hX dX9_init_26 rfl rfl ?_
  refine o_new hX dX9_init_27 rfl (by decide) (by decide) (fun M7 hs7 hn7 => ?_)
  have hm := (hn7 (r) (by omega)).trans hm
  have hf1 := (hn7 (sz) (by omega)).trans hf1
  have hf4 := (hn7 (sz + 1) (by omega)).trans hf4
  have hf7 := hs7
  
  refine g_dup hX dX9_init_30 rfl ?_
  refine g_cI0 (c2 := 3) (s2 := 9) hX (s_Jx4a65c_init_da8c8 hst) dX9_init_31 (by first | exact Nat.le_of_ble_eq_true rfl | simp [cat_rf, Value.category]) ⟨rfl, rfl, by decide, by decide⟩ ?_
  refine ⟨_, _, _, _, rfl, hf7, Kc_v ?_⟩
  generalize hg8 : hup _ _ _ = M8
  have hn8 := fun q (h : q ≠ sz + 2) => (congrFun hg8 q).symm.trans (hup_n _ _ h)
  have hs8 : M8 (sz + 2) = some (.inl (0, [.int (iZ 0), .ref X.2.2.2.2.2.2.2.2.2, .int (iZ 0)])) := (congrFun hg8 (sz + 2)).symm.trans ((hup_s _ _ _).trans (by rw [← z_0]))
  have hm := (hn8 (r) (by omega)).trans hm
  have hf1 := (hn8 (sz) (by omega)).trans hf1
  have hf4 := (hn8 (sz + 1) (by omega)).trans hf4
  have hf7 := hs8
  
  refine o_put hX dX9_init_34 hm (by simp) rfl rfl (fun M9 hs9 hn9 => ?_)
  dsimp only [List.set] at hs9
  have hm := hs9
  have hf1 := (hn9 (sz) (by omega)).trans hf1
  have hf4 := (hn9 (sz + 1) (by omega)).trans hf4
  have hf7 := (hn9 (sz + 2) (by omega)).trans hf7
  
  refine g_aload hX dX9_init_37 rfl rfl ?_
  refine o_new hX dX9_init_38 rfl (by decide) (by decide) (fun M10 hs10 hn10 => ?_)
  have hm := (hn10 (r) (by omega)).trans hm
  have hf1 := (hn10 (sz) (by omega)).trans hf1
  have hf4 := (hn10 (sz + 1) (by omega)).trans hf4
  have hf7 := (hn10 (sz + 2) (by omega)).trans hf7
  have hf10 := hs10
  
  refine g_dup hX dX9_init_41 rfl ?_
  refine g_cI0 (c2 := 4) (s2 := 12) hX (s_Jx4a65c_init_da8c8 hst) dX9_init_42 (by first | exact Nat.le_of_ble_eq_true rfl | simp [cat_rf, Value.category]) ⟨rfl, rfl, by decide, by decide⟩ ?_
  refine ⟨_, _, _, _, rfl, hf10, Kc_v ?_⟩
  generalize hg11 : hup _ _ _ = M11
  have hn11 := fun q (h : q ≠ sz + 3) => (congrFun hg11 q).symm.trans (hup_n _ _ h)
  have hs11 : M11 (sz + 3) = some (.inl (0, [.int (iZ 0), .ref X.2.2.2.2.2.2.2.2.2, .int (iZ 0)])) := (congrFun hg11 (sz + 3)).symm.trans ((hup_s _ _ _).trans (by rw [← z_0]))
  have hm := (hn11 (r) (by omega)).trans hm
  have hf1 := (hn11 (sz) (by omega)).trans hf1
  have hf4 := (hn11 (sz + 1) (by omega)).trans hf4
  have hf7 := (hn11 (sz + 2) (by omega)).trans hf7
  have hf10 := hs11
  
  refine o_put hX dX9_init_45 hm (by simp) rfl rfl (fun M12 hs12 hn12 => ?_)
  dsimp only [List.set] at hs12
  have hm := hs12
  have hf1 := (hn12 (sz) (by omega)).trans hf1
  have hf4 := (hn12 (sz + 1) (by omega)).trans hf4
  have hf7 := (hn12 (sz + 2) (by omega)).trans hf7
  have hf10 := (hn12 (sz + 3) (by omega)).trans hf10
  
  refine g_aload hX dX9_init_48 rfl rfl ?_
  refine o_new hX dX9_init_49 rfl (by decide) (by decide) (fun M13 hs13 hn13 => ?_)
  have hm := (hn13 (r) (by omega)).trans hm
  have hf1 := (hn13 (sz) (by omega)).trans hf1
  have hf4 := (hn13 (sz + 1) (by omega)).trans hf4
  have hf7 := (hn13 (sz + 2) (by omega)).trans hf7
  have hf10 := (hn13 (sz + 3) (by omega)).trans hf10
  have hf13 := hs13
  
  refine g_dup hX dX9_init_52 rfl ?_
  refine g_cIN0 (c2 := 6) (s2 := 16) hX (s_X2_init hst) dX9_init_53 (by first | exact Nat.le_of_ble_eq_true rfl | simp [cat_rf, Value.category]) ⟨rfl, rfl, by decide, by decide⟩ ?_
  refine ⟨_, _, rfl, hf13, fun M14 h14a h14b hq14 => Kc_v ?_⟩
  have hm := (hq14.1 (r) (by omega) (by omega)).trans hm
  have hf1 := (hq14.1 (sz) (by omega) (by omega)).trans hf1
  have hf4 := (hq14.1 (sz + 1) (by omega) (by omega)).trans hf4
  have hf7 := (hq14.1 (sz + 2) (by omega) (by omega)).trans hf7
  have hf10 := (hq14.1 (sz + 3) (by omega) (by omega)).trans hf10
  have hf13 := h14a
  have hz14b := h14b
  
  refine o_put hX dX9_init_56 hm (by simp) rfl rfl (fun M15 hs15 hn15 => ?_)
  dsimp only [List.set] at hs15
  have hm := hs15
  have hf1 := (hn15 (sz) (by omega)).trans hf1
  have hf4 := (hn15 (sz + 1) (by omega)).trans hf4
  have hf7 := (hn15 (sz + 2) (by omega)).trans hf7
  have hf10 := (hn15 (sz + 3) (by omega)).trans hf10
  have hf13 := (hn15 (sz + 4) (by omega)).trans hf13
  have hz14b := (hn15 (sz + 5) (by omega)).trans hz14b
  
  refine g_aload hX dX9_init_59 rfl rfl ?_
  refine o_new hX dX9_init_60 rfl (by decide) (by decide) (fun M16 hs16 hn16 => ?_)
  have hm := (hn16 (r) (by omega)).trans hm
  have hf1 := (hn16 (sz) (by omega)).trans hf1
  have hf4 := (hn16 (sz + 1) (by omega)).trans hf4
  have hf7 := (hn16 (sz + 2) (by omega)).trans hf7
  have hf10 := (hn16 (sz + 3) (by omega)).trans hf10
  have hf13 := (hn16 (sz + 4) (by omega)).trans hf13
  have hz14b := (hn16 (sz + 5) (by omega)).trans hz14b
  have hf16 := hs16
  
  refine g_dup hX dX9_init_63 rfl ?_
  refine g_cIN0 (c2 := 9) (s2 := 407) hX (s_X8_init hst) dX9_init_64 (by first | exact Nat.le_of_ble_eq_true rfl | simp [cat_rf, Value.category]) ⟨rfl, rfl, by decide, by decide⟩ ?_
  refine ⟨_, _, _, _, _, _, rfl, hf16, fun M17 h17a h17b h17c hq17 => Kc_v ?_⟩
  have hm := (hq17.1 (r) (by omega) (by omega)).trans hm
  have hf1 := (hq17.1 (sz) (by omega) (by omega)).trans hf1
  have hf4 := (hq17.1 (sz + 1) (by omega) (by omega)).trans hf4
  have hf7 := (hq17.1 (sz + 2) (by omega) (by omega)).trans hf7
  have hf10 := (hq17.1 (sz + 3) (by omega) (by omega)).trans hf10
  have hf13 := (hq17.1 (sz + 4) (by omega) (by omega)).trans hf13
  have hz14b := (hq17.1 (sz + 5) (by omega) (by omega)).trans hz14b
  have hf16 := h17a
  have hz17b := h17b
  have hz17c := h17c
  
  refine o_put hX dX9_init_67 hm (by simp) rfl rfl (fun M18 hs18 hn18 => ?_)
  dsimp only [List.set] at hs18
  have hm := hs18
  have hf1 := (hn18 (sz) (by omega)).trans hf1
  have hf4 := (hn18 (sz + 1) (by omega)).trans hf4
  have hf7 := (hn18 (sz + 2) (by omega)).trans hf7
  have hf10 := (hn18 (sz + 3) (by omega)).trans hf10
  have hf13 := (hn18 (sz + 4) (by omega)).trans hf13
  have hz14b := (hn18 (sz + 5) (by omega)).trans hz14b
  have hf16 := (hn18 (sz + 6) (by omega)).trans hf16
  have hz17b := (hn18 (sz + 7) (by omega)).trans hz17b
  have hz17c := (hn18 (sz + 8) (by omega)).trans hz17c
  
  refine g_aload hX dX9_init_70 rfl rfl ?_
  refine g_const hX dX9_init_71 ?_
  refine o_put hX dX9_init_72 hm (by simp) rfl rfl (fun M19 hs19 hn19 => ?_)
  dsimp only [List.set] at hs19
  have hm := hs19
  have hf1 := (hn19 (sz) (by omega)).trans hf1
  have hf4 := (hn19 (sz + 1) (by omega)).trans hf4
  have hf7 := (hn19 (sz + 2) (by omega)).trans hf7
  have hf10 := (hn19 (sz + 3) (by omega)).trans hf10
  have hf13 := (hn19 (sz + 4) (by omega)).trans hf13
  have hz14b := (hn19 (sz + 5) (by omega)).trans hz14b
  have hf16 := (hn19 (sz + 6) (by omega)).trans hf16
  have hz17b := (hn19 (sz + 7) (by omega)).trans hz17b
  have hz17c := (hn19 (sz + 8) (by omega)).trans hz17c
  
  refine g_vret hX hR dX9_init_75 rfl (by decide) (by decide) ?_
  exact hK _ hm (fun j hj => by rcases (show j = 0 ∨ j = 1 ∨ j = 2 ∨ j = 3 by omega) with rfl | rfl | rfl | rfl; exact hf1; exact hf4; exact hf7; exact hf10) hf13 hz14b hf16 hz17b hz17c

