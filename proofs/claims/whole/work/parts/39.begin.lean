/-! the beginnings: the system's and the reference's worlds, new -/
def σ0 : SG := fun c _ _ => if c = 35 then -100 else 0
def τ0 : Nat → Nat → Int := fun c _ => if c = 0 then 2000 else 0
def A0 (aD h sz : Nat) : Nat → Nat → Nat := fun k i => if k = 0 then sz + i else if k = 1 then aD else if k = 2 then h else if k = 3 then sz + 6 else if k = 4 then sz + 7 else if k = 5 then sz + 8 else if k = 18 then sz + 4 else sz + 5
def ow0 (h sz : Nat) : Nat → Nat × Nat := fun q => if q = h then (2, 0) else if q = sz + 6 then (3, 0) else if q = sz + 7 then (4, 0) else if q = sz + 8 then (5, 0) else if q = sz + 4 then (18, 20) else if q = sz + 5 then (19, 20) else (0, q - sz)
theorem SV_0 : SV σ0 := by
  have q : ∀ B : Int, 0 ≤ B → (0 : Int) ≤ 0 ∧ (0 : Int) ≤ B := fun B h => ⟨Int.le_refl 0, h⟩
  have nk : ∀ k : Nat, ¬ ((k : Int) < 0) := fun k => by omega
  have rr : RR 0 (fun _ => 0) (fun _ => 0) := ⟨q 8 (by decide), fun k => ⟨q 12 (by decide), q 4095 (by decide), fun _ => ⟨rfl, rfl⟩, fun h => absurd h (nk k)⟩⟩
  exact ⟨⟨q 12 (by decide), q 12 (by decide), q 20 (by decide), q 60 (by decide), q 9 (by decide)⟩, fun i => ⟨q 2399 (by decide), q 65535 (by decide), Or.inl rfl, rr, fun _ => ⟨rfl, rfl⟩⟩, fun i => ⟨q 2399 (by decide), q 40 (by decide), q 40 (by decide), Or.inl rfl, rr, fun _ => ⟨rfl, rfl⟩⟩, ⟨fun i h => absurd h (nk i), fun i k => Or.inl rfl, fun i k _ _ => rfl⟩, fun i h => absurd h (nk i)⟩
theorem hx_0 {aD h sz : Nat} {M : hM} (hh : h < sz) (haD : M aD = none) (h0 : M h = some (.inl (9, [.ref sz, .ref (sz + 1), .ref (sz + 2), .ref (sz + 3), .ref (sz + 4), .ref (sz + 6), .int (iZ 0)]))) (l0 : ∀ j, j < 4 → M (sz + j) = some (.inl (0, [.int (iZ 0), .ref aD, .int (iZ 0)]))) (r4 : M (sz + 4) = some (.inl (2, [.ref (sz + 5)]))) (r5 : M (sz + 5) = some (.inr (0, 3, .inl (fun _ => iZ (-100))))) (p6 : M (sz + 6) = some (.inl (8, [.ref (sz + 7), .ref (sz + 8), .int (iZ 2000), .int (iZ 0), .int (iZ 0)]))) (p7 : M (sz + 7) = some (.inr (0, 366, .inl (fun _ => iZ 0)))) (p8 : M (sz + 8) = some (.inr (0, 20, .inl (fun _ => iZ 0)))) : HX aD h (A0 aD h sz) (ow0 h sz) σ0 τ0 M := by
  refine ⟨haD, rfl, fun k i hv => ?_, fun j hj => ⟨?_, ?_, Or.inl rfl⟩⟩
  · have e0 : σ0 0 0 0 = 0 := rfl
    have e1 : σ0 1 0 0 = 0 := rfl
    have e2 : σ0 2 0 0 = 0 := rfl
    have e3 : σ0 3 0 0 = 0 := rfl
    unfold VLD at hv
    rcases (show (k = 2 ∧ i = 0) ∨ (k = 3 ∧ i = 0) ∨ (k = 4 ∧ i = 0) ∨ (k = 5 ∧ i = 0) ∨ (k = 18 ∧ i = 20) ∨ (k = 19 ∧ i = 20) by omega) with ⟨rfl, rfl⟩ | ⟨rfl, rfl⟩ | ⟨rfl, rfl⟩ | ⟨rfl, rfl⟩ | ⟨rfl, rfl⟩ | ⟨rfl, rfl⟩
    · exact ⟨h0, if_pos rfl⟩
    · exact ⟨p6, (if_neg (show ¬ sz + 6 = h by omega)).trans (if_pos rfl)⟩
    · exact ⟨p7, (if_neg (show ¬ sz + 7 = h by omega)).trans ((if_neg (show ¬ sz + 7 = sz + 6 by omega)).trans (if_pos rfl))⟩
    · exact ⟨p8, (if_neg (show ¬ sz + 8 = h by omega)).trans ((if_neg (show ¬ sz + 8 = sz + 6 by omega)).trans ((if_neg (show ¬ sz + 8 = sz + 7 by omega)).trans (if_pos rfl)))⟩
    · exact ⟨r4, (if_neg (show ¬ sz + 4 = h by omega)).trans ((if_neg (show ¬ sz + 4 = sz + 6 by omega)).trans ((if_neg (show ¬ sz + 4 = sz + 7 by omega)).trans ((if_neg (show ¬ sz + 4 = sz + 8 by omega)).trans (if_pos rfl))))⟩
    · exact ⟨r5, (if_neg (show ¬ sz + 5 = h by omega)).trans ((if_neg (show ¬ sz + 5 = sz + 6 by omega)).trans ((if_neg (show ¬ sz + 5 = sz + 7 by omega)).trans ((if_neg (show ¬ sz + 5 = sz + 8 by omega)).trans ((if_neg (show ¬ sz + 5 = sz + 4 by omega)).trans (if_pos rfl)))))⟩
  · rcases (show j = 0 ∨ j = 1 ∨ j = 2 ∨ j = 3 by omega) with rfl | rfl | rfl | rfl <;> exact ⟨0, l0 _ hj, Or.inl ⟨rfl, rfl⟩⟩
  · show ow0 h sz (sz + j) = (0, j)
    unfold ow0
    rw [if_neg (by omega), if_neg (by omega), if_neg (by omega), if_neg (by omega), if_neg (by omega), if_neg (by omega), Nat.add_sub_cancel_left]

def sp_X8_init : hS := fun as M sz K => ∃ (r : Nat) (v0 v1 v2 v3 v4 : Value), as = [.ref r] ∧ M r = some (.inl (8, [v0, v1, v2, v3, v4])) ∧ (∀ M' : hM, M' r = some (.inl (8, [.ref sz, .ref (sz + 1), .int (iZ 2000), .int (iZ 0), .int (iZ 0)])) → M' sz = some (.inr (0, 366, .inl (fun _ => iZ 0))) → M' (sz + 1) = some (.inr (0, 20, .inl (fun _ => iZ 0))) → FRM M M' r sz (sz + 2) → K (.inl none) M' (sz + 2))
theorem s_X8_init {l : Launch} {g : hG} (hst : l.stackTraces = false) : Ctr l g mX8_init sp_X8_init := by
  refine Ctr.mk9 hst (by decide) ?_ ?_
  · rintro as M sz K ⟨r, v0, v1, v2, v3, v4, rfl, hm, hK⟩
    exact ⟨by simp [mX8_init], cat_ok rfl⟩
  rintro X as M sz K hX rfl rfl hR ⟨r, v0, v1, v2, v3, v4, rfl, hm, hK⟩
  show G X 0 [.ref r] [] M sz 0 0
  refine g_dom hX (fun hdom => ?_)
  have hr9 := (hdom r _ hm).1
  have hm0 := hm
  have hfr : FRM M M r sz (sz + 2) := FRM.rf
  refine g_aload hX dX8_init_0 rfl rfl ?_
  refine g_obj hX dX8_init_1 ?_
  refine g_aload hX dX8_init_4 rfl rfl ?_
  refine g_const hX dX8_init_5 ?_
  refine o_newa hX dX8_init_8 (N := 366) rfl (by decide) (by decide) (by decide) (fun M1 hs1 hn1 => ?_)
  have hm := (hn1 (r) (by omega)).trans hm
  have hf1 := hs1
  have hfr := hfr.new9 (a := sz) (by omega) (by omega) hn1
  refine o_put hX dX8_init_10 (by assumption) (by simp) rfl rfl (fun M2 hs2 hn2 => ?_)
  dsimp only [List.set] at hs2
  have hm := hs2
  have hf1 := (hn2 (sz) (by omega)).trans hf1
  have hfr := hfr.put9 hm0 hn2
  refine g_aload hX dX8_init_13 rfl rfl ?_
  refine g_const hX dX8_init_14 ?_
  refine o_newa hX dX8_init_16 (N := 20) rfl (by decide) (by decide) (by decide) (fun M3 hs3 hn3 => ?_)
  have hm := (hn3 (r) (by omega)).trans hm
  have hf1 := (hn3 (sz) (by omega)).trans hf1
  have hf3 := hs3
  have hfr := hfr.new9 (a := sz + 1) (by omega) (by omega) hn3
  refine o_put hX dX8_init_18 (by assumption) (by simp) rfl rfl (fun M4 hs4 hn4 => ?_)
  dsimp only [List.set] at hs4
  have hm := hs4
  have hf1 := (hn4 (sz) (by omega)).trans hf1
  have hf3 := (hn4 (sz + 1) (by omega)).trans hf3
  have hfr := hfr.put9 hm0 hn4
  refine g_aload hX dX8_init_21 rfl rfl ?_
  refine g_const hX dX8_init_22 ?_
  refine o_put hX dX8_init_25 (by assumption) (by simp) rfl rfl (fun M5 hs5 hn5 => ?_)
  dsimp only [List.set] at hs5
  have hm := hs5
  have hf1 := (hn5 (sz) (by omega)).trans hf1
  have hf3 := (hn5 (sz + 1) (by omega)).trans hf3
  have hfr := hfr.put9 hm0 hn5
  refine g_aload hX dX8_init_28 rfl rfl ?_
  refine g_const hX dX8_init_29 ?_
  refine o_put hX dX8_init_30 (by assumption) (by simp) rfl rfl (fun M6 hs6 hn6 => ?_)
  dsimp only [List.set] at hs6
  have hm := hs6
  have hf1 := (hn6 (sz) (by omega)).trans hf1
  have hf3 := (hn6 (sz + 1) (by omega)).trans hf3
  have hfr := hfr.put9 hm0 hn6
  refine g_aload hX dX8_init_33 rfl rfl ?_
  refine g_const hX dX8_init_34 ?_
  refine o_put hX dX8_init_35 (by assumption) (by simp) rfl rfl (fun M7 hs7 hn7 => ?_)
  dsimp only [List.set] at hs7
  have hm := hs7
  have hf1 := (hn7 (sz) (by omega)).trans hf1
  have hf3 := (hn7 (sz + 1) (by omega)).trans hf3
  have hfr := hfr.put9 hm0 hn7
  refine g_vret hX hR dX8_init_38 rfl (by decide) (by decide) ?_
  exact hK _ hm hf1 hf3 hfr

def sp_X9_init (g : hG) : hS := fun as M sz K => ∃ (r : Nat) (v0 v1 v2 v3 v4 v5 v6 : Value), as = [.ref r] ∧ M r = some (.inl (9, [v0, v1, v2, v3, v4, v5, v6])) ∧ (∀ M' : hM, M' r = some (.inl (9, [.ref sz, .ref (sz + 1), .ref (sz + 2), .ref (sz + 3), .ref (sz + 4), .ref (sz + 6), .int (iZ 0)])) → (∀ j, j < 4 → M' (sz + j) = some (.inl (0, [.int (iZ 0), .ref g.2.2.2.2, .int (iZ 0)]))) → M' (sz + 4) = some (.inl (2, [.ref (sz + 5)])) → M' (sz + 5) = some (.inr (0, 3, .inl (fun _ => iZ (-100)))) → M' (sz + 6) = some (.inl (8, [.ref (sz + 7), .ref (sz + 8), .int (iZ 2000), .int (iZ 0), .int (iZ 0)])) → M' (sz + 7) = some (.inr (0, 366, .inl (fun _ => iZ 0))) → M' (sz + 8) = some (.inr (0, 20, .inl (fun _ => iZ 0))) → K (.inl none) M' (sz + 9))
theorem s_X9_init {l : Launch} {g : hG} (hst : l.stackTraces = false) : Ctr l g mX9_init (sp_X9_init g) := by
  refine Ctr.mk9 hst (by decide) ?_ ?_
  · rintro as M sz K ⟨r, v0, v1, v2, v3, v4, v5, v6, rfl, hm, hK⟩
    exact ⟨by simp [mX9_init], cat_ok rfl⟩
  rintro X as M sz K hX rfl rfl hR ⟨r, v0, v1, v2, v3, v4, v5, v6, rfl, hm, hK⟩
  show G X 0 [.ref r] [] M sz 0 0
  refine g_dom hX (fun hdom => ?_)
  have hr9 := (hdom r _ hm).1
  refine g_aload hX dX9_init_0 rfl rfl ?_
  refine g_obj hX dX9_init_1 ?_
  refine g_aload hX dX9_init_4 rfl rfl ?_
  refine o_new hX dX9_init_5 rfl (by decide) (by decide) (fun M1 hs1 hn1 => ?_)
  have hm := (hn1 (r) (by omega)).trans hm
  have hf1 := hs1
  
  refine g_dup hX dX9_init_8 rfl ?_
  refine g_cI0 (c2 := 1) (s2 := 3) hX (s_Jx4a65c_init_da8c8 hst) dX9_init_9 (by first | exact Nat.le_of_ble_eq_true rfl | simp [cat_rf, Value.category]) ⟨rfl, rfl, by decide, by decide⟩ ?_
  refine ⟨_, _, _, _, rfl, hf1, Kc_v ?_⟩
  generalize hg2 : hup _ _ _ = M2
  have hn2 := fun q (h : q ≠ sz) => (congrFun hg2 q).symm.trans (hup_n _ _ h)
  have hs2 : M2 (sz) = some (.inl (0, [.int (iZ 0), .ref X.2.2.2.2.2.2.2.2.2, .int (iZ 0)])) := (congrFun hg2 (sz)).symm.trans ((hup_s _ _ _).trans (by rw [← z_0]))
  have hm := (hn2 (r) (by omega)).trans hm
  have hf1 := hs2
  
  refine o_put hX dX9_init_12 hm (by simp) rfl rfl (fun M3 hs3 hn3 => ?_)
  dsimp only [List.set] at hs3
  have hm := hs3
  have hf1 := (hn3 (sz) (by omega)).trans hf1
  
  refine g_aload hX dX9_init_15 rfl rfl ?_
  refine o_new hX dX9_init_16 rfl (by decide) (by decide) (fun M4 hs4 hn4 => ?_)
  have hm := (hn4 (r) (by omega)).trans hm
  have hf1 := (hn4 (sz) (by omega)).trans hf1
  have hf4 := hs4
  
  refine g_dup hX dX9_init_19 rfl ?_
  refine g_cI0 (c2 := 2) (s2 := 6) hX (s_Jx4a65c_init_da8c8 hst) dX9_init_20 (by first | exact Nat.le_of_ble_eq_true rfl | simp [cat_rf, Value.category]) ⟨rfl, rfl, by decide, by decide⟩ ?_
  refine ⟨_, _, _, _, rfl, hf4, Kc_v ?_⟩
  generalize hg5 : hup _ _ _ = M5
  have hn5 := fun q (h : q ≠ sz + 1) => (congrFun hg5 q).symm.trans (hup_n _ _ h)
  have hs5 : M5 (sz + 1) = some (.inl (0, [.int (iZ 0), .ref X.2.2.2.2.2.2.2.2.2, .int (iZ 0)])) := (congrFun hg5 (sz + 1)).symm.trans ((hup_s _ _ _).trans (by rw [← z_0]))
  have hm := (hn5 (r) (by omega)).trans hm
  have hf1 := (hn5 (sz) (by omega)).trans hf1
  have hf4 := hs5
  
  refine o_put hX dX9_init_23 hm (by simp) rfl rfl (fun M6 hs6 hn6 => ?_)
  dsimp only [List.set] at hs6
  have hm := hs6
  have hf1 := (hn6 (sz) (by omega)).trans hf1
  have hf4 := (hn6 (sz + 1) (by omega)).trans hf4
  
  refine g_aload hX dX9_init_26 rfl rfl ?_
  refine o_new hX dX9_init_27 rfl (by decide) (by decide) (fun M7 hs7 hn7 => ?_)
  have hm := (hn7 (r) (by omega)).trans hm
  have hf1 := (hn7 (sz) (by omega)).trans hf1
  have hf4 := (hn7 (sz + 1) (by omega)).trans hf4
  have hf7 := hs7
  
  refine g_dup hX dX9_init_30 rfl ?_
  refine g_cI0 (c2 := 3) (s2 := 9) hX (s_Jx4a65c_init_da8c8 hst) dX9_init_31 (by first | exact Nat.le_of_ble_eq_true rfl | simp [cat_rf, Value.category]) ⟨rfl, rfl, by decide, by decide⟩ ?_
  refine ⟨_, _, _, _, rfl, hf7, Kc_v ?_⟩
  generalize hg8 : hup _ _ _ = M8
  have hn8 := fun q (h : q ≠ sz + 2) => (congrFun hg8 q).symm.trans (hup_n _ _ h)
  have hs8 : M8 (sz + 2) = some (.inl (0, [.int (iZ 0), .ref X.2.2.2.2.2.2.2.2.2, .int (iZ 0)])) := (congrFun hg8 (sz + 2)).symm.trans ((hup_s _ _ _).trans (by rw [← z_0]))
  have hm := (hn8 (r) (by omega)).trans hm
  have hf1 := (hn8 (sz) (by omega)).trans hf1
  have hf4 := (hn8 (sz + 1) (by omega)).trans hf4
  have hf7 := hs8
  
  refine o_put hX dX9_init_34 hm (by simp) rfl rfl (fun M9 hs9 hn9 => ?_)
  dsimp only [List.set] at hs9
  have hm := hs9
  have hf1 := (hn9 (sz) (by omega)).trans hf1
  have hf4 := (hn9 (sz + 1) (by omega)).trans hf4
  have hf7 := (hn9 (sz + 2) (by omega)).trans hf7
  
  refine g_aload hX dX9_init_37 rfl rfl ?_
  refine o_new hX dX9_init_38 rfl (by decide) (by decide) (fun M10 hs10 hn10 => ?_)
  have hm := (hn10 (r) (by omega)).trans hm
  have hf1 := (hn10 (sz) (by omega)).trans hf1
  have hf4 := (hn10 (sz + 1) (by omega)).trans hf4
  have hf7 := (hn10 (sz + 2) (by omega)).trans hf7
  have hf10 := hs10
  
  refine g_dup hX dX9_init_41 rfl ?_
  refine g_cI0 (c2 := 4) (s2 := 12) hX (s_Jx4a65c_init_da8c8 hst) dX9_init_42 (by first | exact Nat.le_of_ble_eq_true rfl | simp [cat_rf, Value.category]) ⟨rfl, rfl, by decide, by decide⟩ ?_
  refine ⟨_, _, _, _, rfl, hf10, Kc_v ?_⟩
  generalize hg11 : hup _ _ _ = M11
  have hn11 := fun q (h : q ≠ sz + 3) => (congrFun hg11 q).symm.trans (hup_n _ _ h)
  have hs11 : M11 (sz + 3) = some (.inl (0, [.int (iZ 0), .ref X.2.2.2.2.2.2.2.2.2, .int (iZ 0)])) := (congrFun hg11 (sz + 3)).symm.trans ((hup_s _ _ _).trans (by rw [← z_0]))
  have hm := (hn11 (r) (by omega)).trans hm
  have hf1 := (hn11 (sz) (by omega)).trans hf1
  have hf4 := (hn11 (sz + 1) (by omega)).trans hf4
  have hf7 := (hn11 (sz + 2) (by omega)).trans hf7
  have hf10 := hs11
  
  refine o_put hX dX9_init_45 hm (by simp) rfl rfl (fun M12 hs12 hn12 => ?_)
  dsimp only [List.set] at hs12
  have hm := hs12
  have hf1 := (hn12 (sz) (by omega)).trans hf1
  have hf4 := (hn12 (sz + 1) (by omega)).trans hf4
  have hf7 := (hn12 (sz + 2) (by omega)).trans hf7
  have hf10 := (hn12 (sz + 3) (by omega)).trans hf10
  
  refine g_aload hX dX9_init_48 rfl rfl ?_
  refine o_new hX dX9_init_49 rfl (by decide) (by decide) (fun M13 hs13 hn13 => ?_)
  have hm := (hn13 (r) (by omega)).trans hm
  have hf1 := (hn13 (sz) (by omega)).trans hf1
  have hf4 := (hn13 (sz + 1) (by omega)).trans hf4
  have hf7 := (hn13 (sz + 2) (by omega)).trans hf7
  have hf10 := (hn13 (sz + 3) (by omega)).trans hf10
  have hf13 := hs13
  
  refine g_dup hX dX9_init_52 rfl ?_
  refine g_cIN0 (c2 := 6) (s2 := 16) hX (s_X2_init hst) dX9_init_53 (by first | exact Nat.le_of_ble_eq_true rfl | simp [cat_rf, Value.category]) ⟨rfl, rfl, by decide, by decide⟩ ?_
  refine ⟨_, _, rfl, hf13, fun M14 h14a h14b hq14 => Kc_v ?_⟩
  have hm := (hq14.1 (r) (by omega) (by omega)).trans hm
  have hf1 := (hq14.1 (sz) (by omega) (by omega)).trans hf1
  have hf4 := (hq14.1 (sz + 1) (by omega) (by omega)).trans hf4
  have hf7 := (hq14.1 (sz + 2) (by omega) (by omega)).trans hf7
  have hf10 := (hq14.1 (sz + 3) (by omega) (by omega)).trans hf10
  have hf13 := h14a
  have hz14b := h14b
  
  refine o_put hX dX9_init_56 hm (by simp) rfl rfl (fun M15 hs15 hn15 => ?_)
  dsimp only [List.set] at hs15
  have hm := hs15
  have hf1 := (hn15 (sz) (by omega)).trans hf1
  have hf4 := (hn15 (sz + 1) (by omega)).trans hf4
  have hf7 := (hn15 (sz + 2) (by omega)).trans hf7
  have hf10 := (hn15 (sz + 3) (by omega)).trans hf10
  have hf13 := (hn15 (sz + 4) (by omega)).trans hf13
  have hz14b := (hn15 (sz + 5) (by omega)).trans hz14b
  
  refine g_aload hX dX9_init_59 rfl rfl ?_
  refine o_new hX dX9_init_60 rfl (by decide) (by decide) (fun M16 hs16 hn16 => ?_)
  have hm := (hn16 (r) (by omega)).trans hm
  have hf1 := (hn16 (sz) (by omega)).trans hf1
  have hf4 := (hn16 (sz + 1) (by omega)).trans hf4
  have hf7 := (hn16 (sz + 2) (by omega)).trans hf7
  have hf10 := (hn16 (sz + 3) (by omega)).trans hf10
  have hf13 := (hn16 (sz + 4) (by omega)).trans hf13
  have hz14b := (hn16 (sz + 5) (by omega)).trans hz14b
  have hf16 := hs16
  
  refine g_dup hX dX9_init_63 rfl ?_
  refine g_cIN0 (c2 := 9) (s2 := 407) hX (s_X8_init hst) dX9_init_64 (by first | exact Nat.le_of_ble_eq_true rfl | simp [cat_rf, Value.category]) ⟨rfl, rfl, by decide, by decide⟩ ?_
  refine ⟨_, _, _, _, _, _, rfl, hf16, fun M17 h17a h17b h17c hq17 => Kc_v ?_⟩
  have hm := (hq17.1 (r) (by omega) (by omega)).trans hm
  have hf1 := (hq17.1 (sz) (by omega) (by omega)).trans hf1
  have hf4 := (hq17.1 (sz + 1) (by omega) (by omega)).trans hf4
  have hf7 := (hq17.1 (sz + 2) (by omega) (by omega)).trans hf7
  have hf10 := (hq17.1 (sz + 3) (by omega) (by omega)).trans hf10
  have hf13 := (hq17.1 (sz + 4) (by omega) (by omega)).trans hf13
  have hz14b := (hq17.1 (sz + 5) (by omega) (by omega)).trans hz14b
  have hf16 := h17a
  have hz17b := h17b
  have hz17c := h17c
  
  refine o_put hX dX9_init_67 hm (by simp) rfl rfl (fun M18 hs18 hn18 => ?_)
  dsimp only [List.set] at hs18
  have hm := hs18
  have hf1 := (hn18 (sz) (by omega)).trans hf1
  have hf4 := (hn18 (sz + 1) (by omega)).trans hf4
  have hf7 := (hn18 (sz + 2) (by omega)).trans hf7
  have hf10 := (hn18 (sz + 3) (by omega)).trans hf10
  have hf13 := (hn18 (sz + 4) (by omega)).trans hf13
  have hz14b := (hn18 (sz + 5) (by omega)).trans hz14b
  have hf16 := (hn18 (sz + 6) (by omega)).trans hf16
  have hz17b := (hn18 (sz + 7) (by omega)).trans hz17b
  have hz17c := (hn18 (sz + 8) (by omega)).trans hz17c
  
  refine g_aload hX dX9_init_70 rfl rfl ?_
  refine g_const hX dX9_init_71 ?_
  refine o_put hX dX9_init_72 hm (by simp) rfl rfl (fun M19 hs19 hn19 => ?_)
  dsimp only [List.set] at hs19
  have hm := hs19
  have hf1 := (hn19 (sz) (by omega)).trans hf1
  have hf4 := (hn19 (sz + 1) (by omega)).trans hf4
  have hf7 := (hn19 (sz + 2) (by omega)).trans hf7
  have hf10 := (hn19 (sz + 3) (by omega)).trans hf10
  have hf13 := (hn19 (sz + 4) (by omega)).trans hf13
  have hz14b := (hn19 (sz + 5) (by omega)).trans hz14b
  have hf16 := (hn19 (sz + 6) (by omega)).trans hf16
  have hz17b := (hn19 (sz + 7) (by omega)).trans hz17b
  have hz17c := (hn19 (sz + 8) (by omega)).trans hz17c
  
  refine g_vret hX hR dX9_init_75 rfl (by decide) (by decide) ?_
  exact hK _ hm (fun j hj => by rcases (show j = 0 ∨ j = 1 ∨ j = 2 ∨ j = 3 by omega) with rfl | rfl | rfl | rfl; exact hf1; exact hf4; exact hf7; exact hf10) hf13 hz14b hf16 hz17b hz17c

def sp_X10_init : hS := fun as M sz K => ∃ (r : Nat) (v0 v1 v2 v3 v4 v5 v6 v7 v8 v9 v10 v11 v12 v13 v14 v15 v16 v17 v18 v19 v20 v21 v22 v23 v24 : Value), as = [.ref r] ∧ M r = some (.inl (10, [.int (iZ 0), v0, v1, v2, v3, v4, v5, .int (iZ 0), v6, v7, v8, v9, v10, v11, v12, .int (iZ 0), v13, v14, v15, v16, v17, .int (iZ 0), v18, v19, v20, .int (iZ 0), v21, v22, v23, v24, .int (iZ 0)])) ∧ (∀ M' : hM, MX sz r σ0 0 (fun _ => 0) (fun _ => 0) M' → K (.inl none) M' (sz + 25))
theorem s_X10_init {l : Launch} {g : hG} (hst : l.stackTraces = false) : Ctr l g mX10_init sp_X10_init := by
  refine Ctr.mk9 hst (by decide) ?_ ?_
  · rintro as M sz K ⟨r, v0, v1, v2, v3, v4, v5, v6, v7, v8, v9, v10, v11, v12, v13, v14, v15, v16, v17, v18, v19, v20, v21, v22, v23, v24, rfl, hm, hK⟩
    exact ⟨by simp [mX10_init], cat_ok rfl⟩
  rintro X as M sz K hX rfl rfl hR ⟨r, v0, v1, v2, v3, v4, v5, v6, v7, v8, v9, v10, v11, v12, v13, v14, v15, v16, v17, v18, v19, v20, v21, v22, v23, v24, rfl, hm, hK⟩
  show G X 0 [.ref r, U9] [] M sz 0 0
  refine g_dom hX (fun hdom => ?_)
  have hr9 := (hdom r _ hm).1
  refine g_aload hX dX10_init_0 rfl rfl ?_
  refine g_obj hX dX10_init_1 ?_
  refine g_aload hX dX10_init_4 rfl rfl ?_
  refine g_const hX dX10_init_5 ?_
  refine o_newa hX dX10_init_7 (N := 12) rfl (by decide) (by decide) (by decide) (fun M1 hs1 hn1 => ?_)
  have hm := (hn1 (r) (by omega)).trans hm
  have ha0 := hs1
  
  refine o_put hX dX10_init_9 hm (by simp) rfl rfl (fun M2 hs2 hn2 => ?_)
  dsimp only [List.set] at hs2
  have hm := hs2
  have ha0 := (hn2 (sz) (by omega)).trans ha0
  
  refine g_aload hX dX10_init_12 rfl rfl ?_
  refine g_const hX dX10_init_13 ?_
  refine o_newa hX dX10_init_15 (N := 12) rfl (by decide) (by decide) (by decide) (fun M3 hs3 hn3 => ?_)
  have hm := (hn3 (r) (by omega)).trans hm
  have ha0 := (hn3 (sz) (by omega)).trans ha0
  have ha1 := hs3
  
  refine o_put hX dX10_init_17 hm (by simp) rfl rfl (fun M4 hs4 hn4 => ?_)
  dsimp only [List.set] at hs4
  have hm := hs4
  have ha0 := (hn4 (sz) (by omega)).trans ha0
  have ha1 := (hn4 (sz + 1) (by omega)).trans ha1
  
  refine g_aload hX dX10_init_20 rfl rfl ?_
  refine g_const hX dX10_init_21 ?_
  refine o_newa hX dX10_init_23 (N := 12) rfl (by decide) (by decide) (by decide) (fun M5 hs5 hn5 => ?_)
  have hm := (hn5 (r) (by omega)).trans hm
  have ha0 := (hn5 (sz) (by omega)).trans ha0
  have ha1 := (hn5 (sz + 1) (by omega)).trans ha1
  have ha2 := hs5
  
  refine o_put hX dX10_init_25 hm (by simp) rfl rfl (fun M6 hs6 hn6 => ?_)
  dsimp only [List.set] at hs6
  have hm := hs6
  have ha0 := (hn6 (sz) (by omega)).trans ha0
  have ha1 := (hn6 (sz + 1) (by omega)).trans ha1
  have ha2 := (hn6 (sz + 2) (by omega)).trans ha2
  
  refine g_aload hX dX10_init_28 rfl rfl ?_
  refine g_const hX dX10_init_29 ?_
  refine o_newa hX dX10_init_31 (N := 12) rfl (by decide) (by decide) (by decide) (fun M7 hs7 hn7 => ?_)
  have hm := (hn7 (r) (by omega)).trans hm
  have ha0 := (hn7 (sz) (by omega)).trans ha0
  have ha1 := (hn7 (sz + 1) (by omega)).trans ha1
  have ha2 := (hn7 (sz + 2) (by omega)).trans ha2
  have ha3 := hs7
  
  refine o_put hX dX10_init_33 hm (by simp) rfl rfl (fun M8 hs8 hn8 => ?_)
  dsimp only [List.set] at hs8
  have hm := hs8
  have ha0 := (hn8 (sz) (by omega)).trans ha0
  have ha1 := (hn8 (sz + 1) (by omega)).trans ha1
  have ha2 := (hn8 (sz + 2) (by omega)).trans ha2
  have ha3 := (hn8 (sz + 3) (by omega)).trans ha3
  
  refine g_aload hX dX10_init_36 rfl rfl ?_
  refine g_const hX dX10_init_37 ?_
  refine o_newa hX dX10_init_39 (N := 96) rfl (by decide) (by decide) (by decide) (fun M9 hs9 hn9 => ?_)
  have hm := (hn9 (r) (by omega)).trans hm
  have ha0 := (hn9 (sz) (by omega)).trans ha0
  have ha1 := (hn9 (sz + 1) (by omega)).trans ha1
  have ha2 := (hn9 (sz + 2) (by omega)).trans ha2
  have ha3 := (hn9 (sz + 3) (by omega)).trans ha3
  have ha4 := hs9
  
  refine o_put hX dX10_init_41 hm (by simp) rfl rfl (fun M10 hs10 hn10 => ?_)
  dsimp only [List.set] at hs10
  have hm := hs10
  have ha0 := (hn10 (sz) (by omega)).trans ha0
  have ha1 := (hn10 (sz + 1) (by omega)).trans ha1
  have ha2 := (hn10 (sz + 2) (by omega)).trans ha2
  have ha3 := (hn10 (sz + 3) (by omega)).trans ha3
  have ha4 := (hn10 (sz + 4) (by omega)).trans ha4
  
  refine g_aload hX dX10_init_44 rfl rfl ?_
  refine g_const hX dX10_init_45 ?_
  refine o_newa hX dX10_init_47 (N := 96) rfl (by decide) (by decide) (by decide) (fun M11 hs11 hn11 => ?_)
  have hm := (hn11 (r) (by omega)).trans hm
  have ha0 := (hn11 (sz) (by omega)).trans ha0
  have ha1 := (hn11 (sz + 1) (by omega)).trans ha1
  have ha2 := (hn11 (sz + 2) (by omega)).trans ha2
  have ha3 := (hn11 (sz + 3) (by omega)).trans ha3
  have ha4 := (hn11 (sz + 4) (by omega)).trans ha4
  have ha5 := hs11
  
  refine o_put hX dX10_init_49 hm (by simp) rfl rfl (fun M12 hs12 hn12 => ?_)
  dsimp only [List.set] at hs12
  have hm := hs12
  have ha0 := (hn12 (sz) (by omega)).trans ha0
  have ha1 := (hn12 (sz + 1) (by omega)).trans ha1
  have ha2 := (hn12 (sz + 2) (by omega)).trans ha2
  have ha3 := (hn12 (sz + 3) (by omega)).trans ha3
  have ha4 := (hn12 (sz + 4) (by omega)).trans ha4
  have ha5 := (hn12 (sz + 5) (by omega)).trans ha5
  
  refine g_aload hX dX10_init_52 rfl rfl ?_
  refine g_const hX dX10_init_53 ?_
  refine o_newa hX dX10_init_55 (N := 12) rfl (by decide) (by decide) (by decide) (fun M13 hs13 hn13 => ?_)
  have hm := (hn13 (r) (by omega)).trans hm
  have ha0 := (hn13 (sz) (by omega)).trans ha0
  have ha1 := (hn13 (sz + 1) (by omega)).trans ha1
  have ha2 := (hn13 (sz + 2) (by omega)).trans ha2
  have ha3 := (hn13 (sz + 3) (by omega)).trans ha3
  have ha4 := (hn13 (sz + 4) (by omega)).trans ha4
  have ha5 := (hn13 (sz + 5) (by omega)).trans ha5
  have ha6 := hs13
  
  refine o_put hX dX10_init_57 hm (by simp) rfl rfl (fun M14 hs14 hn14 => ?_)
  dsimp only [List.set] at hs14
  have hm := hs14
  have ha0 := (hn14 (sz) (by omega)).trans ha0
  have ha1 := (hn14 (sz + 1) (by omega)).trans ha1
  have ha2 := (hn14 (sz + 2) (by omega)).trans ha2
  have ha3 := (hn14 (sz + 3) (by omega)).trans ha3
  have ha4 := (hn14 (sz + 4) (by omega)).trans ha4
  have ha5 := (hn14 (sz + 5) (by omega)).trans ha5
  have ha6 := (hn14 (sz + 6) (by omega)).trans ha6
  
  refine g_aload hX dX10_init_60 rfl rfl ?_
  refine g_const hX dX10_init_61 ?_
  refine o_newa hX dX10_init_63 (N := 12) rfl (by decide) (by decide) (by decide) (fun M15 hs15 hn15 => ?_)
  have hm := (hn15 (r) (by omega)).trans hm
  have ha0 := (hn15 (sz) (by omega)).trans ha0
  have ha1 := (hn15 (sz + 1) (by omega)).trans ha1
  have ha2 := (hn15 (sz + 2) (by omega)).trans ha2
  have ha3 := (hn15 (sz + 3) (by omega)).trans ha3
  have ha4 := (hn15 (sz + 4) (by omega)).trans ha4
  have ha5 := (hn15 (sz + 5) (by omega)).trans ha5
  have ha6 := (hn15 (sz + 6) (by omega)).trans ha6
  have ha7 := hs15
  
  refine o_put hX dX10_init_65 hm (by simp) rfl rfl (fun M16 hs16 hn16 => ?_)
  dsimp only [List.set] at hs16
  have hm := hs16
  have ha0 := (hn16 (sz) (by omega)).trans ha0
  have ha1 := (hn16 (sz + 1) (by omega)).trans ha1
  have ha2 := (hn16 (sz + 2) (by omega)).trans ha2
  have ha3 := (hn16 (sz + 3) (by omega)).trans ha3
  have ha4 := (hn16 (sz + 4) (by omega)).trans ha4
  have ha5 := (hn16 (sz + 5) (by omega)).trans ha5
  have ha6 := (hn16 (sz + 6) (by omega)).trans ha6
  have ha7 := (hn16 (sz + 7) (by omega)).trans ha7
  
  refine g_aload hX dX10_init_68 rfl rfl ?_
  refine g_const hX dX10_init_69 ?_
  refine o_newa hX dX10_init_71 (N := 12) rfl (by decide) (by decide) (by decide) (fun M17 hs17 hn17 => ?_)
  have hm := (hn17 (r) (by omega)).trans hm
  have ha0 := (hn17 (sz) (by omega)).trans ha0
  have ha1 := (hn17 (sz + 1) (by omega)).trans ha1
  have ha2 := (hn17 (sz + 2) (by omega)).trans ha2
  have ha3 := (hn17 (sz + 3) (by omega)).trans ha3
  have ha4 := (hn17 (sz + 4) (by omega)).trans ha4
  have ha5 := (hn17 (sz + 5) (by omega)).trans ha5
  have ha6 := (hn17 (sz + 6) (by omega)).trans ha6
  have ha7 := (hn17 (sz + 7) (by omega)).trans ha7
  have ha8 := hs17
  
  refine o_put hX dX10_init_73 hm (by simp) rfl rfl (fun M18 hs18 hn18 => ?_)
  dsimp only [List.set] at hs18
  have hm := hs18
  have ha0 := (hn18 (sz) (by omega)).trans ha0
  have ha1 := (hn18 (sz + 1) (by omega)).trans ha1
  have ha2 := (hn18 (sz + 2) (by omega)).trans ha2
  have ha3 := (hn18 (sz + 3) (by omega)).trans ha3
  have ha4 := (hn18 (sz + 4) (by omega)).trans ha4
  have ha5 := (hn18 (sz + 5) (by omega)).trans ha5
  have ha6 := (hn18 (sz + 6) (by omega)).trans ha6
  have ha7 := (hn18 (sz + 7) (by omega)).trans ha7
  have ha8 := (hn18 (sz + 8) (by omega)).trans ha8
  
  refine g_aload hX dX10_init_76 rfl rfl ?_
  refine g_const hX dX10_init_77 ?_
  refine o_newa hX dX10_init_79 (N := 12) rfl (by decide) (by decide) (by decide) (fun M19 hs19 hn19 => ?_)
  have hm := (hn19 (r) (by omega)).trans hm
  have ha0 := (hn19 (sz) (by omega)).trans ha0
  have ha1 := (hn19 (sz + 1) (by omega)).trans ha1
  have ha2 := (hn19 (sz + 2) (by omega)).trans ha2
  have ha3 := (hn19 (sz + 3) (by omega)).trans ha3
  have ha4 := (hn19 (sz + 4) (by omega)).trans ha4
  have ha5 := (hn19 (sz + 5) (by omega)).trans ha5
  have ha6 := (hn19 (sz + 6) (by omega)).trans ha6
  have ha7 := (hn19 (sz + 7) (by omega)).trans ha7
  have ha8 := (hn19 (sz + 8) (by omega)).trans ha8
  have ha9 := hs19
  
  refine o_put hX dX10_init_81 hm (by simp) rfl rfl (fun M20 hs20 hn20 => ?_)
  dsimp only [List.set] at hs20
  have hm := hs20
  have ha0 := (hn20 (sz) (by omega)).trans ha0
  have ha1 := (hn20 (sz + 1) (by omega)).trans ha1
  have ha2 := (hn20 (sz + 2) (by omega)).trans ha2
  have ha3 := (hn20 (sz + 3) (by omega)).trans ha3
  have ha4 := (hn20 (sz + 4) (by omega)).trans ha4
  have ha5 := (hn20 (sz + 5) (by omega)).trans ha5
  have ha6 := (hn20 (sz + 6) (by omega)).trans ha6
  have ha7 := (hn20 (sz + 7) (by omega)).trans ha7
  have ha8 := (hn20 (sz + 8) (by omega)).trans ha8
  have ha9 := (hn20 (sz + 9) (by omega)).trans ha9
  
  refine g_aload hX dX10_init_84 rfl rfl ?_
  refine g_const hX dX10_init_85 ?_
  refine o_newa hX dX10_init_87 (N := 12) rfl (by decide) (by decide) (by decide) (fun M21 hs21 hn21 => ?_)
  have hm := (hn21 (r) (by omega)).trans hm
  have ha0 := (hn21 (sz) (by omega)).trans ha0
  have ha1 := (hn21 (sz + 1) (by omega)).trans ha1
  have ha2 := (hn21 (sz + 2) (by omega)).trans ha2
  have ha3 := (hn21 (sz + 3) (by omega)).trans ha3
  have ha4 := (hn21 (sz + 4) (by omega)).trans ha4
  have ha5 := (hn21 (sz + 5) (by omega)).trans ha5
  have ha6 := (hn21 (sz + 6) (by omega)).trans ha6
  have ha7 := (hn21 (sz + 7) (by omega)).trans ha7
  have ha8 := (hn21 (sz + 8) (by omega)).trans ha8
  have ha9 := (hn21 (sz + 9) (by omega)).trans ha9
  have ha10 := hs21
  
  refine o_put hX dX10_init_89 hm (by simp) rfl rfl (fun M22 hs22 hn22 => ?_)
  dsimp only [List.set] at hs22
  have hm := hs22
  have ha0 := (hn22 (sz) (by omega)).trans ha0
  have ha1 := (hn22 (sz + 1) (by omega)).trans ha1
  have ha2 := (hn22 (sz + 2) (by omega)).trans ha2
  have ha3 := (hn22 (sz + 3) (by omega)).trans ha3
  have ha4 := (hn22 (sz + 4) (by omega)).trans ha4
  have ha5 := (hn22 (sz + 5) (by omega)).trans ha5
  have ha6 := (hn22 (sz + 6) (by omega)).trans ha6
  have ha7 := (hn22 (sz + 7) (by omega)).trans ha7
  have ha8 := (hn22 (sz + 8) (by omega)).trans ha8
  have ha9 := (hn22 (sz + 9) (by omega)).trans ha9
  have ha10 := (hn22 (sz + 10) (by omega)).trans ha10
  
  refine g_aload hX dX10_init_92 rfl rfl ?_
  refine g_const hX dX10_init_93 ?_
  refine o_newa hX dX10_init_95 (N := 96) rfl (by decide) (by decide) (by decide) (fun M23 hs23 hn23 => ?_)
  have hm := (hn23 (r) (by omega)).trans hm
  have ha0 := (hn23 (sz) (by omega)).trans ha0
  have ha1 := (hn23 (sz + 1) (by omega)).trans ha1
  have ha2 := (hn23 (sz + 2) (by omega)).trans ha2
  have ha3 := (hn23 (sz + 3) (by omega)).trans ha3
  have ha4 := (hn23 (sz + 4) (by omega)).trans ha4
  have ha5 := (hn23 (sz + 5) (by omega)).trans ha5
  have ha6 := (hn23 (sz + 6) (by omega)).trans ha6
  have ha7 := (hn23 (sz + 7) (by omega)).trans ha7
  have ha8 := (hn23 (sz + 8) (by omega)).trans ha8
  have ha9 := (hn23 (sz + 9) (by omega)).trans ha9
  have ha10 := (hn23 (sz + 10) (by omega)).trans ha10
  have ha11 := hs23
  
  refine o_put hX dX10_init_97 hm (by simp) rfl rfl (fun M24 hs24 hn24 => ?_)
  dsimp only [List.set] at hs24
  have hm := hs24
  have ha0 := (hn24 (sz) (by omega)).trans ha0
  have ha1 := (hn24 (sz + 1) (by omega)).trans ha1
  have ha2 := (hn24 (sz + 2) (by omega)).trans ha2
  have ha3 := (hn24 (sz + 3) (by omega)).trans ha3
  have ha4 := (hn24 (sz + 4) (by omega)).trans ha4
  have ha5 := (hn24 (sz + 5) (by omega)).trans ha5
  have ha6 := (hn24 (sz + 6) (by omega)).trans ha6
  have ha7 := (hn24 (sz + 7) (by omega)).trans ha7
  have ha8 := (hn24 (sz + 8) (by omega)).trans ha8
  have ha9 := (hn24 (sz + 9) (by omega)).trans ha9
  have ha10 := (hn24 (sz + 10) (by omega)).trans ha10
  have ha11 := (hn24 (sz + 11) (by omega)).trans ha11
  
  refine g_aload hX dX10_init_100 rfl rfl ?_
  refine g_const hX dX10_init_101 ?_
  refine o_newa hX dX10_init_103 (N := 96) rfl (by decide) (by decide) (by decide) (fun M25 hs25 hn25 => ?_)
  have hm := (hn25 (r) (by omega)).trans hm
  have ha0 := (hn25 (sz) (by omega)).trans ha0
  have ha1 := (hn25 (sz + 1) (by omega)).trans ha1
  have ha2 := (hn25 (sz + 2) (by omega)).trans ha2
  have ha3 := (hn25 (sz + 3) (by omega)).trans ha3
  have ha4 := (hn25 (sz + 4) (by omega)).trans ha4
  have ha5 := (hn25 (sz + 5) (by omega)).trans ha5
  have ha6 := (hn25 (sz + 6) (by omega)).trans ha6
  have ha7 := (hn25 (sz + 7) (by omega)).trans ha7
  have ha8 := (hn25 (sz + 8) (by omega)).trans ha8
  have ha9 := (hn25 (sz + 9) (by omega)).trans ha9
  have ha10 := (hn25 (sz + 10) (by omega)).trans ha10
  have ha11 := (hn25 (sz + 11) (by omega)).trans ha11
  have ha12 := hs25
  
  refine o_put hX dX10_init_105 hm (by simp) rfl rfl (fun M26 hs26 hn26 => ?_)
  dsimp only [List.set] at hs26
  have hm := hs26
  have ha0 := (hn26 (sz) (by omega)).trans ha0
  have ha1 := (hn26 (sz + 1) (by omega)).trans ha1
  have ha2 := (hn26 (sz + 2) (by omega)).trans ha2
  have ha3 := (hn26 (sz + 3) (by omega)).trans ha3
  have ha4 := (hn26 (sz + 4) (by omega)).trans ha4
  have ha5 := (hn26 (sz + 5) (by omega)).trans ha5
  have ha6 := (hn26 (sz + 6) (by omega)).trans ha6
  have ha7 := (hn26 (sz + 7) (by omega)).trans ha7
  have ha8 := (hn26 (sz + 8) (by omega)).trans ha8
  have ha9 := (hn26 (sz + 9) (by omega)).trans ha9
  have ha10 := (hn26 (sz + 10) (by omega)).trans ha10
  have ha11 := (hn26 (sz + 11) (by omega)).trans ha11
  have ha12 := (hn26 (sz + 12) (by omega)).trans ha12
  
  refine g_aload hX dX10_init_108 rfl rfl ?_
  refine g_const hX dX10_init_109 ?_
  refine o_newa hX dX10_init_111 (N := 20) rfl (by decide) (by decide) (by decide) (fun M27 hs27 hn27 => ?_)
  have hm := (hn27 (r) (by omega)).trans hm
  have ha0 := (hn27 (sz) (by omega)).trans ha0
  have ha1 := (hn27 (sz + 1) (by omega)).trans ha1
  have ha2 := (hn27 (sz + 2) (by omega)).trans ha2
  have ha3 := (hn27 (sz + 3) (by omega)).trans ha3
  have ha4 := (hn27 (sz + 4) (by omega)).trans ha4
  have ha5 := (hn27 (sz + 5) (by omega)).trans ha5
  have ha6 := (hn27 (sz + 6) (by omega)).trans ha6
  have ha7 := (hn27 (sz + 7) (by omega)).trans ha7
  have ha8 := (hn27 (sz + 8) (by omega)).trans ha8
  have ha9 := (hn27 (sz + 9) (by omega)).trans ha9
  have ha10 := (hn27 (sz + 10) (by omega)).trans ha10
  have ha11 := (hn27 (sz + 11) (by omega)).trans ha11
  have ha12 := (hn27 (sz + 12) (by omega)).trans ha12
  have ha13 := hs27
  
  refine o_put hX dX10_init_113 hm (by simp) rfl rfl (fun M28 hs28 hn28 => ?_)
  dsimp only [List.set] at hs28
  have hm := hs28
  have ha0 := (hn28 (sz) (by omega)).trans ha0
  have ha1 := (hn28 (sz + 1) (by omega)).trans ha1
  have ha2 := (hn28 (sz + 2) (by omega)).trans ha2
  have ha3 := (hn28 (sz + 3) (by omega)).trans ha3
  have ha4 := (hn28 (sz + 4) (by omega)).trans ha4
  have ha5 := (hn28 (sz + 5) (by omega)).trans ha5
  have ha6 := (hn28 (sz + 6) (by omega)).trans ha6
  have ha7 := (hn28 (sz + 7) (by omega)).trans ha7
  have ha8 := (hn28 (sz + 8) (by omega)).trans ha8
  have ha9 := (hn28 (sz + 9) (by omega)).trans ha9
  have ha10 := (hn28 (sz + 10) (by omega)).trans ha10
  have ha11 := (hn28 (sz + 11) (by omega)).trans ha11
  have ha12 := (hn28 (sz + 12) (by omega)).trans ha12
  have ha13 := (hn28 (sz + 13) (by omega)).trans ha13
  
  refine g_aload hX dX10_init_116 rfl rfl ?_
  refine g_const hX dX10_init_117 ?_
  refine o_newa hX dX10_init_119 (N := 20) rfl (by decide) (by decide) (by decide) (fun M29 hs29 hn29 => ?_)
  have hm := (hn29 (r) (by omega)).trans hm
  have ha0 := (hn29 (sz) (by omega)).trans ha0
  have ha1 := (hn29 (sz + 1) (by omega)).trans ha1
  have ha2 := (hn29 (sz + 2) (by omega)).trans ha2
  have ha3 := (hn29 (sz + 3) (by omega)).trans ha3
  have ha4 := (hn29 (sz + 4) (by omega)).trans ha4
  have ha5 := (hn29 (sz + 5) (by omega)).trans ha5
  have ha6 := (hn29 (sz + 6) (by omega)).trans ha6
  have ha7 := (hn29 (sz + 7) (by omega)).trans ha7
  have ha8 := (hn29 (sz + 8) (by omega)).trans ha8
  have ha9 := (hn29 (sz + 9) (by omega)).trans ha9
  have ha10 := (hn29 (sz + 10) (by omega)).trans ha10
  have ha11 := (hn29 (sz + 11) (by omega)).trans ha11
  have ha12 := (hn29 (sz + 12) (by omega)).trans ha12
  have ha13 := (hn29 (sz + 13) (by omega)).trans ha13
  have ha14 := hs29
  
  refine o_put hX dX10_init_121 hm (by simp) rfl rfl (fun M30 hs30 hn30 => ?_)
  dsimp only [List.set] at hs30
  have hm := hs30
  have ha0 := (hn30 (sz) (by omega)).trans ha0
  have ha1 := (hn30 (sz + 1) (by omega)).trans ha1
  have ha2 := (hn30 (sz + 2) (by omega)).trans ha2
  have ha3 := (hn30 (sz + 3) (by omega)).trans ha3
  have ha4 := (hn30 (sz + 4) (by omega)).trans ha4
  have ha5 := (hn30 (sz + 5) (by omega)).trans ha5
  have ha6 := (hn30 (sz + 6) (by omega)).trans ha6
  have ha7 := (hn30 (sz + 7) (by omega)).trans ha7
  have ha8 := (hn30 (sz + 8) (by omega)).trans ha8
  have ha9 := (hn30 (sz + 9) (by omega)).trans ha9
  have ha10 := (hn30 (sz + 10) (by omega)).trans ha10
  have ha11 := (hn30 (sz + 11) (by omega)).trans ha11
  have ha12 := (hn30 (sz + 12) (by omega)).trans ha12
  have ha13 := (hn30 (sz + 13) (by omega)).trans ha13
  have ha14 := (hn30 (sz + 14) (by omega)).trans ha14
  
  refine g_aload hX dX10_init_124 rfl rfl ?_
  refine g_const hX dX10_init_125 ?_
  refine o_newa hX dX10_init_127 (N := 20) rfl (by decide) (by decide) (by decide) (fun M31 hs31 hn31 => ?_)
  have hm := (hn31 (r) (by omega)).trans hm
  have ha0 := (hn31 (sz) (by omega)).trans ha0
  have ha1 := (hn31 (sz + 1) (by omega)).trans ha1
  have ha2 := (hn31 (sz + 2) (by omega)).trans ha2
  have ha3 := (hn31 (sz + 3) (by omega)).trans ha3
  have ha4 := (hn31 (sz + 4) (by omega)).trans ha4
  have ha5 := (hn31 (sz + 5) (by omega)).trans ha5
  have ha6 := (hn31 (sz + 6) (by omega)).trans ha6
  have ha7 := (hn31 (sz + 7) (by omega)).trans ha7
  have ha8 := (hn31 (sz + 8) (by omega)).trans ha8
  have ha9 := (hn31 (sz + 9) (by omega)).trans ha9
  have ha10 := (hn31 (sz + 10) (by omega)).trans ha10
  have ha11 := (hn31 (sz + 11) (by omega)).trans ha11
  have ha12 := (hn31 (sz + 12) (by omega)).trans ha12
  have ha13 := (hn31 (sz + 13) (by omega)).trans ha13
  have ha14 := (hn31 (sz + 14) (by omega)).trans ha14
  have ha15 := hs31
  
  refine o_put hX dX10_init_129 hm (by simp) rfl rfl (fun M32 hs32 hn32 => ?_)
  dsimp only [List.set] at hs32
  have hm := hs32
  have ha0 := (hn32 (sz) (by omega)).trans ha0
  have ha1 := (hn32 (sz + 1) (by omega)).trans ha1
  have ha2 := (hn32 (sz + 2) (by omega)).trans ha2
  have ha3 := (hn32 (sz + 3) (by omega)).trans ha3
  have ha4 := (hn32 (sz + 4) (by omega)).trans ha4
  have ha5 := (hn32 (sz + 5) (by omega)).trans ha5
  have ha6 := (hn32 (sz + 6) (by omega)).trans ha6
  have ha7 := (hn32 (sz + 7) (by omega)).trans ha7
  have ha8 := (hn32 (sz + 8) (by omega)).trans ha8
  have ha9 := (hn32 (sz + 9) (by omega)).trans ha9
  have ha10 := (hn32 (sz + 10) (by omega)).trans ha10
  have ha11 := (hn32 (sz + 11) (by omega)).trans ha11
  have ha12 := (hn32 (sz + 12) (by omega)).trans ha12
  have ha13 := (hn32 (sz + 13) (by omega)).trans ha13
  have ha14 := (hn32 (sz + 14) (by omega)).trans ha14
  have ha15 := (hn32 (sz + 15) (by omega)).trans ha15
  
  refine g_aload hX dX10_init_132 rfl rfl ?_
  refine g_const hX dX10_init_133 ?_
  refine o_newa hX dX10_init_135 (N := 20) rfl (by decide) (by decide) (by decide) (fun M33 hs33 hn33 => ?_)
  have hm := (hn33 (r) (by omega)).trans hm
  have ha0 := (hn33 (sz) (by omega)).trans ha0
  have ha1 := (hn33 (sz + 1) (by omega)).trans ha1
  have ha2 := (hn33 (sz + 2) (by omega)).trans ha2
  have ha3 := (hn33 (sz + 3) (by omega)).trans ha3
  have ha4 := (hn33 (sz + 4) (by omega)).trans ha4
  have ha5 := (hn33 (sz + 5) (by omega)).trans ha5
  have ha6 := (hn33 (sz + 6) (by omega)).trans ha6
  have ha7 := (hn33 (sz + 7) (by omega)).trans ha7
  have ha8 := (hn33 (sz + 8) (by omega)).trans ha8
  have ha9 := (hn33 (sz + 9) (by omega)).trans ha9
  have ha10 := (hn33 (sz + 10) (by omega)).trans ha10
  have ha11 := (hn33 (sz + 11) (by omega)).trans ha11
  have ha12 := (hn33 (sz + 12) (by omega)).trans ha12
  have ha13 := (hn33 (sz + 13) (by omega)).trans ha13
  have ha14 := (hn33 (sz + 14) (by omega)).trans ha14
  have ha15 := (hn33 (sz + 15) (by omega)).trans ha15
  have ha16 := hs33
  
  refine o_put hX dX10_init_137 hm (by simp) rfl rfl (fun M34 hs34 hn34 => ?_)
  dsimp only [List.set] at hs34
  have hm := hs34
  have ha0 := (hn34 (sz) (by omega)).trans ha0
  have ha1 := (hn34 (sz + 1) (by omega)).trans ha1
  have ha2 := (hn34 (sz + 2) (by omega)).trans ha2
  have ha3 := (hn34 (sz + 3) (by omega)).trans ha3
  have ha4 := (hn34 (sz + 4) (by omega)).trans ha4
  have ha5 := (hn34 (sz + 5) (by omega)).trans ha5
  have ha6 := (hn34 (sz + 6) (by omega)).trans ha6
  have ha7 := (hn34 (sz + 7) (by omega)).trans ha7
  have ha8 := (hn34 (sz + 8) (by omega)).trans ha8
  have ha9 := (hn34 (sz + 9) (by omega)).trans ha9
  have ha10 := (hn34 (sz + 10) (by omega)).trans ha10
  have ha11 := (hn34 (sz + 11) (by omega)).trans ha11
  have ha12 := (hn34 (sz + 12) (by omega)).trans ha12
  have ha13 := (hn34 (sz + 13) (by omega)).trans ha13
  have ha14 := (hn34 (sz + 14) (by omega)).trans ha14
  have ha15 := (hn34 (sz + 15) (by omega)).trans ha15
  have ha16 := (hn34 (sz + 16) (by omega)).trans ha16
  
  refine g_aload hX dX10_init_140 rfl rfl ?_
  refine g_const hX dX10_init_141 ?_
  refine o_newa hX dX10_init_143 (N := 20) rfl (by decide) (by decide) (by decide) (fun M35 hs35 hn35 => ?_)
  have hm := (hn35 (r) (by omega)).trans hm
  have ha0 := (hn35 (sz) (by omega)).trans ha0
  have ha1 := (hn35 (sz + 1) (by omega)).trans ha1
  have ha2 := (hn35 (sz + 2) (by omega)).trans ha2
  have ha3 := (hn35 (sz + 3) (by omega)).trans ha3
  have ha4 := (hn35 (sz + 4) (by omega)).trans ha4
  have ha5 := (hn35 (sz + 5) (by omega)).trans ha5
  have ha6 := (hn35 (sz + 6) (by omega)).trans ha6
  have ha7 := (hn35 (sz + 7) (by omega)).trans ha7
  have ha8 := (hn35 (sz + 8) (by omega)).trans ha8
  have ha9 := (hn35 (sz + 9) (by omega)).trans ha9
  have ha10 := (hn35 (sz + 10) (by omega)).trans ha10
  have ha11 := (hn35 (sz + 11) (by omega)).trans ha11
  have ha12 := (hn35 (sz + 12) (by omega)).trans ha12
  have ha13 := (hn35 (sz + 13) (by omega)).trans ha13
  have ha14 := (hn35 (sz + 14) (by omega)).trans ha14
  have ha15 := (hn35 (sz + 15) (by omega)).trans ha15
  have ha16 := (hn35 (sz + 16) (by omega)).trans ha16
  have ha17 := hs35
  
  refine o_put hX dX10_init_145 hm (by simp) rfl rfl (fun M36 hs36 hn36 => ?_)
  dsimp only [List.set] at hs36
  have hm := hs36
  have ha0 := (hn36 (sz) (by omega)).trans ha0
  have ha1 := (hn36 (sz + 1) (by omega)).trans ha1
  have ha2 := (hn36 (sz + 2) (by omega)).trans ha2
  have ha3 := (hn36 (sz + 3) (by omega)).trans ha3
  have ha4 := (hn36 (sz + 4) (by omega)).trans ha4
  have ha5 := (hn36 (sz + 5) (by omega)).trans ha5
  have ha6 := (hn36 (sz + 6) (by omega)).trans ha6
  have ha7 := (hn36 (sz + 7) (by omega)).trans ha7
  have ha8 := (hn36 (sz + 8) (by omega)).trans ha8
  have ha9 := (hn36 (sz + 9) (by omega)).trans ha9
  have ha10 := (hn36 (sz + 10) (by omega)).trans ha10
  have ha11 := (hn36 (sz + 11) (by omega)).trans ha11
  have ha12 := (hn36 (sz + 12) (by omega)).trans ha12
  have ha13 := (hn36 (sz + 13) (by omega)).trans ha13
  have ha14 := (hn36 (sz + 14) (by omega)).trans ha14
  have ha15 := (hn36 (sz + 15) (by omega)).trans ha15
  have ha16 := (hn36 (sz + 16) (by omega)).trans ha16
  have ha17 := (hn36 (sz + 17) (by omega)).trans ha17
  
  refine g_aload hX dX10_init_148 rfl rfl ?_
  refine g_const hX dX10_init_149 ?_
  refine o_newa hX dX10_init_151 (N := 63) rfl (by decide) (by decide) (by decide) (fun M37 hs37 hn37 => ?_)
  have hm := (hn37 (r) (by omega)).trans hm
  have ha0 := (hn37 (sz) (by omega)).trans ha0
  have ha1 := (hn37 (sz + 1) (by omega)).trans ha1
  have ha2 := (hn37 (sz + 2) (by omega)).trans ha2
  have ha3 := (hn37 (sz + 3) (by omega)).trans ha3
  have ha4 := (hn37 (sz + 4) (by omega)).trans ha4
  have ha5 := (hn37 (sz + 5) (by omega)).trans ha5
  have ha6 := (hn37 (sz + 6) (by omega)).trans ha6
  have ha7 := (hn37 (sz + 7) (by omega)).trans ha7
  have ha8 := (hn37 (sz + 8) (by omega)).trans ha8
  have ha9 := (hn37 (sz + 9) (by omega)).trans ha9
  have ha10 := (hn37 (sz + 10) (by omega)).trans ha10
  have ha11 := (hn37 (sz + 11) (by omega)).trans ha11
  have ha12 := (hn37 (sz + 12) (by omega)).trans ha12
  have ha13 := (hn37 (sz + 13) (by omega)).trans ha13
  have ha14 := (hn37 (sz + 14) (by omega)).trans ha14
  have ha15 := (hn37 (sz + 15) (by omega)).trans ha15
  have ha16 := (hn37 (sz + 16) (by omega)).trans ha16
  have ha17 := (hn37 (sz + 17) (by omega)).trans ha17
  have ha18 := hs37
  
  refine o_put hX dX10_init_153 hm (by simp) rfl rfl (fun M38 hs38 hn38 => ?_)
  dsimp only [List.set] at hs38
  have hm := hs38
  have ha0 := (hn38 (sz) (by omega)).trans ha0
  have ha1 := (hn38 (sz + 1) (by omega)).trans ha1
  have ha2 := (hn38 (sz + 2) (by omega)).trans ha2
  have ha3 := (hn38 (sz + 3) (by omega)).trans ha3
  have ha4 := (hn38 (sz + 4) (by omega)).trans ha4
  have ha5 := (hn38 (sz + 5) (by omega)).trans ha5
  have ha6 := (hn38 (sz + 6) (by omega)).trans ha6
  have ha7 := (hn38 (sz + 7) (by omega)).trans ha7
  have ha8 := (hn38 (sz + 8) (by omega)).trans ha8
  have ha9 := (hn38 (sz + 9) (by omega)).trans ha9
  have ha10 := (hn38 (sz + 10) (by omega)).trans ha10
  have ha11 := (hn38 (sz + 11) (by omega)).trans ha11
  have ha12 := (hn38 (sz + 12) (by omega)).trans ha12
  have ha13 := (hn38 (sz + 13) (by omega)).trans ha13
  have ha14 := (hn38 (sz + 14) (by omega)).trans ha14
  have ha15 := (hn38 (sz + 15) (by omega)).trans ha15
  have ha16 := (hn38 (sz + 16) (by omega)).trans ha16
  have ha17 := (hn38 (sz + 17) (by omega)).trans ha17
  have ha18 := (hn38 (sz + 18) (by omega)).trans ha18
  
  refine g_aload hX dX10_init_156 rfl rfl ?_
  refine g_const hX dX10_init_157 ?_
  refine o_newa hX dX10_init_160 (N := 366) rfl (by decide) (by decide) (by decide) (fun M39 hs39 hn39 => ?_)
  have hm := (hn39 (r) (by omega)).trans hm
  have ha0 := (hn39 (sz) (by omega)).trans ha0
  have ha1 := (hn39 (sz + 1) (by omega)).trans ha1
  have ha2 := (hn39 (sz + 2) (by omega)).trans ha2
  have ha3 := (hn39 (sz + 3) (by omega)).trans ha3
  have ha4 := (hn39 (sz + 4) (by omega)).trans ha4
  have ha5 := (hn39 (sz + 5) (by omega)).trans ha5
  have ha6 := (hn39 (sz + 6) (by omega)).trans ha6
  have ha7 := (hn39 (sz + 7) (by omega)).trans ha7
  have ha8 := (hn39 (sz + 8) (by omega)).trans ha8
  have ha9 := (hn39 (sz + 9) (by omega)).trans ha9
  have ha10 := (hn39 (sz + 10) (by omega)).trans ha10
  have ha11 := (hn39 (sz + 11) (by omega)).trans ha11
  have ha12 := (hn39 (sz + 12) (by omega)).trans ha12
  have ha13 := (hn39 (sz + 13) (by omega)).trans ha13
  have ha14 := (hn39 (sz + 14) (by omega)).trans ha14
  have ha15 := (hn39 (sz + 15) (by omega)).trans ha15
  have ha16 := (hn39 (sz + 16) (by omega)).trans ha16
  have ha17 := (hn39 (sz + 17) (by omega)).trans ha17
  have ha18 := (hn39 (sz + 18) (by omega)).trans ha18
  have ha19 := hs39
  
  refine o_put hX dX10_init_162 hm (by simp) rfl rfl (fun M40 hs40 hn40 => ?_)
  dsimp only [List.set] at hs40
  have hm := hs40
  have ha0 := (hn40 (sz) (by omega)).trans ha0
  have ha1 := (hn40 (sz + 1) (by omega)).trans ha1
  have ha2 := (hn40 (sz + 2) (by omega)).trans ha2
  have ha3 := (hn40 (sz + 3) (by omega)).trans ha3
  have ha4 := (hn40 (sz + 4) (by omega)).trans ha4
  have ha5 := (hn40 (sz + 5) (by omega)).trans ha5
  have ha6 := (hn40 (sz + 6) (by omega)).trans ha6
  have ha7 := (hn40 (sz + 7) (by omega)).trans ha7
  have ha8 := (hn40 (sz + 8) (by omega)).trans ha8
  have ha9 := (hn40 (sz + 9) (by omega)).trans ha9
  have ha10 := (hn40 (sz + 10) (by omega)).trans ha10
  have ha11 := (hn40 (sz + 11) (by omega)).trans ha11
  have ha12 := (hn40 (sz + 12) (by omega)).trans ha12
  have ha13 := (hn40 (sz + 13) (by omega)).trans ha13
  have ha14 := (hn40 (sz + 14) (by omega)).trans ha14
  have ha15 := (hn40 (sz + 15) (by omega)).trans ha15
  have ha16 := (hn40 (sz + 16) (by omega)).trans ha16
  have ha17 := (hn40 (sz + 17) (by omega)).trans ha17
  have ha18 := (hn40 (sz + 18) (by omega)).trans ha18
  have ha19 := (hn40 (sz + 19) (by omega)).trans ha19
  
  refine g_aload hX dX10_init_165 rfl rfl ?_
  refine g_const hX dX10_init_166 ?_
  refine o_newa hX dX10_init_168 (N := 20) rfl (by decide) (by decide) (by decide) (fun M41 hs41 hn41 => ?_)
  have hm := (hn41 (r) (by omega)).trans hm
  have ha0 := (hn41 (sz) (by omega)).trans ha0
  have ha1 := (hn41 (sz + 1) (by omega)).trans ha1
  have ha2 := (hn41 (sz + 2) (by omega)).trans ha2
  have ha3 := (hn41 (sz + 3) (by omega)).trans ha3
  have ha4 := (hn41 (sz + 4) (by omega)).trans ha4
  have ha5 := (hn41 (sz + 5) (by omega)).trans ha5
  have ha6 := (hn41 (sz + 6) (by omega)).trans ha6
  have ha7 := (hn41 (sz + 7) (by omega)).trans ha7
  have ha8 := (hn41 (sz + 8) (by omega)).trans ha8
  have ha9 := (hn41 (sz + 9) (by omega)).trans ha9
  have ha10 := (hn41 (sz + 10) (by omega)).trans ha10
  have ha11 := (hn41 (sz + 11) (by omega)).trans ha11
  have ha12 := (hn41 (sz + 12) (by omega)).trans ha12
  have ha13 := (hn41 (sz + 13) (by omega)).trans ha13
  have ha14 := (hn41 (sz + 14) (by omega)).trans ha14
  have ha15 := (hn41 (sz + 15) (by omega)).trans ha15
  have ha16 := (hn41 (sz + 16) (by omega)).trans ha16
  have ha17 := (hn41 (sz + 17) (by omega)).trans ha17
  have ha18 := (hn41 (sz + 18) (by omega)).trans ha18
  have ha19 := (hn41 (sz + 19) (by omega)).trans ha19
  have ha20 := hs41
  
  refine o_put hX dX10_init_170 hm (by simp) rfl rfl (fun M42 hs42 hn42 => ?_)
  dsimp only [List.set] at hs42
  have hm := hs42
  have ha0 := (hn42 (sz) (by omega)).trans ha0
  have ha1 := (hn42 (sz + 1) (by omega)).trans ha1
  have ha2 := (hn42 (sz + 2) (by omega)).trans ha2
  have ha3 := (hn42 (sz + 3) (by omega)).trans ha3
  have ha4 := (hn42 (sz + 4) (by omega)).trans ha4
  have ha5 := (hn42 (sz + 5) (by omega)).trans ha5
  have ha6 := (hn42 (sz + 6) (by omega)).trans ha6
  have ha7 := (hn42 (sz + 7) (by omega)).trans ha7
  have ha8 := (hn42 (sz + 8) (by omega)).trans ha8
  have ha9 := (hn42 (sz + 9) (by omega)).trans ha9
  have ha10 := (hn42 (sz + 10) (by omega)).trans ha10
  have ha11 := (hn42 (sz + 11) (by omega)).trans ha11
  have ha12 := (hn42 (sz + 12) (by omega)).trans ha12
  have ha13 := (hn42 (sz + 13) (by omega)).trans ha13
  have ha14 := (hn42 (sz + 14) (by omega)).trans ha14
  have ha15 := (hn42 (sz + 15) (by omega)).trans ha15
  have ha16 := (hn42 (sz + 16) (by omega)).trans ha16
  have ha17 := (hn42 (sz + 17) (by omega)).trans ha17
  have ha18 := (hn42 (sz + 18) (by omega)).trans ha18
  have ha19 := (hn42 (sz + 19) (by omega)).trans ha19
  have ha20 := (hn42 (sz + 20) (by omega)).trans ha20
  
  refine g_aload hX dX10_init_173 rfl rfl ?_
  refine g_const hX dX10_init_174 ?_
  refine o_newa hX dX10_init_176 (N := 60) rfl (by decide) (by decide) (by decide) (fun M43 hs43 hn43 => ?_)
  have hm := (hn43 (r) (by omega)).trans hm
  have ha0 := (hn43 (sz) (by omega)).trans ha0
  have ha1 := (hn43 (sz + 1) (by omega)).trans ha1
  have ha2 := (hn43 (sz + 2) (by omega)).trans ha2
  have ha3 := (hn43 (sz + 3) (by omega)).trans ha3
  have ha4 := (hn43 (sz + 4) (by omega)).trans ha4
  have ha5 := (hn43 (sz + 5) (by omega)).trans ha5
  have ha6 := (hn43 (sz + 6) (by omega)).trans ha6
  have ha7 := (hn43 (sz + 7) (by omega)).trans ha7
  have ha8 := (hn43 (sz + 8) (by omega)).trans ha8
  have ha9 := (hn43 (sz + 9) (by omega)).trans ha9
  have ha10 := (hn43 (sz + 10) (by omega)).trans ha10
  have ha11 := (hn43 (sz + 11) (by omega)).trans ha11
  have ha12 := (hn43 (sz + 12) (by omega)).trans ha12
  have ha13 := (hn43 (sz + 13) (by omega)).trans ha13
  have ha14 := (hn43 (sz + 14) (by omega)).trans ha14
  have ha15 := (hn43 (sz + 15) (by omega)).trans ha15
  have ha16 := (hn43 (sz + 16) (by omega)).trans ha16
  have ha17 := (hn43 (sz + 17) (by omega)).trans ha17
  have ha18 := (hn43 (sz + 18) (by omega)).trans ha18
  have ha19 := (hn43 (sz + 19) (by omega)).trans ha19
  have ha20 := (hn43 (sz + 20) (by omega)).trans ha20
  have ha21 := hs43
  
  refine o_put hX dX10_init_178 hm (by simp) rfl rfl (fun M44 hs44 hn44 => ?_)
  dsimp only [List.set] at hs44
  have hm := hs44
  have ha0 := (hn44 (sz) (by omega)).trans ha0
  have ha1 := (hn44 (sz + 1) (by omega)).trans ha1
  have ha2 := (hn44 (sz + 2) (by omega)).trans ha2
  have ha3 := (hn44 (sz + 3) (by omega)).trans ha3
  have ha4 := (hn44 (sz + 4) (by omega)).trans ha4
  have ha5 := (hn44 (sz + 5) (by omega)).trans ha5
  have ha6 := (hn44 (sz + 6) (by omega)).trans ha6
  have ha7 := (hn44 (sz + 7) (by omega)).trans ha7
  have ha8 := (hn44 (sz + 8) (by omega)).trans ha8
  have ha9 := (hn44 (sz + 9) (by omega)).trans ha9
  have ha10 := (hn44 (sz + 10) (by omega)).trans ha10
  have ha11 := (hn44 (sz + 11) (by omega)).trans ha11
  have ha12 := (hn44 (sz + 12) (by omega)).trans ha12
  have ha13 := (hn44 (sz + 13) (by omega)).trans ha13
  have ha14 := (hn44 (sz + 14) (by omega)).trans ha14
  have ha15 := (hn44 (sz + 15) (by omega)).trans ha15
  have ha16 := (hn44 (sz + 16) (by omega)).trans ha16
  have ha17 := (hn44 (sz + 17) (by omega)).trans ha17
  have ha18 := (hn44 (sz + 18) (by omega)).trans ha18
  have ha19 := (hn44 (sz + 19) (by omega)).trans ha19
  have ha20 := (hn44 (sz + 20) (by omega)).trans ha20
  have ha21 := (hn44 (sz + 21) (by omega)).trans ha21
  
  refine g_aload hX dX10_init_181 rfl rfl ?_
  refine g_const hX dX10_init_182 ?_
  refine o_newa hX dX10_init_184 (N := 60) rfl (by decide) (by decide) (by decide) (fun M45 hs45 hn45 => ?_)
  have hm := (hn45 (r) (by omega)).trans hm
  have ha0 := (hn45 (sz) (by omega)).trans ha0
  have ha1 := (hn45 (sz + 1) (by omega)).trans ha1
  have ha2 := (hn45 (sz + 2) (by omega)).trans ha2
  have ha3 := (hn45 (sz + 3) (by omega)).trans ha3
  have ha4 := (hn45 (sz + 4) (by omega)).trans ha4
  have ha5 := (hn45 (sz + 5) (by omega)).trans ha5
  have ha6 := (hn45 (sz + 6) (by omega)).trans ha6
  have ha7 := (hn45 (sz + 7) (by omega)).trans ha7
  have ha8 := (hn45 (sz + 8) (by omega)).trans ha8
  have ha9 := (hn45 (sz + 9) (by omega)).trans ha9
  have ha10 := (hn45 (sz + 10) (by omega)).trans ha10
  have ha11 := (hn45 (sz + 11) (by omega)).trans ha11
  have ha12 := (hn45 (sz + 12) (by omega)).trans ha12
  have ha13 := (hn45 (sz + 13) (by omega)).trans ha13
  have ha14 := (hn45 (sz + 14) (by omega)).trans ha14
  have ha15 := (hn45 (sz + 15) (by omega)).trans ha15
  have ha16 := (hn45 (sz + 16) (by omega)).trans ha16
  have ha17 := (hn45 (sz + 17) (by omega)).trans ha17
  have ha18 := (hn45 (sz + 18) (by omega)).trans ha18
  have ha19 := (hn45 (sz + 19) (by omega)).trans ha19
  have ha20 := (hn45 (sz + 20) (by omega)).trans ha20
  have ha21 := (hn45 (sz + 21) (by omega)).trans ha21
  have ha22 := hs45
  
  refine o_put hX dX10_init_186 hm (by simp) rfl rfl (fun M46 hs46 hn46 => ?_)
  dsimp only [List.set] at hs46
  have hm := hs46
  have ha0 := (hn46 (sz) (by omega)).trans ha0
  have ha1 := (hn46 (sz + 1) (by omega)).trans ha1
  have ha2 := (hn46 (sz + 2) (by omega)).trans ha2
  have ha3 := (hn46 (sz + 3) (by omega)).trans ha3
  have ha4 := (hn46 (sz + 4) (by omega)).trans ha4
  have ha5 := (hn46 (sz + 5) (by omega)).trans ha5
  have ha6 := (hn46 (sz + 6) (by omega)).trans ha6
  have ha7 := (hn46 (sz + 7) (by omega)).trans ha7
  have ha8 := (hn46 (sz + 8) (by omega)).trans ha8
  have ha9 := (hn46 (sz + 9) (by omega)).trans ha9
  have ha10 := (hn46 (sz + 10) (by omega)).trans ha10
  have ha11 := (hn46 (sz + 11) (by omega)).trans ha11
  have ha12 := (hn46 (sz + 12) (by omega)).trans ha12
  have ha13 := (hn46 (sz + 13) (by omega)).trans ha13
  have ha14 := (hn46 (sz + 14) (by omega)).trans ha14
  have ha15 := (hn46 (sz + 15) (by omega)).trans ha15
  have ha16 := (hn46 (sz + 16) (by omega)).trans ha16
  have ha17 := (hn46 (sz + 17) (by omega)).trans ha17
  have ha18 := (hn46 (sz + 18) (by omega)).trans ha18
  have ha19 := (hn46 (sz + 19) (by omega)).trans ha19
  have ha20 := (hn46 (sz + 20) (by omega)).trans ha20
  have ha21 := (hn46 (sz + 21) (by omega)).trans ha21
  have ha22 := (hn46 (sz + 22) (by omega)).trans ha22
  
  refine g_aload hX dX10_init_189 rfl rfl ?_
  refine g_const hX dX10_init_190 ?_
  refine o_newa hX dX10_init_192 (N := 60) rfl (by decide) (by decide) (by decide) (fun M47 hs47 hn47 => ?_)
  have hm := (hn47 (r) (by omega)).trans hm
  have ha0 := (hn47 (sz) (by omega)).trans ha0
  have ha1 := (hn47 (sz + 1) (by omega)).trans ha1
  have ha2 := (hn47 (sz + 2) (by omega)).trans ha2
  have ha3 := (hn47 (sz + 3) (by omega)).trans ha3
  have ha4 := (hn47 (sz + 4) (by omega)).trans ha4
  have ha5 := (hn47 (sz + 5) (by omega)).trans ha5
  have ha6 := (hn47 (sz + 6) (by omega)).trans ha6
  have ha7 := (hn47 (sz + 7) (by omega)).trans ha7
  have ha8 := (hn47 (sz + 8) (by omega)).trans ha8
  have ha9 := (hn47 (sz + 9) (by omega)).trans ha9
  have ha10 := (hn47 (sz + 10) (by omega)).trans ha10
  have ha11 := (hn47 (sz + 11) (by omega)).trans ha11
  have ha12 := (hn47 (sz + 12) (by omega)).trans ha12
  have ha13 := (hn47 (sz + 13) (by omega)).trans ha13
  have ha14 := (hn47 (sz + 14) (by omega)).trans ha14
  have ha15 := (hn47 (sz + 15) (by omega)).trans ha15
  have ha16 := (hn47 (sz + 16) (by omega)).trans ha16
  have ha17 := (hn47 (sz + 17) (by omega)).trans ha17
  have ha18 := (hn47 (sz + 18) (by omega)).trans ha18
  have ha19 := (hn47 (sz + 19) (by omega)).trans ha19
  have ha20 := (hn47 (sz + 20) (by omega)).trans ha20
  have ha21 := (hn47 (sz + 21) (by omega)).trans ha21
  have ha22 := (hn47 (sz + 22) (by omega)).trans ha22
  have ha23 := hs47
  
  refine o_put hX dX10_init_194 hm (by simp) rfl rfl (fun M48 hs48 hn48 => ?_)
  dsimp only [List.set] at hs48
  have hm := hs48
  have ha0 := (hn48 (sz) (by omega)).trans ha0
  have ha1 := (hn48 (sz + 1) (by omega)).trans ha1
  have ha2 := (hn48 (sz + 2) (by omega)).trans ha2
  have ha3 := (hn48 (sz + 3) (by omega)).trans ha3
  have ha4 := (hn48 (sz + 4) (by omega)).trans ha4
  have ha5 := (hn48 (sz + 5) (by omega)).trans ha5
  have ha6 := (hn48 (sz + 6) (by omega)).trans ha6
  have ha7 := (hn48 (sz + 7) (by omega)).trans ha7
  have ha8 := (hn48 (sz + 8) (by omega)).trans ha8
  have ha9 := (hn48 (sz + 9) (by omega)).trans ha9
  have ha10 := (hn48 (sz + 10) (by omega)).trans ha10
  have ha11 := (hn48 (sz + 11) (by omega)).trans ha11
  have ha12 := (hn48 (sz + 12) (by omega)).trans ha12
  have ha13 := (hn48 (sz + 13) (by omega)).trans ha13
  have ha14 := (hn48 (sz + 14) (by omega)).trans ha14
  have ha15 := (hn48 (sz + 15) (by omega)).trans ha15
  have ha16 := (hn48 (sz + 16) (by omega)).trans ha16
  have ha17 := (hn48 (sz + 17) (by omega)).trans ha17
  have ha18 := (hn48 (sz + 18) (by omega)).trans ha18
  have ha19 := (hn48 (sz + 19) (by omega)).trans ha19
  have ha20 := (hn48 (sz + 20) (by omega)).trans ha20
  have ha21 := (hn48 (sz + 21) (by omega)).trans ha21
  have ha22 := (hn48 (sz + 22) (by omega)).trans ha22
  have ha23 := (hn48 (sz + 23) (by omega)).trans ha23
  
  refine g_aload hX dX10_init_197 rfl rfl ?_
  refine g_const hX dX10_init_198 ?_
  refine o_newa hX dX10_init_200 (N := 60) rfl (by decide) (by decide) (by decide) (fun M49 hs49 hn49 => ?_)
  have hm := (hn49 (r) (by omega)).trans hm
  have ha0 := (hn49 (sz) (by omega)).trans ha0
  have ha1 := (hn49 (sz + 1) (by omega)).trans ha1
  have ha2 := (hn49 (sz + 2) (by omega)).trans ha2
  have ha3 := (hn49 (sz + 3) (by omega)).trans ha3
  have ha4 := (hn49 (sz + 4) (by omega)).trans ha4
  have ha5 := (hn49 (sz + 5) (by omega)).trans ha5
  have ha6 := (hn49 (sz + 6) (by omega)).trans ha6
  have ha7 := (hn49 (sz + 7) (by omega)).trans ha7
  have ha8 := (hn49 (sz + 8) (by omega)).trans ha8
  have ha9 := (hn49 (sz + 9) (by omega)).trans ha9
  have ha10 := (hn49 (sz + 10) (by omega)).trans ha10
  have ha11 := (hn49 (sz + 11) (by omega)).trans ha11
  have ha12 := (hn49 (sz + 12) (by omega)).trans ha12
  have ha13 := (hn49 (sz + 13) (by omega)).trans ha13
  have ha14 := (hn49 (sz + 14) (by omega)).trans ha14
  have ha15 := (hn49 (sz + 15) (by omega)).trans ha15
  have ha16 := (hn49 (sz + 16) (by omega)).trans ha16
  have ha17 := (hn49 (sz + 17) (by omega)).trans ha17
  have ha18 := (hn49 (sz + 18) (by omega)).trans ha18
  have ha19 := (hn49 (sz + 19) (by omega)).trans ha19
  have ha20 := (hn49 (sz + 20) (by omega)).trans ha20
  have ha21 := (hn49 (sz + 21) (by omega)).trans ha21
  have ha22 := (hn49 (sz + 22) (by omega)).trans ha22
  have ha23 := (hn49 (sz + 23) (by omega)).trans ha23
  have ha24 := hs49
  
  refine o_put hX dX10_init_202 hm (by simp) rfl rfl (fun M50 hs50 hn50 => ?_)
  dsimp only [List.set] at hs50
  have hm := hs50
  have ha0 := (hn50 (sz) (by omega)).trans ha0
  have ha1 := (hn50 (sz + 1) (by omega)).trans ha1
  have ha2 := (hn50 (sz + 2) (by omega)).trans ha2
  have ha3 := (hn50 (sz + 3) (by omega)).trans ha3
  have ha4 := (hn50 (sz + 4) (by omega)).trans ha4
  have ha5 := (hn50 (sz + 5) (by omega)).trans ha5
  have ha6 := (hn50 (sz + 6) (by omega)).trans ha6
  have ha7 := (hn50 (sz + 7) (by omega)).trans ha7
  have ha8 := (hn50 (sz + 8) (by omega)).trans ha8
  have ha9 := (hn50 (sz + 9) (by omega)).trans ha9
  have ha10 := (hn50 (sz + 10) (by omega)).trans ha10
  have ha11 := (hn50 (sz + 11) (by omega)).trans ha11
  have ha12 := (hn50 (sz + 12) (by omega)).trans ha12
  have ha13 := (hn50 (sz + 13) (by omega)).trans ha13
  have ha14 := (hn50 (sz + 14) (by omega)).trans ha14
  have ha15 := (hn50 (sz + 15) (by omega)).trans ha15
  have ha16 := (hn50 (sz + 16) (by omega)).trans ha16
  have ha17 := (hn50 (sz + 17) (by omega)).trans ha17
  have ha18 := (hn50 (sz + 18) (by omega)).trans ha18
  have ha19 := (hn50 (sz + 19) (by omega)).trans ha19
  have ha20 := (hn50 (sz + 20) (by omega)).trans ha20
  have ha21 := (hn50 (sz + 21) (by omega)).trans ha21
  have ha22 := (hn50 (sz + 22) (by omega)).trans ha22
  have ha23 := (hn50 (sz + 23) (by omega)).trans ha23
  have ha24 := (hn50 (sz + 24) (by omega)).trans ha24
  
  refine g_const hX dX10_init_205 ?_
  refine g_istore hX dX10_init_206 ?_
  dsimp only [List.set]
  have hfin : ∀ Mf : Nat → Option hC, (∀ q, q ≠ sz + 18 → Mf q = M50 q) → Mf (sz + 18) = some (.inr (0, 63, .inl (fun _ => iZ (-100)))) → MX sz r σ0 0 (fun _ => 0) (fun _ => 0) Mf := by
    intro Mf hq h18
    refine ⟨hr9, (hq r (by omega)).trans hm, fun k hk => ?_⟩
    rcases (show k = 0 ∨ k = 1 ∨ k = 2 ∨ k = 3 ∨ k = 4 ∨ k = 5 ∨ k = 6 ∨ k = 7 ∨ k = 8 ∨ k = 9 ∨ k = 10 ∨ k = 11 ∨ k = 12 ∨ k = 13 ∨ k = 14 ∨ k = 15 ∨ k = 16 ∨ k = 17 ∨ k = 18 ∨ k = 19 ∨ k = 20 ∨ k = 21 ∨ k = 22 ∨ k = 23 ∨ k = 24 by omega) with rfl | rfl | rfl | rfl | rfl | rfl | rfl | rfl | rfl | rfl | rfl | rfl | rfl | rfl | rfl | rfl | rfl | rfl | rfl | rfl | rfl | rfl | rfl | rfl | rfl
    · exact (hq (sz) (by omega)).trans ha0
    · exact (hq (sz + 1) (by omega)).trans ha1
    · exact (hq (sz + 2) (by omega)).trans ha2
    · exact (hq (sz + 3) (by omega)).trans ha3
    · exact (hq (sz + 4) (by omega)).trans ha4
    · exact (hq (sz + 5) (by omega)).trans ha5
    · exact (hq (sz + 6) (by omega)).trans ha6
    · exact (hq (sz + 7) (by omega)).trans ha7
    · exact (hq (sz + 8) (by omega)).trans ha8
    · exact (hq (sz + 9) (by omega)).trans ha9
    · exact (hq (sz + 10) (by omega)).trans ha10
    · exact (hq (sz + 11) (by omega)).trans ha11
    · exact (hq (sz + 12) (by omega)).trans ha12
    · exact (hq (sz + 13) (by omega)).trans ha13
    · exact (hq (sz + 14) (by omega)).trans ha14
    · exact (hq (sz + 15) (by omega)).trans ha15
    · exact (hq (sz + 16) (by omega)).trans ha16
    · exact (hq (sz + 17) (by omega)).trans ha17
    · exact h18
    · exact (hq (sz + 19) (by omega)).trans ha19
    · exact (hq (sz + 20) (by omega)).trans ha20
    · exact (hq (sz + 21) (by omega)).trans ha21
    · exact (hq (sz + 22) (by omega)).trans ha22
    · exact (hq (sz + 23) (by omega)).trans ha23
    · exact (hq (sz + 24) (by omega)).trans ha24
  have loop : ∀ (k9 k : Nat) (Mf : Nat → Option hC) (R : Nat → Int), k + k9 = 63 → (∀ q, q < k → R q = -100) → (∀ q, q ≠ sz + 18 → Mf q = M50 q) → Mf (sz + 18) = some (.inr (0, 63, .inl (fun q => iZ (R q)))) → G X 207 [.ref r, .int (iZ (k : Int))] [] Mf (sz + 25) 25 1281 := by
    intro k9
    induction k9 with
    | zero =>
      intro k Mf R hk hR9 hq h18
      have hmf : Mf r = some (.inl (10, MFL sz σ0 0)) := (hq r (by omega)).trans hm
      refine g_iload hX dX10_init_207 rfl ?_
      refine g_const hX dX10_init_208 ?_
      refine z_icmp_ge hX dX10_init_210 (by constructor <;> omega) (by constructor <;> omega) (fun c210 => ?_) (fun c210 => ?_)
      · refine g_ext (a9 := sz + 18) h18 (f' := fun _ => iZ (-100)) (fun q hq9 => by show iZ (R q) = iZ (-100); rw [hR9 q (by omega)]) ?_
        refine g_vret hX hR dX10_init_227 rfl (by decide) (by decide) ?_
        exact hK _ (hfin _ (fun q h => (hup_n _ _ h).trans (hq q h)) (hup_s _ _ _))
      · exfalso; omega
    | succ k9 ih =>
      intro k Mf R hk hR9 hq h18
      have hmf : Mf r = some (.inl (10, MFL sz σ0 0)) := (hq r (by omega)).trans hm
      refine g_iload hX dX10_init_207 rfl ?_
      refine g_const hX dX10_init_208 ?_
      refine z_icmp_ge hX dX10_init_210 (by constructor <;> omega) (by constructor <;> omega) (fun c210 => ?_) (fun c210 => ?_)
      · exfalso; omega
      · refine g_aload hX dX10_init_213 rfl rfl ?_
        refine g_get hX dX10_init_214 (by first | exact hmf | exact h18) rfl ?_
        refine g_iload hX dX10_init_217 rfl ?_
        refine g_const hX dX10_init_218 ?_
        refine o_iast hX dX10_init_220 h18 (by omega) (by omega) (by decide) (fun Mg hsg hng => ?_)
        simp only [Int.toNat_natCast] at hsg
        rw [upd_iZ] at hsg
        refine z_iinc hX dX10_init_221 rfl ?_
        dsimp only [List.set]
        refine g_goto hX dX10_init_224 ?_
        exact ih (k + 1) Mg (iu R k (-100)) (by omega) (fun q h => by
          by_cases e : q = k
          · rw [e, iu_s]
          · rw [iu_n _ _ e]; exact hR9 q (by omega)) (fun q h => (hng q h).trans (hq q h)) hsg
  exact loop 63 0 M50 (fun _ => 0) (by omega) (fun q h => absurd h (Nat.not_lt_zero q)) (fun _ _ => rfl) ha18
