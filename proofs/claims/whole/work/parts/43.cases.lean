/-! the law's cases -/
theorem lgc_self (x : Int64) : lg_cmp x x = 0 := (lg_cmp_eq x x).mpr rfl
theorem jn_none {M F : hM} {q : Nat} (h : jn M F q = none) : F q = none ∧ M q = none := by
  cases hF : F q with
  | some x => rw [jn_f hF] at h; cases h
  | none => rw [jn_n hF] at h; exact ⟨rfl, h⟩
theorem jn_as {M S B : hM} : ∀ q, jn (jn M S) B q = jn M (jn S B) q := by
  intro q
  cases hB : B q with
  | some x => rw [jn_f hB, jn_f (jn_f hB)]
  | none =>
    rw [jn_n hB]
    cases hS : S q with
    | some x => rw [jn_f hS, jn_f (show jn S B q = some x by rw [jn_n hB]; exact hS)]
    | none => rw [jn_n hS, jn_n (show jn S B q = none by rw [jn_n hB]; exact hS)]
theorem dis_a {C S B : hM} (h1 : dis B (jn C S)) (h2 : dis S C) : dis (jn S B) C := by
  intro q x hx
  rcases jn_c hx with h | ⟨-, h⟩
  · exact (jn_none (h1 q x h)).2
  · exact h2 q x h
theorem dis_b {C C1 S B : hM} (h1 : dis B (jn C S)) (h2 : dis (jn S B) C1) : dis B (jn C1 S) := by
  intro q x hx
  rw [jn_n (jn_none (h1 q x hx)).1]
  exact h2 q x (jn_f hx)
def LSc (X : hX) (b L : Nat) (zs : Nat → Int) : Prop := va_X b L (fun j => iZ (zs j)) X.1.2.2.2.2.1 X.1.2.2.2.2.1.heap ∧ b < X.1.2.2.2.2.1.heap.size ∧ b < X.2.2.2.2.2.2.2.1 ∧ L ≤ 2560 ∧ ∀ j, inR (zs j)
def LWs (g : hG) (h r bm o : Nat) (σ : SG) (M : hM) : Prop := ∃ (A : Nat → Nat → Nat) (ow : Nat → Nat × Nat) (τ : Nat → Nat → Int) (th : Int) (P Q : Nat → Int) (f : Nat → Int64) (C B : hM), HX g.2.2.2.2 h A ow σ τ C ∧ MX bm r σ th P Q B ∧ C o = none ∧ dis B (jn C (sg o f)) ∧ ∀ q, M q = jn (jn C (sg o f)) B q
section R7
variable {X : hX} {d : hD} {pc n t n1 e1 : Nat} {lv st : List Value} {M : hM} {sz cs ss : Nat} {a v : Int} {b L : Nat} {zs : Nat → Int}
theorem z_sld (hX : Cok X d) (hS : LSc X b L zs) (h : At d pc .iaload 1 n) (h0 : 0 ≤ a) (h1 : a < L) (hv : zs a.toNat = v) (kk : G X n lv (.int (iZ v) :: st) M sz cs ss) : G X pc lv (.int (iZ a) :: .ref b :: st) M sz cs ss := by
  obtain ⟨⟨p, l, e, R, s, m, args, below⟩, meth, c, A, Q, g⟩ := X
  obtain ⟨hx, hb, hml, hown, hts, hKS, hAz, hAn, hst9, hlk, hrt, hnm, hR, hex⟩ := hX
  intro H locs ls hz hM hA hSv hl
  obtain ⟨hd, rfl⟩ := h
  obtain ⟨s1, s2, s3, s4, -⟩ := hS
  subst hv
  have hr : inR a := by constructor <;> omega
  refine va_sld (xs := fun j => iZ (zs j)) hx hb s1 s2 (fun q => absurd (hAz b q) (Nat.not_le.mpr s3)) hSv (z_in h0 h1 (by omega)) hd ?_
  rw [z_cl hr]
  exact kk H locs ls hz hM hA hSv hl
theorem z_slen (hX : Cok X d) (hS : LSc X b L zs) (h : At d pc .arraylength 1 n) (kk : G X n lv (.int (iZ (L : Int)) :: st) M sz cs ss) : G X pc lv (.ref b :: st) M sz cs ss := by
  obtain ⟨⟨p, l, e, R, s, m, args, below⟩, meth, c, A, Q, g⟩ := X
  obtain ⟨hx, hb, hml, hown, hts, hKS, hAz, hAn, hst9, hlk, hrt, hnm, hR, hex⟩ := hX
  intro H locs ls hz hM hA hSv hl
  obtain ⟨hd, rfl⟩ := h
  obtain ⟨s1, s2, s3, s4, -⟩ := hS
  exact va_slen (xs := fun j => iZ (zs j)) hx hb s1 s2 (fun q => absurd (hAz b q) (Nat.not_le.mpr s3)) hSv hd (kk H locs ls hz hM hA hSv hl)
theorem z_nz (hX : Cok X d) (h0 : AtJ d pc (.ifCond .eq) n t) (h1 : AtK d n (iZ 1) n1) (h2 : AtG d n1 e1) (h3 : AtK d t (iZ 0) e1) (ha : inR a) (kk : G X e1 lv (.int (iZ (bZ (a ≠ 0))) :: st) M sz cs ss) : G X pc lv (.int (iZ a) :: st) M sz cs ss := by
  refine z_if_eq hX h0 ha (fun q => g_const hX h3 ?_) (fun q => g_const hX h1 (g_goto hX h2 ?_))
  · rw [bZ_f (fun z => z q)] at kk
    exact kk
  · rw [bZ_t q] at kk
    exact kk
end R7

theorem law_text {X : hX} {b L h r bm o : Nat} {zs : Nat → Int} {σ : SG} {M : hM} {sz cs ss : Nat} {i : Int} {v5 v6 : Value} (hX : Cok X mL_law) (hst : X.1.2.1.stackTraces = false) (hS : LSc X b L zs) (hi : 0 ≤ i ∧ i + 5 ≤ (L : Int)) (hW : LWs X.2.2.2.2.2 h r bm o σ M) (hV : SV σ) (hcs : cs + 10 ≤ 601024) (hss : ss + 250 ≤ 7293034) (hn : ∀ (σ' : SG) (M' : hM) (sz' : Nat) (w5 w6 : Value), LWs X.2.2.2.2.2 h r bm o σ' M' → SV σ' → G X 2115 [.ref b, .ref h, .ref r, .ref o, .int (iZ i), w5, w6] [] M' sz' (cs + 10) (ss + 250)) : G X 160 [.ref b, .ref h, .ref r, .ref o, .int (iZ i), v5, v6] [] M sz cs ss := by
  obtain ⟨A, ow, τ, th, P, Q, f, C, B, hH, hB, hco, hdB, hM⟩ := hW
  obtain ⟨hS1, hS2, hS3, hL, hzr⟩ := id hS
  obtain ⟨p1, hp1⟩ : ∃ z, zs (i + 1).toNat = z := ⟨_, rfl⟩
  have rp1 : inR p1 := by rw [← hp1]; exact hzr _
  obtain ⟨p2, hp2⟩ : ∃ z, zs (i + 2).toNat = z := ⟨_, rfl⟩
  have rp2 : inR p2 := by rw [← hp2]; exact hzr _
  have hr : inR (oc_text σ p1 p2).1 := by rcases ocr_text σ p1 p2 with e | e | e <;> rw [e] <;> (constructor <;> omega)
  refine g_eqM hM ?_
  refine g_aload hX dL_law_160 rfl rfl ?_
  refine g_aload hX dL_law_161 rfl rfl ?_
  refine g_iload hX dL_law_162 rfl ?_
  refine g_const hX dL_law_164 ?_
  refine z_iadd hX dL_law_165 ?_
  refine z_sld hX hS dL_law_166 (by omega) (by omega) hp1 ?_
  refine g_aload hX dL_law_167 rfl rfl ?_
  refine g_iload hX dL_law_168 rfl ?_
  refine g_const hX dL_law_170 ?_
  refine z_iadd hX dL_law_171 ?_
  refine z_sld hX hS dL_law_172 (by omega) (by omega) hp2 ?_
  refine g_aload hX dL_law_173 rfl rfl ?_
  refine g_cSXf (As := [.ref h, .int (iZ p1), .int (iZ p2), .ref o]) (rest := []) (c2 := cs + 9) (s2 := ss + 243) hX (s_L_text hst) dL_law_174 rfl rfl (by first | exact Nat.le_of_ble_eq_true rfl | simp [cat_rf, Value.category]) ⟨rfl, rfl, (show cs + 9 ≤ 601024 by omega), (show ss + 243 ≤ 7293034 by omega)⟩ hdB ?_
  refine ⟨h, A, ow, σ, τ, p1, p2, o, C, f, rfl, hH, hV, rp1, rp2, hco, rfl, fun A1 ow1 τ1 C1 s1 f1 hH1 hV1 hco1 hf1 hd1 hs1 => Kc_i ?_⟩
  refine g_istore hX dL_law_177 ?_
  dsimp only [List.set]
  refine g_eqM (jn_comm hd1) ?_
  refine g_aload hX dL_law_179 rfl rfl ?_
  refine g_aload hX dL_law_180 rfl rfl ?_
  refine g_iload hX dL_law_181 rfl ?_
  refine g_const hX dL_law_183 ?_
  refine z_iadd hX dL_law_184 ?_
  refine z_sld hX hS dL_law_185 (by omega) (by omega) hp1 ?_
  refine g_aload hX dL_law_186 rfl rfl ?_
  refine g_iload hX dL_law_187 rfl ?_
  refine g_const hX dL_law_189 ?_
  refine z_iadd hX dL_law_190 ?_
  refine z_sld hX hS dL_law_191 (by omega) (by omega) hp2 ?_
  refine g_cVf (As := [.int (iZ p1), .int (iZ p2)]) (rest := []) (c2 := cs + 9) (s2 := ss + 243) hX (s_X10_text hst) dL_law_192 hB.2.1 rfl rfl (by first | exact Nat.le_of_ble_eq_true rfl | simp [cat_rf, Value.category]) ⟨rfl, rfl, (show cs + 9 ≤ 601024 by omega), (show ss + 243 ≤ 7293034 by omega)⟩ hd1.symm ?_
  refine ⟨bm, r, σ, th, P, Q, p1, p2, rfl, hB, hV, rp1, rp2, fun P1 Q1 B1 s2 hB1 hV2 hd2 hs2 => Kc_i ?_⟩
  refine g_istore hX dL_law_195 ?_
  dsimp only [List.set]
  refine g_aload hX dL_law_197 rfl rfl ?_
  refine g_cVf (As := []) (rest := []) (c2 := cs + 9) (s2 := ss + 243) hX (s_X10_thrown hst) dL_law_198 hB1.2.1 rfl rfl (by first | exact Nat.le_of_ble_eq_true rfl | simp [cat_rf, Value.category]) ⟨rfl, rfl, (show cs + 9 ≤ 601024 by omega), (show ss + 243 ≤ 7293034 by omega)⟩ hd2 ?_
  refine ⟨bm, r, _, _, P1, Q1, rfl, hB1, hV2, fun hd3 hs3 => Kc_i ?_⟩
  refine g_iload hX dL_law_201 rfl ?_
  refine g_icmp_eq hX dL_law_203 (fun _ => ?_) (fun q => absurd rfl q)
  refine g_iload hX dL_law_208 rfl ?_
  by_cases h0 : (oc_text σ p1 p2).1 = 0
  · refine z_if_ne hX dL_law_210 hr (fun c => absurd h0 c) (fun _ => ?_)
    refine g_aload hX dL_law_213 rfl rfl ?_
    refine g_const hX dL_law_214 ?_
    refine g_lald hX dL_law_215 (jn_f (jn_f (sg_s o f1))) vin_0 ?_
    have e9 : f1 (iZ 0).toNatClampNeg = (iZ (oc_text σ p1 p2).2.1).toInt64 := by rw [z_cl inR0]; exact hf1 h0
    rw [e9]
    refine g_iload hX dL_law_216 rfl ?_
    refine g_i2l hX dL_law_218 ?_
    refine g_lcmp hX dL_law_219 ?_
    refine g_if_eq hX dL_law_220 (fun _ => ?_) (fun q => absurd (lgc_self _) q)
    refine g_goto hX dL_law_225 ?_
    exact g_wide (by omega) (by omega) (hn _ _ _ _ _ ⟨A1, ow1, τ1, _, P1, Q1, f1, C1, B1, hH1, hB1, hco1, hd2.symm, fun q => jn_comm hd2 q⟩ hV1)
  · refine z_if_ne hX dL_law_210 hr (fun _ => ?_) (fun c => absurd c h0)
    refine g_goto hX dL_law_225 ?_
    exact g_wide (by omega) (by omega) (hn _ _ _ _ _ ⟨A1, ow1, τ1, _, P1, Q1, f1, C1, B1, hH1, hB1, hco1, hd2.symm, fun q => jn_comm hd2 q⟩ hV1)

theorem law_line {X : hX} {b L h r bm o : Nat} {zs : Nat → Int} {σ : SG} {M : hM} {sz cs ss : Nat} {i : Int} {v5 v6 : Value} (hX : Cok X mL_law) (hst : X.1.2.1.stackTraces = false) (hS : LSc X b L zs) (hi : 0 ≤ i ∧ i + 5 ≤ (L : Int)) (hW : LWs X.2.2.2.2.2 h r bm o σ M) (hV : SV σ) (hcs : cs + 10 ≤ 601024) (hss : ss + 250 ≤ 7293034) (hn : ∀ (σ' : SG) (M' : hM) (sz' : Nat) (w5 w6 : Value), LWs X.2.2.2.2.2 h r bm o σ' M' → SV σ' → G X 2115 [.ref b, .ref h, .ref r, .ref o, .int (iZ i), w5, w6] [] M' sz' (cs + 10) (ss + 250)) : G X 228 [.ref b, .ref h, .ref r, .ref o, .int (iZ i), v5, v6] [] M sz cs ss := by
  obtain ⟨A, ow, τ, th, P, Q, f, C, B, hH, hB, hco, hdB, hM⟩ := hW
  obtain ⟨hS1, hS2, hS3, hL, hzr⟩ := id hS
  obtain ⟨p1, hp1⟩ : ∃ z, zs (i + 1).toNat = z := ⟨_, rfl⟩
  have rp1 : inR p1 := by rw [← hp1]; exact hzr _
  obtain ⟨p2, hp2⟩ : ∃ z, zs (i + 2).toNat = z := ⟨_, rfl⟩
  have rp2 : inR p2 := by rw [← hp2]; exact hzr _
  obtain ⟨p3, hp3⟩ : ∃ z, zs (i + 3).toNat = z := ⟨_, rfl⟩
  have rp3 : inR p3 := by rw [← hp3]; exact hzr _
  have hr : inR (oc_row 0 13 σ p1 p2 p3).1 := by rcases ocr_row_0_13 σ p1 p2 p3 with e | e | e | e <;> rw [e] <;> (constructor <;> omega)
  refine g_eqM hM ?_
  refine g_aload hX dL_law_228 rfl rfl ?_
  refine g_aload hX dL_law_229 rfl rfl ?_
  refine g_iload hX dL_law_230 rfl ?_
  refine g_const hX dL_law_232 ?_
  refine z_iadd hX dL_law_233 ?_
  refine z_sld hX hS dL_law_234 (by omega) (by omega) hp1 ?_
  refine g_aload hX dL_law_235 rfl rfl ?_
  refine g_iload hX dL_law_236 rfl ?_
  refine g_const hX dL_law_238 ?_
  refine z_iadd hX dL_law_239 ?_
  refine z_sld hX hS dL_law_240 (by omega) (by omega) hp2 ?_
  refine g_aload hX dL_law_241 rfl rfl ?_
  refine g_iload hX dL_law_242 rfl ?_
  refine g_const hX dL_law_244 ?_
  refine z_iadd hX dL_law_245 ?_
  refine z_sld hX hS dL_law_246 (by omega) (by omega) hp3 ?_
  refine g_aload hX dL_law_247 rfl rfl ?_
  refine g_cSXf (As := [.ref h, .int (iZ p1), .int (iZ p2), .int (iZ p3), .ref o]) (rest := []) (c2 := cs + 4) (s2 := ss + 24) hX (s_L_line hst) dL_law_248 rfl rfl (by first | exact Nat.le_of_ble_eq_true rfl | simp [cat_rf, Value.category]) ⟨rfl, rfl, (show cs + 4 ≤ 601024 by omega), (show ss + 24 ≤ 7293034 by omega)⟩ hdB ?_
  refine ⟨h, A, ow, σ, τ, p1, p2, p3, o, C, f, rfl, hH, hV, rp1, rp2, rp3, hco, rfl, fun A1 ow1 τ1 C1 s1 f1 hH1 hV1 hco1 hf1 hd1 hs1 => Kc_i ?_⟩
  refine g_istore hX dL_law_251 ?_
  dsimp only [List.set]
  refine g_eqM (jn_comm hd1) ?_
  refine g_aload hX dL_law_253 rfl rfl ?_
  refine g_aload hX dL_law_254 rfl rfl ?_
  refine g_iload hX dL_law_255 rfl ?_
  refine g_const hX dL_law_257 ?_
  refine z_iadd hX dL_law_258 ?_
  refine z_sld hX hS dL_law_259 (by omega) (by omega) hp1 ?_
  refine g_aload hX dL_law_260 rfl rfl ?_
  refine g_iload hX dL_law_261 rfl ?_
  refine g_const hX dL_law_263 ?_
  refine z_iadd hX dL_law_264 ?_
  refine z_sld hX hS dL_law_265 (by omega) (by omega) hp2 ?_
  refine g_aload hX dL_law_266 rfl rfl ?_
  refine g_iload hX dL_law_267 rfl ?_
  refine g_const hX dL_law_269 ?_
  refine z_iadd hX dL_law_270 ?_
  refine z_sld hX hS dL_law_271 (by omega) (by omega) hp3 ?_
  refine g_cVf (As := [.int (iZ p1), .int (iZ p2), .int (iZ p3)]) (rest := []) (c2 := cs + 4) (s2 := ss + 24) hX (s_X10_line hst) dL_law_272 hB.2.1 rfl rfl (by first | exact Nat.le_of_ble_eq_true rfl | simp [cat_rf, Value.category]) ⟨rfl, rfl, (show cs + 4 ≤ 601024 by omega), (show ss + 24 ≤ 7293034 by omega)⟩ hd1.symm ?_
  refine ⟨bm, r, σ, th, P, Q, p1, p2, p3, rfl, hB, hV, rp1, rp2, rp3, fun P1 Q1 B1 s2 hB1 hV2 hd2 hs2 => Kc_i ?_⟩
  refine g_istore hX dL_law_275 ?_
  dsimp only [List.set]
  refine g_aload hX dL_law_277 rfl rfl ?_
  refine g_cVf (As := []) (rest := []) (c2 := cs + 4) (s2 := ss + 24) hX (s_X10_thrown hst) dL_law_278 hB1.2.1 rfl rfl (by first | exact Nat.le_of_ble_eq_true rfl | simp [cat_rf, Value.category]) ⟨rfl, rfl, (show cs + 4 ≤ 601024 by omega), (show ss + 24 ≤ 7293034 by omega)⟩ hd2 ?_
  refine ⟨bm, r, _, _, P1, Q1, rfl, hB1, hV2, fun hd3 hs3 => Kc_i ?_⟩
  refine g_iload hX dL_law_281 rfl ?_
  refine g_icmp_eq hX dL_law_283 (fun _ => ?_) (fun q => absurd rfl q)
  refine g_iload hX dL_law_288 rfl ?_
  by_cases h0 : (oc_row 0 13 σ p1 p2 p3).1 = 0
  · refine z_if_ne hX dL_law_290 hr (fun c => absurd h0 c) (fun _ => ?_)
    refine g_aload hX dL_law_293 rfl rfl ?_
    refine g_const hX dL_law_294 ?_
    refine g_lald hX dL_law_295 (jn_f (jn_f (sg_s o f1))) vin_0 ?_
    have e9 : f1 (iZ 0).toNatClampNeg = (iZ (oc_row 0 13 σ p1 p2 p3).2.1).toInt64 := by rw [z_cl inR0]; exact hf1 h0
    rw [e9]
    refine g_iload hX dL_law_296 rfl ?_
    refine g_i2l hX dL_law_298 ?_
    refine g_lcmp hX dL_law_299 ?_
    refine g_if_eq hX dL_law_300 (fun _ => ?_) (fun q => absurd (lgc_self _) q)
    refine g_goto hX dL_law_305 ?_
    exact g_wide (by omega) (by omega) (hn _ _ _ _ _ ⟨A1, ow1, τ1, _, P1, Q1, f1, C1, B1, hH1, hB1, hco1, hd2.symm, fun q => jn_comm hd2 q⟩ hV1)
  · refine z_if_ne hX dL_law_290 hr (fun _ => ?_) (fun c => absurd c h0)
    refine g_goto hX dL_law_305 ?_
    exact g_wide (by omega) (by omega) (hn _ _ _ _ _ ⟨A1, ow1, τ1, _, P1, Q1, f1, C1, B1, hH1, hB1, hco1, hd2.symm, fun q => jn_comm hd2 q⟩ hV1)

theorem law_tune {X : hX} {b L h r bm o : Nat} {zs : Nat → Int} {σ : SG} {M : hM} {sz cs ss : Nat} {i : Int} {v5 v6 : Value} (hX : Cok X mL_law) (hst : X.1.2.1.stackTraces = false) (hS : LSc X b L zs) (hi : 0 ≤ i ∧ i + 5 ≤ (L : Int)) (hW : LWs X.2.2.2.2.2 h r bm o σ M) (hV : SV σ) (hcs : cs + 10 ≤ 601024) (hss : ss + 250 ≤ 7293034) (hn : ∀ (σ' : SG) (M' : hM) (sz' : Nat) (w5 w6 : Value), LWs X.2.2.2.2.2 h r bm o σ' M' → SV σ' → G X 2115 [.ref b, .ref h, .ref r, .ref o, .int (iZ i), w5, w6] [] M' sz' (cs + 10) (ss + 250)) : G X 308 [.ref b, .ref h, .ref r, .ref o, .int (iZ i), v5, v6] [] M sz cs ss := by
  obtain ⟨A, ow, τ, th, P, Q, f, C, B, hH, hB, hco, hdB, hM⟩ := hW
  obtain ⟨hS1, hS2, hS3, hL, hzr⟩ := id hS
  obtain ⟨p1, hp1⟩ : ∃ z, zs (i + 1).toNat = z := ⟨_, rfl⟩
  have rp1 : inR p1 := by rw [← hp1]; exact hzr _
  obtain ⟨p2, hp2⟩ : ∃ z, zs (i + 2).toNat = z := ⟨_, rfl⟩
  have rp2 : inR p2 := by rw [← hp2]; exact hzr _
  obtain ⟨p3, hp3⟩ : ∃ z, zs (i + 3).toNat = z := ⟨_, rfl⟩
  have rp3 : inR p3 := by rw [← hp3]; exact hzr _
  have hr : inR (oc_tune σ p1 p2 p3).1 := by rcases ocr_tune σ p1 p2 p3 with e | e | e <;> rw [e] <;> (constructor <;> omega)
  refine g_eqM hM ?_
  refine g_aload hX dL_law_308 rfl rfl ?_
  refine g_aload hX dL_law_309 rfl rfl ?_
  refine g_iload hX dL_law_310 rfl ?_
  refine g_const hX dL_law_312 ?_
  refine z_iadd hX dL_law_313 ?_
  refine z_sld hX hS dL_law_314 (by omega) (by omega) hp1 ?_
  refine g_aload hX dL_law_315 rfl rfl ?_
  refine g_iload hX dL_law_316 rfl ?_
  refine g_const hX dL_law_318 ?_
  refine z_iadd hX dL_law_319 ?_
  refine z_sld hX hS dL_law_320 (by omega) (by omega) hp2 ?_
  refine g_aload hX dL_law_321 rfl rfl ?_
  refine g_iload hX dL_law_322 rfl ?_
  refine g_const hX dL_law_324 ?_
  refine z_iadd hX dL_law_325 ?_
  refine z_sld hX hS dL_law_326 (by omega) (by omega) hp3 ?_
  refine g_aload hX dL_law_327 rfl rfl ?_
  refine g_cSXf (As := [.ref h, .int (iZ p1), .int (iZ p2), .int (iZ p3), .ref o]) (rest := []) (c2 := cs + 10) (s2 := ss + 250) hX (s_L_tune hst) dL_law_328 rfl rfl (by first | exact Nat.le_of_ble_eq_true rfl | simp [cat_rf, Value.category]) ⟨rfl, rfl, (show cs + 10 ≤ 601024 by omega), (show ss + 250 ≤ 7293034 by omega)⟩ hdB ?_
  refine ⟨h, A, ow, σ, τ, p1, p2, p3, o, C, f, rfl, hH, hV, rp1, rp2, rp3, hco, rfl, fun A1 ow1 τ1 C1 s1 f1 hH1 hV1 hco1 hf1 hd1 hs1 => Kc_i ?_⟩
  refine g_istore hX dL_law_331 ?_
  dsimp only [List.set]
  refine g_eqM (jn_comm hd1) ?_
  refine g_aload hX dL_law_333 rfl rfl ?_
  refine g_aload hX dL_law_334 rfl rfl ?_
  refine g_iload hX dL_law_335 rfl ?_
  refine g_const hX dL_law_337 ?_
  refine z_iadd hX dL_law_338 ?_
  refine z_sld hX hS dL_law_339 (by omega) (by omega) hp1 ?_
  refine g_aload hX dL_law_340 rfl rfl ?_
  refine g_iload hX dL_law_341 rfl ?_
  refine g_const hX dL_law_343 ?_
  refine z_iadd hX dL_law_344 ?_
  refine z_sld hX hS dL_law_345 (by omega) (by omega) hp2 ?_
  refine g_aload hX dL_law_346 rfl rfl ?_
  refine g_iload hX dL_law_347 rfl ?_
  refine g_const hX dL_law_349 ?_
  refine z_iadd hX dL_law_350 ?_
  refine z_sld hX hS dL_law_351 (by omega) (by omega) hp3 ?_
  refine g_cVf (As := [.int (iZ p1), .int (iZ p2), .int (iZ p3)]) (rest := []) (c2 := cs + 10) (s2 := ss + 250) hX (s_X10_tune hst) dL_law_352 hB.2.1 rfl rfl (by first | exact Nat.le_of_ble_eq_true rfl | simp [cat_rf, Value.category]) ⟨rfl, rfl, (show cs + 10 ≤ 601024 by omega), (show ss + 250 ≤ 7293034 by omega)⟩ hd1.symm ?_
  refine ⟨bm, r, σ, th, P, Q, p1, p2, p3, rfl, hB, hV, rp1, rp2, rp3, fun P1 Q1 B1 s2 hB1 hV2 hd2 hs2 => Kc_i ?_⟩
  refine g_istore hX dL_law_355 ?_
  dsimp only [List.set]
  refine g_aload hX dL_law_357 rfl rfl ?_
  refine g_cVf (As := []) (rest := []) (c2 := cs + 10) (s2 := ss + 250) hX (s_X10_thrown hst) dL_law_358 hB1.2.1 rfl rfl (by first | exact Nat.le_of_ble_eq_true rfl | simp [cat_rf, Value.category]) ⟨rfl, rfl, (show cs + 10 ≤ 601024 by omega), (show ss + 250 ≤ 7293034 by omega)⟩ hd2 ?_
  refine ⟨bm, r, _, _, P1, Q1, rfl, hB1, hV2, fun hd3 hs3 => Kc_i ?_⟩
  refine g_iload hX dL_law_361 rfl ?_
  refine g_icmp_eq hX dL_law_363 (fun _ => ?_) (fun q => absurd rfl q)
  refine g_iload hX dL_law_368 rfl ?_
  by_cases h0 : (oc_tune σ p1 p2 p3).1 = 0
  · refine z_if_ne hX dL_law_370 hr (fun c => absurd h0 c) (fun _ => ?_)
    refine g_aload hX dL_law_373 rfl rfl ?_
    refine g_const hX dL_law_374 ?_
    refine g_lald hX dL_law_375 (jn_f (jn_f (sg_s o f1))) vin_0 ?_
    have e9 : f1 (iZ 0).toNatClampNeg = (iZ (oc_tune σ p1 p2 p3).2.1).toInt64 := by rw [z_cl inR0]; exact hf1 h0
    rw [e9]
    refine g_iload hX dL_law_376 rfl ?_
    refine g_i2l hX dL_law_378 ?_
    refine g_lcmp hX dL_law_379 ?_
    refine g_if_eq hX dL_law_380 (fun _ => ?_) (fun q => absurd (lgc_self _) q)
    refine g_goto hX dL_law_385 ?_
    exact g_wide (by omega) (by omega) (hn _ _ _ _ _ ⟨A1, ow1, τ1, _, P1, Q1, f1, C1, B1, hH1, hB1, hco1, hd2.symm, fun q => jn_comm hd2 q⟩ hV1)
  · refine z_if_ne hX dL_law_370 hr (fun _ => ?_) (fun c => absurd c h0)
    refine g_goto hX dL_law_385 ?_
    exact g_wide (by omega) (by omega) (hn _ _ _ _ _ ⟨A1, ow1, τ1, _, P1, Q1, f1, C1, B1, hH1, hB1, hco1, hd2.symm, fun q => jn_comm hd2 q⟩ hV1)

theorem law_phrase {X : hX} {b L h r bm o : Nat} {zs : Nat → Int} {σ : SG} {M : hM} {sz cs ss : Nat} {i : Int} {v5 v6 : Value} (hX : Cok X mL_law) (hst : X.1.2.1.stackTraces = false) (hS : LSc X b L zs) (hi : 0 ≤ i ∧ i + 5 ≤ (L : Int)) (hW : LWs X.2.2.2.2.2 h r bm o σ M) (hV : SV σ) (hcs : cs + 10 ≤ 601024) (hss : ss + 250 ≤ 7293034) (hn : ∀ (σ' : SG) (M' : hM) (sz' : Nat) (w5 w6 : Value), LWs X.2.2.2.2.2 h r bm o σ' M' → SV σ' → G X 2115 [.ref b, .ref h, .ref r, .ref o, .int (iZ i), w5, w6] [] M' sz' (cs + 10) (ss + 250)) : G X 388 [.ref b, .ref h, .ref r, .ref o, .int (iZ i), v5, v6] [] M sz cs ss := by
  obtain ⟨A, ow, τ, th, P, Q, f, C, B, hH, hB, hco, hdB, hM⟩ := hW
  obtain ⟨hS1, hS2, hS3, hL, hzr⟩ := id hS
  obtain ⟨p1, hp1⟩ : ∃ z, zs (i + 1).toNat = z := ⟨_, rfl⟩
  have rp1 : inR p1 := by rw [← hp1]; exact hzr _
  obtain ⟨p2, hp2⟩ : ∃ z, zs (i + 2).toNat = z := ⟨_, rfl⟩
  have rp2 : inR p2 := by rw [← hp2]; exact hzr _
  obtain ⟨p3, hp3⟩ : ∃ z, zs (i + 3).toNat = z := ⟨_, rfl⟩
  have rp3 : inR p3 := by rw [← hp3]; exact hzr _
  have hr : inR (oc_row 1 24 σ p1 p2 p3).1 := by rcases ocr_row_1_24 σ p1 p2 p3 with e | e | e | e <;> rw [e] <;> (constructor <;> omega)
  refine g_eqM hM ?_
  refine g_aload hX dL_law_388 rfl rfl ?_
  refine g_aload hX dL_law_389 rfl rfl ?_
  refine g_iload hX dL_law_390 rfl ?_
  refine g_const hX dL_law_392 ?_
  refine z_iadd hX dL_law_393 ?_
  refine z_sld hX hS dL_law_394 (by omega) (by omega) hp1 ?_
  refine g_aload hX dL_law_395 rfl rfl ?_
  refine g_iload hX dL_law_396 rfl ?_
  refine g_const hX dL_law_398 ?_
  refine z_iadd hX dL_law_399 ?_
  refine z_sld hX hS dL_law_400 (by omega) (by omega) hp2 ?_
  refine g_aload hX dL_law_401 rfl rfl ?_
  refine g_iload hX dL_law_402 rfl ?_
  refine g_const hX dL_law_404 ?_
  refine z_iadd hX dL_law_405 ?_
  refine z_sld hX hS dL_law_406 (by omega) (by omega) hp3 ?_
  refine g_aload hX dL_law_407 rfl rfl ?_
  refine g_cSXf (As := [.ref h, .int (iZ p1), .int (iZ p2), .int (iZ p3), .ref o]) (rest := []) (c2 := cs + 4) (s2 := ss + 24) hX (s_L_phrase hst) dL_law_408 rfl rfl (by first | exact Nat.le_of_ble_eq_true rfl | simp [cat_rf, Value.category]) ⟨rfl, rfl, (show cs + 4 ≤ 601024 by omega), (show ss + 24 ≤ 7293034 by omega)⟩ hdB ?_
  refine ⟨h, A, ow, σ, τ, p1, p2, p3, o, C, f, rfl, hH, hV, rp1, rp2, rp3, hco, rfl, fun A1 ow1 τ1 C1 s1 f1 hH1 hV1 hco1 hf1 hd1 hs1 => Kc_i ?_⟩
  refine g_istore hX dL_law_411 ?_
  dsimp only [List.set]
  refine g_eqM (jn_comm hd1) ?_
  refine g_aload hX dL_law_413 rfl rfl ?_
  refine g_aload hX dL_law_414 rfl rfl ?_
  refine g_iload hX dL_law_415 rfl ?_
  refine g_const hX dL_law_417 ?_
  refine z_iadd hX dL_law_418 ?_
  refine z_sld hX hS dL_law_419 (by omega) (by omega) hp1 ?_
  refine g_aload hX dL_law_420 rfl rfl ?_
  refine g_iload hX dL_law_421 rfl ?_
  refine g_const hX dL_law_423 ?_
  refine z_iadd hX dL_law_424 ?_
  refine z_sld hX hS dL_law_425 (by omega) (by omega) hp2 ?_
  refine g_aload hX dL_law_426 rfl rfl ?_
  refine g_iload hX dL_law_427 rfl ?_
  refine g_const hX dL_law_429 ?_
  refine z_iadd hX dL_law_430 ?_
  refine z_sld hX hS dL_law_431 (by omega) (by omega) hp3 ?_
  refine g_cVf (As := [.int (iZ p1), .int (iZ p2), .int (iZ p3)]) (rest := []) (c2 := cs + 4) (s2 := ss + 24) hX (s_X10_phrase hst) dL_law_432 hB.2.1 rfl rfl (by first | exact Nat.le_of_ble_eq_true rfl | simp [cat_rf, Value.category]) ⟨rfl, rfl, (show cs + 4 ≤ 601024 by omega), (show ss + 24 ≤ 7293034 by omega)⟩ hd1.symm ?_
  refine ⟨bm, r, σ, th, P, Q, p1, p2, p3, rfl, hB, hV, rp1, rp2, rp3, fun P1 Q1 B1 s2 hB1 hV2 hd2 hs2 => Kc_i ?_⟩
  refine g_istore hX dL_law_435 ?_
  dsimp only [List.set]
  refine g_aload hX dL_law_437 rfl rfl ?_
  refine g_cVf (As := []) (rest := []) (c2 := cs + 4) (s2 := ss + 24) hX (s_X10_thrown hst) dL_law_438 hB1.2.1 rfl rfl (by first | exact Nat.le_of_ble_eq_true rfl | simp [cat_rf, Value.category]) ⟨rfl, rfl, (show cs + 4 ≤ 601024 by omega), (show ss + 24 ≤ 7293034 by omega)⟩ hd2 ?_
  refine ⟨bm, r, _, _, P1, Q1, rfl, hB1, hV2, fun hd3 hs3 => Kc_i ?_⟩
  refine g_iload hX dL_law_441 rfl ?_
  refine g_icmp_eq hX dL_law_443 (fun _ => ?_) (fun q => absurd rfl q)
  refine g_iload hX dL_law_448 rfl ?_
  by_cases h0 : (oc_row 1 24 σ p1 p2 p3).1 = 0
  · refine z_if_ne hX dL_law_450 hr (fun c => absurd h0 c) (fun _ => ?_)
    refine g_aload hX dL_law_453 rfl rfl ?_
    refine g_const hX dL_law_454 ?_
    refine g_lald hX dL_law_455 (jn_f (jn_f (sg_s o f1))) vin_0 ?_
    have e9 : f1 (iZ 0).toNatClampNeg = (iZ (oc_row 1 24 σ p1 p2 p3).2.1).toInt64 := by rw [z_cl inR0]; exact hf1 h0
    rw [e9]
    refine g_iload hX dL_law_456 rfl ?_
    refine g_i2l hX dL_law_458 ?_
    refine g_lcmp hX dL_law_459 ?_
    refine g_if_eq hX dL_law_460 (fun _ => ?_) (fun q => absurd (lgc_self _) q)
    refine g_goto hX dL_law_465 ?_
    exact g_wide (by omega) (by omega) (hn _ _ _ _ _ ⟨A1, ow1, τ1, _, P1, Q1, f1, C1, B1, hH1, hB1, hco1, hd2.symm, fun q => jn_comm hd2 q⟩ hV1)
  · refine z_if_ne hX dL_law_450 hr (fun _ => ?_) (fun c => absurd c h0)
    refine g_goto hX dL_law_465 ?_
    exact g_wide (by omega) (by omega) (hn _ _ _ _ _ ⟨A1, ow1, τ1, _, P1, Q1, f1, C1, B1, hH1, hB1, hco1, hd2.symm, fun q => jn_comm hd2 q⟩ hV1)

theorem law_fits {X : hX} {b L h r bm o : Nat} {zs : Nat → Int} {σ : SG} {M : hM} {sz cs ss : Nat} {i : Int} {v5 v6 : Value} (hX : Cok X mL_law) (hst : X.1.2.1.stackTraces = false) (hS : LSc X b L zs) (hi : 0 ≤ i ∧ i + 5 ≤ (L : Int)) (hW : LWs X.2.2.2.2.2 h r bm o σ M) (hV : SV σ) (hcs : cs + 10 ≤ 601024) (hss : ss + 250 ≤ 7293034) (hn : ∀ (σ' : SG) (M' : hM) (sz' : Nat) (w5 w6 : Value), LWs X.2.2.2.2.2 h r bm o σ' M' → SV σ' → G X 2115 [.ref b, .ref h, .ref r, .ref o, .int (iZ i), w5, w6] [] M' sz' (cs + 10) (ss + 250)) : G X 468 [.ref b, .ref h, .ref r, .ref o, .int (iZ i), v5, v6] [] M sz cs ss := by
  obtain ⟨A, ow, τ, th, P, Q, f, C, B, hH, hB, hco, hdB, hM⟩ := hW
  obtain ⟨hS1, hS2, hS3, hL, hzr⟩ := id hS
  obtain ⟨p1, hp1⟩ : ∃ z, zs (i + 1).toNat = z := ⟨_, rfl⟩
  have rp1 : inR p1 := by rw [← hp1]; exact hzr _
  obtain ⟨p2, hp2⟩ : ∃ z, zs (i + 2).toNat = z := ⟨_, rfl⟩
  have rp2 : inR p2 := by rw [← hp2]; exact hzr _
  have hr : inR (oc_fits σ p1 p2).1 := by rcases ocr_fits σ p1 p2 with e | e <;> rw [e] <;> (constructor <;> omega)
  refine g_eqM hM ?_
  refine g_aload hX dL_law_468 rfl rfl ?_
  refine g_aload hX dL_law_469 rfl rfl ?_
  refine g_iload hX dL_law_470 rfl ?_
  refine g_const hX dL_law_472 ?_
  refine z_iadd hX dL_law_473 ?_
  refine z_sld hX hS dL_law_474 (by omega) (by omega) hp1 ?_
  refine g_aload hX dL_law_475 rfl rfl ?_
  refine g_iload hX dL_law_476 rfl ?_
  refine g_const hX dL_law_478 ?_
  refine z_iadd hX dL_law_479 ?_
  refine z_sld hX hS dL_law_480 (by omega) (by omega) hp2 ?_
  refine g_aload hX dL_law_481 rfl rfl ?_
  refine g_cSXf (As := [.ref h, .int (iZ p1), .int (iZ p2), .ref o]) (rest := []) (c2 := cs + 2) (s2 := ss + 12) hX (s_L_fits hst) dL_law_482 rfl rfl (by first | exact Nat.le_of_ble_eq_true rfl | simp [cat_rf, Value.category]) ⟨rfl, rfl, (show cs + 2 ≤ 601024 by omega), (show ss + 12 ≤ 7293034 by omega)⟩ hdB ?_
  refine ⟨h, A, ow, σ, τ, p1, p2, o, C, f, rfl, hH, hV, rp1, rp2, hco, rfl, fun A1 ow1 τ1 C1 s1 f1 hH1 hV1 hco1 hf1 hd1 hs1 => Kc_i ?_⟩
  refine g_istore hX dL_law_485 ?_
  dsimp only [List.set]
  refine g_eqM (jn_comm hd1) ?_
  refine g_aload hX dL_law_487 rfl rfl ?_
  refine g_aload hX dL_law_488 rfl rfl ?_
  refine g_iload hX dL_law_489 rfl ?_
  refine g_const hX dL_law_491 ?_
  refine z_iadd hX dL_law_492 ?_
  refine z_sld hX hS dL_law_493 (by omega) (by omega) hp1 ?_
  refine g_aload hX dL_law_494 rfl rfl ?_
  refine g_iload hX dL_law_495 rfl ?_
  refine g_const hX dL_law_497 ?_
  refine z_iadd hX dL_law_498 ?_
  refine z_sld hX hS dL_law_499 (by omega) (by omega) hp2 ?_
  refine g_cVf (As := [.int (iZ p1), .int (iZ p2)]) (rest := []) (c2 := cs + 2) (s2 := ss + 12) hX (s_X10_fits hst) dL_law_500 hB.2.1 rfl rfl (by first | exact Nat.le_of_ble_eq_true rfl | simp [cat_rf, Value.category]) ⟨rfl, rfl, (show cs + 2 ≤ 601024 by omega), (show ss + 12 ≤ 7293034 by omega)⟩ hd1.symm ?_
  refine ⟨bm, r, σ, th, P, Q, p1, p2, rfl, hB, hV, rp1, rp2, fun P1 Q1 B1 s2 hB1 hV2 hd2 hs2 => Kc_i ?_⟩
  refine g_istore hX dL_law_503 ?_
  dsimp only [List.set]
  refine g_aload hX dL_law_505 rfl rfl ?_
  refine g_cVf (As := []) (rest := []) (c2 := cs + 2) (s2 := ss + 12) hX (s_X10_thrown hst) dL_law_506 hB1.2.1 rfl rfl (by first | exact Nat.le_of_ble_eq_true rfl | simp [cat_rf, Value.category]) ⟨rfl, rfl, (show cs + 2 ≤ 601024 by omega), (show ss + 12 ≤ 7293034 by omega)⟩ hd2 ?_
  refine ⟨bm, r, _, _, P1, Q1, rfl, hB1, hV2, fun hd3 hs3 => Kc_i ?_⟩
  refine g_iload hX dL_law_509 rfl ?_
  refine g_icmp_eq hX dL_law_511 (fun _ => ?_) (fun q => absurd rfl q)
  refine g_iload hX dL_law_516 rfl ?_
  by_cases h0 : (oc_fits σ p1 p2).1 = 0
  · refine z_if_ne hX dL_law_518 hr (fun c => absurd h0 c) (fun _ => ?_)
    refine g_aload hX dL_law_521 rfl rfl ?_
    refine g_const hX dL_law_522 ?_
    refine g_lald hX dL_law_523 (jn_f (jn_f (sg_s o f1))) vin_0 ?_
    have e9 : f1 (iZ 0).toNatClampNeg = (iZ (oc_fits σ p1 p2).2.1).toInt64 := by rw [z_cl inR0]; exact hf1 h0
    rw [e9]
    refine g_iload hX dL_law_524 rfl ?_
    refine g_i2l hX dL_law_526 ?_
    refine g_lcmp hX dL_law_527 ?_
    refine g_if_eq hX dL_law_528 (fun _ => ?_) (fun q => absurd (lgc_self _) q)
    refine g_goto hX dL_law_533 ?_
    exact g_wide (by omega) (by omega) (hn _ _ _ _ _ ⟨A1, ow1, τ1, _, P1, Q1, f1, C1, B1, hH1, hB1, hco1, hd2.symm, fun q => jn_comm hd2 q⟩ hV1)
  · refine z_if_ne hX dL_law_518 hr (fun _ => ?_) (fun c => absurd c h0)
    refine g_goto hX dL_law_533 ?_
    exact g_wide (by omega) (by omega) (hn _ _ _ _ _ ⟨A1, ow1, τ1, _, P1, Q1, f1, C1, B1, hH1, hB1, hco1, hd2.symm, fun q => jn_comm hd2 q⟩ hV1)

theorem law_clashes {X : hX} {b L h r bm o : Nat} {zs : Nat → Int} {σ : SG} {M : hM} {sz cs ss : Nat} {i : Int} {v5 v6 : Value} (hX : Cok X mL_law) (hst : X.1.2.1.stackTraces = false) (hS : LSc X b L zs) (hi : 0 ≤ i ∧ i + 5 ≤ (L : Int)) (hW : LWs X.2.2.2.2.2 h r bm o σ M) (hV : SV σ) (hcs : cs + 10 ≤ 601024) (hss : ss + 250 ≤ 7293034) (hn : ∀ (σ' : SG) (M' : hM) (sz' : Nat) (w5 w6 : Value), LWs X.2.2.2.2.2 h r bm o σ' M' → SV σ' → G X 2115 [.ref b, .ref h, .ref r, .ref o, .int (iZ i), w5, w6] [] M' sz' (cs + 10) (ss + 250)) : G X 536 [.ref b, .ref h, .ref r, .ref o, .int (iZ i), v5, v6] [] M sz cs ss := by
  obtain ⟨A, ow, τ, th, P, Q, f, C, B, hH, hB, hco, hdB, hM⟩ := hW
  obtain ⟨hS1, hS2, hS3, hL, hzr⟩ := id hS
  obtain ⟨p1, hp1⟩ : ∃ z, zs (i + 1).toNat = z := ⟨_, rfl⟩
  have rp1 : inR p1 := by rw [← hp1]; exact hzr _
  obtain ⟨p2, hp2⟩ : ∃ z, zs (i + 2).toNat = z := ⟨_, rfl⟩
  have rp2 : inR p2 := by rw [← hp2]; exact hzr _
  have hr : inR (oc_clashes σ p1 p2).1 := by rcases ocr_clashes σ p1 p2 with e | e | e <;> rw [e] <;> (constructor <;> omega)
  refine g_eqM hM ?_
  refine g_aload hX dL_law_536 rfl rfl ?_
  refine g_aload hX dL_law_537 rfl rfl ?_
  refine g_iload hX dL_law_538 rfl ?_
  refine g_const hX dL_law_540 ?_
  refine z_iadd hX dL_law_541 ?_
  refine z_sld hX hS dL_law_542 (by omega) (by omega) hp1 ?_
  refine g_aload hX dL_law_543 rfl rfl ?_
  refine g_iload hX dL_law_544 rfl ?_
  refine g_const hX dL_law_546 ?_
  refine z_iadd hX dL_law_547 ?_
  refine z_sld hX hS dL_law_548 (by omega) (by omega) hp2 ?_
  refine g_aload hX dL_law_549 rfl rfl ?_
  refine g_cSXf (As := [.ref h, .int (iZ p1), .int (iZ p2), .ref o]) (rest := []) (c2 := cs + 3) (s2 := ss + 18) hX (s_L_clashes hst) dL_law_550 rfl rfl (by first | exact Nat.le_of_ble_eq_true rfl | simp [cat_rf, Value.category]) ⟨rfl, rfl, (show cs + 3 ≤ 601024 by omega), (show ss + 18 ≤ 7293034 by omega)⟩ hdB ?_
  refine ⟨h, A, ow, σ, τ, p1, p2, o, C, f, rfl, hH, hV, rp1, rp2, hco, rfl, fun A1 ow1 τ1 C1 s1 f1 hH1 hV1 hco1 hf1 hd1 hs1 => Kc_i ?_⟩
  refine g_istore hX dL_law_553 ?_
  dsimp only [List.set]
  refine g_eqM (jn_comm hd1) ?_
  refine g_aload hX dL_law_555 rfl rfl ?_
  refine g_aload hX dL_law_556 rfl rfl ?_
  refine g_iload hX dL_law_557 rfl ?_
  refine g_const hX dL_law_559 ?_
  refine z_iadd hX dL_law_560 ?_
  refine z_sld hX hS dL_law_561 (by omega) (by omega) hp1 ?_
  refine g_aload hX dL_law_562 rfl rfl ?_
  refine g_iload hX dL_law_563 rfl ?_
  refine g_const hX dL_law_565 ?_
  refine z_iadd hX dL_law_566 ?_
  refine z_sld hX hS dL_law_567 (by omega) (by omega) hp2 ?_
  refine g_cVf (As := [.int (iZ p1), .int (iZ p2)]) (rest := []) (c2 := cs + 3) (s2 := ss + 18) hX (s_X10_clashes hst) dL_law_568 hB.2.1 rfl rfl (by first | exact Nat.le_of_ble_eq_true rfl | simp [cat_rf, Value.category]) ⟨rfl, rfl, (show cs + 3 ≤ 601024 by omega), (show ss + 18 ≤ 7293034 by omega)⟩ hd1.symm ?_
  refine ⟨bm, r, σ, th, P, Q, p1, p2, rfl, hB, hV, rp1, rp2, fun P1 Q1 B1 s2 hB1 hV2 hd2 hs2 => Kc_i ?_⟩
  refine g_istore hX dL_law_571 ?_
  dsimp only [List.set]
  refine g_aload hX dL_law_573 rfl rfl ?_
  refine g_cVf (As := []) (rest := []) (c2 := cs + 3) (s2 := ss + 18) hX (s_X10_thrown hst) dL_law_574 hB1.2.1 rfl rfl (by first | exact Nat.le_of_ble_eq_true rfl | simp [cat_rf, Value.category]) ⟨rfl, rfl, (show cs + 3 ≤ 601024 by omega), (show ss + 18 ≤ 7293034 by omega)⟩ hd2 ?_
  refine ⟨bm, r, _, _, P1, Q1, rfl, hB1, hV2, fun hd3 hs3 => Kc_i ?_⟩
  refine g_iload hX dL_law_577 rfl ?_
  refine g_icmp_eq hX dL_law_579 (fun _ => ?_) (fun q => absurd rfl q)
  refine g_iload hX dL_law_584 rfl ?_
  by_cases h0 : (oc_clashes σ p1 p2).1 = 0
  · refine z_if_ne hX dL_law_586 hr (fun c => absurd h0 c) (fun _ => ?_)
    refine g_aload hX dL_law_589 rfl rfl ?_
    refine g_const hX dL_law_590 ?_
    refine g_lald hX dL_law_591 (jn_f (jn_f (sg_s o f1))) vin_0 ?_
    have e9 : f1 (iZ 0).toNatClampNeg = (iZ (oc_clashes σ p1 p2).2.1).toInt64 := by rw [z_cl inR0]; exact hf1 h0
    rw [e9]
    refine g_iload hX dL_law_592 rfl ?_
    refine g_i2l hX dL_law_594 ?_
    refine g_lcmp hX dL_law_595 ?_
    refine g_if_eq hX dL_law_596 (fun _ => ?_) (fun q => absurd (lgc_self _) q)
    refine g_goto hX dL_law_601 ?_
    exact g_wide (by omega) (by omega) (hn _ _ _ _ _ ⟨A1, ow1, τ1, _, P1, Q1, f1, C1, B1, hH1, hB1, hco1, hd2.symm, fun q => jn_comm hd2 q⟩ hV1)
  · refine z_if_ne hX dL_law_586 hr (fun _ => ?_) (fun c => absurd c h0)
    refine g_goto hX dL_law_601 ?_
    exact g_wide (by omega) (by omega) (hn _ _ _ _ _ ⟨A1, ow1, τ1, _, P1, Q1, f1, C1, B1, hH1, hB1, hco1, hd2.symm, fun q => jn_comm hd2 q⟩ hV1)

theorem law_best {X : hX} {b L h r bm o : Nat} {zs : Nat → Int} {σ : SG} {M : hM} {sz cs ss : Nat} {i : Int} {v5 v6 : Value} (hX : Cok X mL_law) (hst : X.1.2.1.stackTraces = false) (hS : LSc X b L zs) (hi : 0 ≤ i ∧ i + 5 ≤ (L : Int)) (hW : LWs X.2.2.2.2.2 h r bm o σ M) (hV : SV σ) (hcs : cs + 10 ≤ 601024) (hss : ss + 250 ≤ 7293034) (hn : ∀ (σ' : SG) (M' : hM) (sz' : Nat) (w5 w6 : Value), LWs X.2.2.2.2.2 h r bm o σ' M' → SV σ' → G X 2115 [.ref b, .ref h, .ref r, .ref o, .int (iZ i), w5, w6] [] M' sz' (cs + 10) (ss + 250)) : G X 604 [.ref b, .ref h, .ref r, .ref o, .int (iZ i), v5, v6] [] M sz cs ss := by
  obtain ⟨A, ow, τ, th, P, Q, f, C, B, hH, hB, hco, hdB, hM⟩ := hW
  obtain ⟨hS1, hS2, hS3, hL, hzr⟩ := id hS
  obtain ⟨p1, hp1⟩ : ∃ z, zs (i + 1).toNat = z := ⟨_, rfl⟩
  have rp1 : inR p1 := by rw [← hp1]; exact hzr _
  have hr : inR (oc_best σ p1).1 := by rcases ocr_best σ p1 with e | e <;> rw [e] <;> (constructor <;> omega)
  refine g_eqM hM ?_
  refine g_aload hX dL_law_604 rfl rfl ?_
  refine g_aload hX dL_law_605 rfl rfl ?_
  refine g_iload hX dL_law_606 rfl ?_
  refine g_const hX dL_law_608 ?_
  refine z_iadd hX dL_law_609 ?_
  refine z_sld hX hS dL_law_610 (by omega) (by omega) hp1 ?_
  refine g_aload hX dL_law_611 rfl rfl ?_
  refine g_cSXf (As := [.ref h, .int (iZ p1), .ref o]) (rest := []) (c2 := cs + 1) (s2 := ss + 6) hX (s_L_best hst) dL_law_612 rfl rfl (by first | exact Nat.le_of_ble_eq_true rfl | simp [cat_rf, Value.category]) ⟨rfl, rfl, (show cs + 1 ≤ 601024 by omega), (show ss + 6 ≤ 7293034 by omega)⟩ hdB ?_
  refine ⟨h, A, ow, σ, τ, p1, o, C, f, rfl, hH, hV, rp1, hco, rfl, fun A1 ow1 τ1 C1 s1 f1 hH1 hV1 hco1 hf1 hd1 hs1 => Kc_i ?_⟩
  refine g_istore hX dL_law_615 ?_
  dsimp only [List.set]
  refine g_eqM (jn_comm hd1) ?_
  refine g_aload hX dL_law_617 rfl rfl ?_
  refine g_aload hX dL_law_618 rfl rfl ?_
  refine g_iload hX dL_law_619 rfl ?_
  refine g_const hX dL_law_621 ?_
  refine z_iadd hX dL_law_622 ?_
  refine z_sld hX hS dL_law_623 (by omega) (by omega) hp1 ?_
  refine g_cVf (As := [.int (iZ p1)]) (rest := []) (c2 := cs + 1) (s2 := ss + 6) hX (s_X10_best hst) dL_law_624 hB.2.1 rfl rfl (by first | exact Nat.le_of_ble_eq_true rfl | simp [cat_rf, Value.category]) ⟨rfl, rfl, (show cs + 1 ≤ 601024 by omega), (show ss + 6 ≤ 7293034 by omega)⟩ hd1.symm ?_
  refine ⟨bm, r, σ, th, P, Q, p1, rfl, hB, hV, rp1, fun P1 Q1 B1 s2 hB1 hV2 hd2 hs2 => Kc_i ?_⟩
  refine g_istore hX dL_law_627 ?_
  dsimp only [List.set]
  refine g_aload hX dL_law_629 rfl rfl ?_
  refine g_cVf (As := []) (rest := []) (c2 := cs + 1) (s2 := ss + 6) hX (s_X10_thrown hst) dL_law_630 hB1.2.1 rfl rfl (by first | exact Nat.le_of_ble_eq_true rfl | simp [cat_rf, Value.category]) ⟨rfl, rfl, (show cs + 1 ≤ 601024 by omega), (show ss + 6 ≤ 7293034 by omega)⟩ hd2 ?_
  refine ⟨bm, r, _, _, P1, Q1, rfl, hB1, hV2, fun hd3 hs3 => Kc_i ?_⟩
  refine g_iload hX dL_law_633 rfl ?_
  refine g_icmp_eq hX dL_law_635 (fun _ => ?_) (fun q => absurd rfl q)
  refine g_iload hX dL_law_640 rfl ?_
  by_cases h0 : (oc_best σ p1).1 = 0
  · refine z_if_ne hX dL_law_642 hr (fun c => absurd h0 c) (fun _ => ?_)
    refine g_aload hX dL_law_645 rfl rfl ?_
    refine g_const hX dL_law_646 ?_
    refine g_lald hX dL_law_647 (jn_f (jn_f (sg_s o f1))) vin_0 ?_
    have e9 : f1 (iZ 0).toNatClampNeg = (iZ (oc_best σ p1).2.1).toInt64 := by rw [z_cl inR0]; exact hf1 h0
    rw [e9]
    refine g_iload hX dL_law_648 rfl ?_
    refine g_i2l hX dL_law_650 ?_
    refine g_lcmp hX dL_law_651 ?_
    refine g_if_eq hX dL_law_652 (fun _ => ?_) (fun q => absurd (lgc_self _) q)
    refine g_goto hX dL_law_657 ?_
    exact g_wide (by omega) (by omega) (hn _ _ _ _ _ ⟨A1, ow1, τ1, _, P1, Q1, f1, C1, B1, hH1, hB1, hco1, hd2.symm, fun q => jn_comm hd2 q⟩ hV1)
  · refine z_if_ne hX dL_law_642 hr (fun _ => ?_) (fun c => absurd c h0)
    refine g_goto hX dL_law_657 ?_
    exact g_wide (by omega) (by omega) (hn _ _ _ _ _ ⟨A1, ow1, τ1, _, P1, Q1, f1, C1, B1, hH1, hB1, hco1, hd2.symm, fun q => jn_comm hd2 q⟩ hV1)

theorem law_alike {X : hX} {b L h r bm o : Nat} {zs : Nat → Int} {σ : SG} {M : hM} {sz cs ss : Nat} {i : Int} {v5 v6 : Value} (hX : Cok X mL_law) (hst : X.1.2.1.stackTraces = false) (hS : LSc X b L zs) (hi : 0 ≤ i ∧ i + 5 ≤ (L : Int)) (hW : LWs X.2.2.2.2.2 h r bm o σ M) (hV : SV σ) (hcs : cs + 10 ≤ 601024) (hss : ss + 250 ≤ 7293034) (hn : ∀ (σ' : SG) (M' : hM) (sz' : Nat) (w5 w6 : Value), LWs X.2.2.2.2.2 h r bm o σ' M' → SV σ' → G X 2115 [.ref b, .ref h, .ref r, .ref o, .int (iZ i), w5, w6] [] M' sz' (cs + 10) (ss + 250)) : G X 660 [.ref b, .ref h, .ref r, .ref o, .int (iZ i), v5, v6] [] M sz cs ss := by
  obtain ⟨A, ow, τ, th, P, Q, f, C, B, hH, hB, hco, hdB, hM⟩ := hW
  obtain ⟨hS1, hS2, hS3, hL, hzr⟩ := id hS
  obtain ⟨p1, hp1⟩ : ∃ z, zs (i + 1).toNat = z := ⟨_, rfl⟩
  have rp1 : inR p1 := by rw [← hp1]; exact hzr _
  have hr : inR (oc_alike σ p1).1 := by rcases ocr_alike σ p1 with e | e <;> rw [e] <;> (constructor <;> omega)
  refine g_eqM hM ?_
  refine g_aload hX dL_law_660 rfl rfl ?_
  refine g_aload hX dL_law_661 rfl rfl ?_
  refine g_iload hX dL_law_662 rfl ?_
  refine g_const hX dL_law_664 ?_
  refine z_iadd hX dL_law_665 ?_
  refine z_sld hX hS dL_law_666 (by omega) (by omega) hp1 ?_
  refine g_aload hX dL_law_667 rfl rfl ?_
  refine g_cSXf (As := [.ref h, .int (iZ p1), .ref o]) (rest := []) (c2 := cs + 1) (s2 := ss + 6) hX (s_L_alike hst) dL_law_668 rfl rfl (by first | exact Nat.le_of_ble_eq_true rfl | simp [cat_rf, Value.category]) ⟨rfl, rfl, (show cs + 1 ≤ 601024 by omega), (show ss + 6 ≤ 7293034 by omega)⟩ hdB ?_
  refine ⟨h, A, ow, σ, τ, p1, o, C, f, rfl, hH, hV, rp1, hco, rfl, fun A1 ow1 τ1 C1 s1 f1 hH1 hV1 hco1 hf1 hd1 hs1 => Kc_i ?_⟩
  refine g_istore hX dL_law_671 ?_
  dsimp only [List.set]
  refine g_eqM (jn_comm hd1) ?_
  refine g_aload hX dL_law_673 rfl rfl ?_
  refine g_aload hX dL_law_674 rfl rfl ?_
  refine g_iload hX dL_law_675 rfl ?_
  refine g_const hX dL_law_677 ?_
  refine z_iadd hX dL_law_678 ?_
  refine z_sld hX hS dL_law_679 (by omega) (by omega) hp1 ?_
  refine g_cVf (As := [.int (iZ p1)]) (rest := []) (c2 := cs + 1) (s2 := ss + 6) hX (s_X10_alike hst) dL_law_680 hB.2.1 rfl rfl (by first | exact Nat.le_of_ble_eq_true rfl | simp [cat_rf, Value.category]) ⟨rfl, rfl, (show cs + 1 ≤ 601024 by omega), (show ss + 6 ≤ 7293034 by omega)⟩ hd1.symm ?_
  refine ⟨bm, r, σ, th, P, Q, p1, rfl, hB, hV, rp1, fun P1 Q1 B1 s2 hB1 hV2 hd2 hs2 => Kc_i ?_⟩
  refine g_istore hX dL_law_683 ?_
  dsimp only [List.set]
  refine g_aload hX dL_law_685 rfl rfl ?_
  refine g_cVf (As := []) (rest := []) (c2 := cs + 1) (s2 := ss + 6) hX (s_X10_thrown hst) dL_law_686 hB1.2.1 rfl rfl (by first | exact Nat.le_of_ble_eq_true rfl | simp [cat_rf, Value.category]) ⟨rfl, rfl, (show cs + 1 ≤ 601024 by omega), (show ss + 6 ≤ 7293034 by omega)⟩ hd2 ?_
  refine ⟨bm, r, _, _, P1, Q1, rfl, hB1, hV2, fun hd3 hs3 => Kc_i ?_⟩
  refine g_iload hX dL_law_689 rfl ?_
  refine g_icmp_eq hX dL_law_691 (fun _ => ?_) (fun q => absurd rfl q)
  refine g_iload hX dL_law_696 rfl ?_
  by_cases h0 : (oc_alike σ p1).1 = 0
  · refine z_if_ne hX dL_law_698 hr (fun c => absurd h0 c) (fun _ => ?_)
    refine g_aload hX dL_law_701 rfl rfl ?_
    refine g_const hX dL_law_702 ?_
    refine g_lald hX dL_law_703 (jn_f (jn_f (sg_s o f1))) vin_0 ?_
    have e9 : f1 (iZ 0).toNatClampNeg = (iZ (oc_alike σ p1).2.1).toInt64 := by rw [z_cl inR0]; exact hf1 h0
    rw [e9]
    refine g_iload hX dL_law_704 rfl ?_
    refine g_i2l hX dL_law_706 ?_
    refine g_lcmp hX dL_law_707 ?_
    refine g_if_eq hX dL_law_708 (fun _ => ?_) (fun q => absurd (lgc_self _) q)
    refine g_goto hX dL_law_713 ?_
    exact g_wide (by omega) (by omega) (hn _ _ _ _ _ ⟨A1, ow1, τ1, _, P1, Q1, f1, C1, B1, hH1, hB1, hco1, hd2.symm, fun q => jn_comm hd2 q⟩ hV1)
  · refine z_if_ne hX dL_law_698 hr (fun _ => ?_) (fun c => absurd c h0)
    refine g_goto hX dL_law_713 ?_
    exact g_wide (by omega) (by omega) (hn _ _ _ _ _ ⟨A1, ow1, τ1, _, P1, Q1, f1, C1, B1, hH1, hB1, hco1, hd2.symm, fun q => jn_comm hd2 q⟩ hV1)

theorem law_metres {X : hX} {b L h r bm o : Nat} {zs : Nat → Int} {σ : SG} {M : hM} {sz cs ss : Nat} {i : Int} {v5 v6 : Value} (hX : Cok X mL_law) (hst : X.1.2.1.stackTraces = false) (hS : LSc X b L zs) (hi : 0 ≤ i ∧ i + 5 ≤ (L : Int)) (hW : LWs X.2.2.2.2.2 h r bm o σ M) (hV : SV σ) (hcs : cs + 10 ≤ 601024) (hss : ss + 250 ≤ 7293034) (hn : ∀ (σ' : SG) (M' : hM) (sz' : Nat) (w5 w6 : Value), LWs X.2.2.2.2.2 h r bm o σ' M' → SV σ' → G X 2115 [.ref b, .ref h, .ref r, .ref o, .int (iZ i), w5, w6] [] M' sz' (cs + 10) (ss + 250)) : G X 716 [.ref b, .ref h, .ref r, .ref o, .int (iZ i), v5, v6] [] M sz cs ss := by
  obtain ⟨A, ow, τ, th, P, Q, f, C, B, hH, hB, hco, hdB, hM⟩ := hW
  obtain ⟨hS1, hS2, hS3, hL, hzr⟩ := id hS
  refine g_eqM hM ?_
  refine g_eqM jn_as ?_
  refine g_aload hX dL_law_716 rfl rfl ?_
  refine g_cVf (As := []) (rest := []) (c2 := cs) (s2 := ss) hX (s_X9_metres hst) dL_law_717 hH.ob rfl rfl (by first | exact Nat.le_of_ble_eq_true rfl | simp [cat_rf, Value.category]) ⟨rfl, rfl, (show cs ≤ 601024 by omega), (show ss ≤ 7293034 by omega)⟩ (dis_a hdB (sg_d hco)) ?_
  refine ⟨h, A, ow, σ, τ, rfl, hH, hV, fun A1 ow1 τ1 C1 s1 hH1 hV1 hd1 hs1 => ?_⟩
  rw [res9_0 rfl]
  refine Kc_i ?_
  have hb1 := dis_b hdB hd1
  have hco1 : C1 o = none := hd1 o _ (show jn (sg o f) B o = some _ by rw [jn_n (show B o = none from (by cases hq : B o with | none => rfl | some y => exact absurd (jn_none (hdB o y hq)).1 (by rw [sg_s]; simp)))]; exact sg_s o f)
  refine g_eqM (fun q => (jn_as q).symm.trans (jn_comm hb1 q)) ?_
  refine g_aload hX dL_law_720 rfl rfl ?_
  refine g_cVf (As := []) (rest := [.int (iZ (oc_metres σ).2.1)]) (c2 := cs) (s2 := ss) hX (s_X10_metres hst) dL_law_721 hB.2.1 rfl rfl (by first | exact Nat.le_of_ble_eq_true rfl | simp [cat_rf, Value.category]) ⟨rfl, rfl, (show cs ≤ 601024 by omega), (show ss ≤ 7293034 by omega)⟩ hb1.symm ?_
  refine ⟨bm, r, σ, th, P, Q, rfl, hB, hV, fun P1 Q1 B1 s2 hB1 hV2 hd2 hs2 => Kc_i ?_⟩
  refine g_icmp_eq hX dL_law_724 (fun _ => ?_) (fun q => absurd rfl q)
  exact g_wide (by omega) (by omega) (hn _ _ _ _ _ ⟨A1, ow1, τ1, _, P1, Q1, f, C1, B1, hH1, hB1, hco1, hd2.symm, fun q => jn_comm hd2 q⟩ hV1)

theorem law_allowText {X : hX} {b L h r bm o : Nat} {zs : Nat → Int} {σ : SG} {M : hM} {sz cs ss : Nat} {i : Int} {v5 v6 : Value} (hX : Cok X mL_law) (hst : X.1.2.1.stackTraces = false) (hS : LSc X b L zs) (hi : 0 ≤ i ∧ i + 5 ≤ (L : Int)) (hW : LWs X.2.2.2.2.2 h r bm o σ M) (hV : SV σ) (hcs : cs + 10 ≤ 601024) (hss : ss + 250 ≤ 7293034) (hn : ∀ (σ' : SG) (M' : hM) (sz' : Nat) (w5 w6 : Value), LWs X.2.2.2.2.2 h r bm o σ' M' → SV σ' → G X 2115 [.ref b, .ref h, .ref r, .ref o, .int (iZ i), w5, w6] [] M' sz' (cs + 10) (ss + 250)) : G X 729 [.ref b, .ref h, .ref r, .ref o, .int (iZ i), v5, v6] [] M sz cs ss := by
  obtain ⟨A, ow, τ, th, P, Q, f, C, B, hH, hB, hco, hdB, hM⟩ := hW
  obtain ⟨hS1, hS2, hS3, hL, hzr⟩ := id hS
  obtain ⟨p1, hp1⟩ : ∃ z, zs (i + 1).toNat = z := ⟨_, rfl⟩
  have rp1 : inR p1 := by rw [← hp1]; exact hzr _
  obtain ⟨p2, hp2⟩ : ∃ z, zs (i + 2).toNat = z := ⟨_, rfl⟩
  have rp2 : inR p2 := by rw [← hp2]; exact hzr _
  have hr : inR (oc_allow 0 12 σ p1 (bZ (p2 ≠ 0))).1 := by rcases ocr_allow_0_12 σ p1 (bZ (p2 ≠ 0)) with e | e <;> rw [e] <;> (constructor <;> omega)
  have rb2 := bZ_01 (p2 ≠ 0)
  refine g_eqM hM ?_
  refine g_aload hX dL_law_729 rfl rfl ?_
  refine g_aload hX dL_law_730 rfl rfl ?_
  refine g_iload hX dL_law_731 rfl ?_
  refine g_const hX dL_law_733 ?_
  refine z_iadd hX dL_law_734 ?_
  refine z_sld hX hS dL_law_735 (by omega) (by omega) hp1 ?_
  refine g_aload hX dL_law_736 rfl rfl ?_
  refine g_iload hX dL_law_737 rfl ?_
  refine g_const hX dL_law_739 ?_
  refine z_iadd hX dL_law_740 ?_
  refine z_sld hX hS dL_law_741 (by omega) (by omega) hp2 ?_
  refine z_nz hX dL_law_742 dL_law_745 dL_law_746 dL_law_749 rp2 ?_
  refine g_aload hX dL_law_750 rfl rfl ?_
  refine g_cSXf (As := [.ref h, .int (iZ p1), .int (iZ (bZ (p2 ≠ 0))), .ref o]) (rest := []) (c2 := cs + 1) (s2 := ss + 6) hX (s_L_allowText hst) dL_law_751 rfl rfl (by first | exact Nat.le_of_ble_eq_true rfl | simp [cat_rf, Value.category]) ⟨rfl, rfl, (show cs + 1 ≤ 601024 by omega), (show ss + 6 ≤ 7293034 by omega)⟩ hdB ?_
  refine ⟨h, A, ow, σ, τ, p1, (bZ (p2 ≠ 0)), o, C, f, rfl, hH, hV, rp1, rb2, hco, rfl, fun A1 ow1 τ1 C1 s1 f1 hH1 hV1 hco1 hf1 hd1 hs1 => Kc_i ?_⟩
  refine g_istore hX dL_law_754 ?_
  dsimp only [List.set]
  refine g_eqM (jn_comm hd1) ?_
  refine g_aload hX dL_law_756 rfl rfl ?_
  refine g_aload hX dL_law_757 rfl rfl ?_
  refine g_iload hX dL_law_758 rfl ?_
  refine g_const hX dL_law_760 ?_
  refine z_iadd hX dL_law_761 ?_
  refine z_sld hX hS dL_law_762 (by omega) (by omega) hp1 ?_
  refine g_aload hX dL_law_763 rfl rfl ?_
  refine g_iload hX dL_law_764 rfl ?_
  refine g_const hX dL_law_766 ?_
  refine z_iadd hX dL_law_767 ?_
  refine z_sld hX hS dL_law_768 (by omega) (by omega) hp2 ?_
  refine z_nz hX dL_law_769 dL_law_772 dL_law_773 dL_law_776 rp2 ?_
  refine g_cVf (As := [.int (iZ p1), .int (iZ (bZ (p2 ≠ 0)))]) (rest := []) (c2 := cs + 1) (s2 := ss + 6) hX (s_X10_allowText hst) dL_law_777 hB.2.1 rfl rfl (by first | exact Nat.le_of_ble_eq_true rfl | simp [cat_rf, Value.category]) ⟨rfl, rfl, (show cs + 1 ≤ 601024 by omega), (show ss + 6 ≤ 7293034 by omega)⟩ hd1.symm ?_
  refine ⟨bm, r, σ, th, P, Q, p1, (bZ (p2 ≠ 0)), rfl, hB, hV, rp1, rb2, fun P1 Q1 B1 s2 hB1 hV2 hd2 hs2 => Kc_i ?_⟩
  refine g_istore hX dL_law_780 ?_
  dsimp only [List.set]
  refine g_aload hX dL_law_782 rfl rfl ?_
  refine g_cVf (As := []) (rest := []) (c2 := cs + 1) (s2 := ss + 6) hX (s_X10_thrown hst) dL_law_783 hB1.2.1 rfl rfl (by first | exact Nat.le_of_ble_eq_true rfl | simp [cat_rf, Value.category]) ⟨rfl, rfl, (show cs + 1 ≤ 601024 by omega), (show ss + 6 ≤ 7293034 by omega)⟩ hd2 ?_
  refine ⟨bm, r, _, _, P1, Q1, rfl, hB1, hV2, fun hd3 hs3 => Kc_i ?_⟩
  refine g_iload hX dL_law_786 rfl ?_
  refine g_icmp_eq hX dL_law_788 (fun _ => ?_) (fun q => absurd rfl q)
  refine g_iload hX dL_law_793 rfl ?_
  by_cases h0 : (oc_allow 0 12 σ p1 (bZ (p2 ≠ 0))).1 = 0
  · refine z_if_ne hX dL_law_795 hr (fun c => absurd h0 c) (fun _ => ?_)
    refine g_aload hX dL_law_798 rfl rfl ?_
    refine g_const hX dL_law_799 ?_
    refine g_lald hX dL_law_800 (jn_f (jn_f (sg_s o f1))) vin_0 ?_
    have e9 : f1 (iZ 0).toNatClampNeg = (iZ (oc_allow 0 12 σ p1 (bZ (p2 ≠ 0))).2.1).toInt64 := by rw [z_cl inR0]; exact hf1 h0
    rw [e9]
    rcases ocv_allow_0_12 hV (b := (bZ (p2 ≠ 0))) h0 with hv9 | hv9
    · rw [hv9]
      refine g_iload hX dL_law_801 rfl ?_
      refine z_if_eq hX dL_law_803 (by constructor <;> omega) (fun c8 => ?_) (fun c8 => absurd rfl c8)
      refine g_lconst hX dL_law_810 ?_
      refine g_lcmp hX dL_law_811 ?_
      rw [il_0]
      refine g_if_eq hX dL_law_812 (fun _ => ?_) (fun q => absurd (lgc_self _) q)
      refine g_goto hX dL_law_817 ?_
      exact g_wide (by omega) (by omega) (hn _ _ _ _ _ ⟨A1, ow1, τ1, _, P1, Q1, f1, C1, B1, hH1, hB1, hco1, hd2.symm, fun q => jn_comm hd2 q⟩ hV1)
    · rw [hv9]
      refine g_iload hX dL_law_801 rfl ?_
      refine z_if_eq hX dL_law_803 (by constructor <;> omega) (fun c8 => absurd c8 (by omega)) (fun c8 => ?_)
      refine g_lconst hX dL_law_806 ?_
      refine g_goto hX dL_law_807 ?_
      refine g_lcmp hX dL_law_811 ?_
      rw [il_1]
      refine g_if_eq hX dL_law_812 (fun _ => ?_) (fun q => absurd (lgc_self _) q)
      refine g_goto hX dL_law_817 ?_
      exact g_wide (by omega) (by omega) (hn _ _ _ _ _ ⟨A1, ow1, τ1, _, P1, Q1, f1, C1, B1, hH1, hB1, hco1, hd2.symm, fun q => jn_comm hd2 q⟩ hV1)
  · refine z_if_ne hX dL_law_795 hr (fun _ => ?_) (fun c => absurd c h0)
    refine g_goto hX dL_law_817 ?_
    exact g_wide (by omega) (by omega) (hn _ _ _ _ _ ⟨A1, ow1, τ1, _, P1, Q1, f1, C1, B1, hH1, hB1, hco1, hd2.symm, fun q => jn_comm hd2 q⟩ hV1)

theorem law_allowTune {X : hX} {b L h r bm o : Nat} {zs : Nat → Int} {σ : SG} {M : hM} {sz cs ss : Nat} {i : Int} {v5 v6 : Value} (hX : Cok X mL_law) (hst : X.1.2.1.stackTraces = false) (hS : LSc X b L zs) (hi : 0 ≤ i ∧ i + 5 ≤ (L : Int)) (hW : LWs X.2.2.2.2.2 h r bm o σ M) (hV : SV σ) (hcs : cs + 10 ≤ 601024) (hss : ss + 250 ≤ 7293034) (hn : ∀ (σ' : SG) (M' : hM) (sz' : Nat) (w5 w6 : Value), LWs X.2.2.2.2.2 h r bm o σ' M' → SV σ' → G X 2115 [.ref b, .ref h, .ref r, .ref o, .int (iZ i), w5, w6] [] M' sz' (cs + 10) (ss + 250)) : G X 820 [.ref b, .ref h, .ref r, .ref o, .int (iZ i), v5, v6] [] M sz cs ss := by
  obtain ⟨A, ow, τ, th, P, Q, f, C, B, hH, hB, hco, hdB, hM⟩ := hW
  obtain ⟨hS1, hS2, hS3, hL, hzr⟩ := id hS
  obtain ⟨p1, hp1⟩ : ∃ z, zs (i + 1).toNat = z := ⟨_, rfl⟩
  have rp1 : inR p1 := by rw [← hp1]; exact hzr _
  obtain ⟨p2, hp2⟩ : ∃ z, zs (i + 2).toNat = z := ⟨_, rfl⟩
  have rp2 : inR p2 := by rw [← hp2]; exact hzr _
  have hr : inR (oc_allow 1 23 σ p1 (bZ (p2 ≠ 0))).1 := by rcases ocr_allow_1_23 σ p1 (bZ (p2 ≠ 0)) with e | e <;> rw [e] <;> (constructor <;> omega)
  have rb2 := bZ_01 (p2 ≠ 0)
  refine g_eqM hM ?_
  refine g_aload hX dL_law_820 rfl rfl ?_
  refine g_aload hX dL_law_821 rfl rfl ?_
  refine g_iload hX dL_law_822 rfl ?_
  refine g_const hX dL_law_824 ?_
  refine z_iadd hX dL_law_825 ?_
  refine z_sld hX hS dL_law_826 (by omega) (by omega) hp1 ?_
  refine g_aload hX dL_law_827 rfl rfl ?_
  refine g_iload hX dL_law_828 rfl ?_
  refine g_const hX dL_law_830 ?_
  refine z_iadd hX dL_law_831 ?_
  refine z_sld hX hS dL_law_832 (by omega) (by omega) hp2 ?_
  refine z_nz hX dL_law_833 dL_law_836 dL_law_837 dL_law_840 rp2 ?_
  refine g_aload hX dL_law_841 rfl rfl ?_
  refine g_cSXf (As := [.ref h, .int (iZ p1), .int (iZ (bZ (p2 ≠ 0))), .ref o]) (rest := []) (c2 := cs + 1) (s2 := ss + 6) hX (s_L_allowTune hst) dL_law_842 rfl rfl (by first | exact Nat.le_of_ble_eq_true rfl | simp [cat_rf, Value.category]) ⟨rfl, rfl, (show cs + 1 ≤ 601024 by omega), (show ss + 6 ≤ 7293034 by omega)⟩ hdB ?_
  refine ⟨h, A, ow, σ, τ, p1, (bZ (p2 ≠ 0)), o, C, f, rfl, hH, hV, rp1, rb2, hco, rfl, fun A1 ow1 τ1 C1 s1 f1 hH1 hV1 hco1 hf1 hd1 hs1 => Kc_i ?_⟩
  refine g_istore hX dL_law_845 ?_
  dsimp only [List.set]
  refine g_eqM (jn_comm hd1) ?_
  refine g_aload hX dL_law_847 rfl rfl ?_
  refine g_aload hX dL_law_848 rfl rfl ?_
  refine g_iload hX dL_law_849 rfl ?_
  refine g_const hX dL_law_851 ?_
  refine z_iadd hX dL_law_852 ?_
  refine z_sld hX hS dL_law_853 (by omega) (by omega) hp1 ?_
  refine g_aload hX dL_law_854 rfl rfl ?_
  refine g_iload hX dL_law_855 rfl ?_
  refine g_const hX dL_law_857 ?_
  refine z_iadd hX dL_law_858 ?_
  refine z_sld hX hS dL_law_859 (by omega) (by omega) hp2 ?_
  refine z_nz hX dL_law_860 dL_law_863 dL_law_864 dL_law_867 rp2 ?_
  refine g_cVf (As := [.int (iZ p1), .int (iZ (bZ (p2 ≠ 0)))]) (rest := []) (c2 := cs + 1) (s2 := ss + 6) hX (s_X10_allowTune hst) dL_law_868 hB.2.1 rfl rfl (by first | exact Nat.le_of_ble_eq_true rfl | simp [cat_rf, Value.category]) ⟨rfl, rfl, (show cs + 1 ≤ 601024 by omega), (show ss + 6 ≤ 7293034 by omega)⟩ hd1.symm ?_
  refine ⟨bm, r, σ, th, P, Q, p1, (bZ (p2 ≠ 0)), rfl, hB, hV, rp1, rb2, fun P1 Q1 B1 s2 hB1 hV2 hd2 hs2 => Kc_i ?_⟩
  refine g_istore hX dL_law_871 ?_
  dsimp only [List.set]
  refine g_aload hX dL_law_873 rfl rfl ?_
  refine g_cVf (As := []) (rest := []) (c2 := cs + 1) (s2 := ss + 6) hX (s_X10_thrown hst) dL_law_874 hB1.2.1 rfl rfl (by first | exact Nat.le_of_ble_eq_true rfl | simp [cat_rf, Value.category]) ⟨rfl, rfl, (show cs + 1 ≤ 601024 by omega), (show ss + 6 ≤ 7293034 by omega)⟩ hd2 ?_
  refine ⟨bm, r, _, _, P1, Q1, rfl, hB1, hV2, fun hd3 hs3 => Kc_i ?_⟩
  refine g_iload hX dL_law_877 rfl ?_
  refine g_icmp_eq hX dL_law_879 (fun _ => ?_) (fun q => absurd rfl q)
  refine g_iload hX dL_law_884 rfl ?_
  by_cases h0 : (oc_allow 1 23 σ p1 (bZ (p2 ≠ 0))).1 = 0
  · refine z_if_ne hX dL_law_886 hr (fun c => absurd h0 c) (fun _ => ?_)
    refine g_aload hX dL_law_889 rfl rfl ?_
    refine g_const hX dL_law_890 ?_
    refine g_lald hX dL_law_891 (jn_f (jn_f (sg_s o f1))) vin_0 ?_
    have e9 : f1 (iZ 0).toNatClampNeg = (iZ (oc_allow 1 23 σ p1 (bZ (p2 ≠ 0))).2.1).toInt64 := by rw [z_cl inR0]; exact hf1 h0
    rw [e9]
    rcases ocv_allow_1_23 hV (b := (bZ (p2 ≠ 0))) h0 with hv9 | hv9
    · rw [hv9]
      refine g_iload hX dL_law_892 rfl ?_
      refine z_if_eq hX dL_law_894 (by constructor <;> omega) (fun c8 => ?_) (fun c8 => absurd rfl c8)
      refine g_lconst hX dL_law_901 ?_
      refine g_lcmp hX dL_law_902 ?_
      rw [il_0]
      refine g_if_eq hX dL_law_903 (fun _ => ?_) (fun q => absurd (lgc_self _) q)
      refine g_goto hX dL_law_908 ?_
      exact g_wide (by omega) (by omega) (hn _ _ _ _ _ ⟨A1, ow1, τ1, _, P1, Q1, f1, C1, B1, hH1, hB1, hco1, hd2.symm, fun q => jn_comm hd2 q⟩ hV1)
    · rw [hv9]
      refine g_iload hX dL_law_892 rfl ?_
      refine z_if_eq hX dL_law_894 (by constructor <;> omega) (fun c8 => absurd c8 (by omega)) (fun c8 => ?_)
      refine g_lconst hX dL_law_897 ?_
      refine g_goto hX dL_law_898 ?_
      refine g_lcmp hX dL_law_902 ?_
      rw [il_1]
      refine g_if_eq hX dL_law_903 (fun _ => ?_) (fun q => absurd (lgc_self _) q)
      refine g_goto hX dL_law_908 ?_
      exact g_wide (by omega) (by omega) (hn _ _ _ _ _ ⟨A1, ow1, τ1, _, P1, Q1, f1, C1, B1, hH1, hB1, hco1, hd2.symm, fun q => jn_comm hd2 q⟩ hV1)
  · refine z_if_ne hX dL_law_886 hr (fun _ => ?_) (fun c => absurd c h0)
    refine g_goto hX dL_law_908 ?_
    exact g_wide (by omega) (by omega) (hn _ _ _ _ _ ⟨A1, ow1, τ1, _, P1, Q1, f1, C1, B1, hH1, hB1, hco1, hd2.symm, fun q => jn_comm hd2 q⟩ hV1)

theorem law_shift {X : hX} {b L h r bm o : Nat} {zs : Nat → Int} {σ : SG} {M : hM} {sz cs ss : Nat} {i : Int} {v5 v6 : Value} (hX : Cok X mL_law) (hst : X.1.2.1.stackTraces = false) (hS : LSc X b L zs) (hi : 0 ≤ i ∧ i + 5 ≤ (L : Int)) (hW : LWs X.2.2.2.2.2 h r bm o σ M) (hV : SV σ) (hcs : cs + 10 ≤ 601024) (hss : ss + 250 ≤ 7293034) (hn : ∀ (σ' : SG) (M' : hM) (sz' : Nat) (w5 w6 : Value), LWs X.2.2.2.2.2 h r bm o σ' M' → SV σ' → G X 2115 [.ref b, .ref h, .ref r, .ref o, .int (iZ i), w5, w6] [] M' sz' (cs + 10) (ss + 250)) : G X 911 [.ref b, .ref h, .ref r, .ref o, .int (iZ i), v5, v6] [] M sz cs ss := by
  obtain ⟨A, ow, τ, th, P, Q, f, C, B, hH, hB, hco, hdB, hM⟩ := hW
  obtain ⟨hS1, hS2, hS3, hL, hzr⟩ := id hS
  obtain ⟨p1, hp1⟩ : ∃ z, zs (i + 1).toNat = z := ⟨_, rfl⟩
  have rp1 : inR p1 := by rw [← hp1]; exact hzr _
  obtain ⟨p2, hp2⟩ : ∃ z, zs (i + 2).toNat = z := ⟨_, rfl⟩
  have rp2 : inR p2 := by rw [← hp2]; exact hzr _
  obtain ⟨p3, hp3⟩ : ∃ z, zs (i + 3).toNat = z := ⟨_, rfl⟩
  have rp3 : inR p3 := by rw [← hp3]; exact hzr _
  have hr : inR (oc_shift σ p1 p2 p3).1 := by rcases ocr_shift σ p1 p2 p3 with e | e | e <;> rw [e] <;> (constructor <;> omega)
  refine g_eqM hM ?_
  refine g_aload hX dL_law_911 rfl rfl ?_
  refine g_aload hX dL_law_912 rfl rfl ?_
  refine g_iload hX dL_law_913 rfl ?_
  refine g_const hX dL_law_915 ?_
  refine z_iadd hX dL_law_916 ?_
  refine z_sld hX hS dL_law_917 (by omega) (by omega) hp1 ?_
  refine g_aload hX dL_law_918 rfl rfl ?_
  refine g_iload hX dL_law_919 rfl ?_
  refine g_const hX dL_law_921 ?_
  refine z_iadd hX dL_law_922 ?_
  refine z_sld hX hS dL_law_923 (by omega) (by omega) hp2 ?_
  refine g_aload hX dL_law_924 rfl rfl ?_
  refine g_iload hX dL_law_925 rfl ?_
  refine g_const hX dL_law_927 ?_
  refine z_iadd hX dL_law_928 ?_
  refine z_sld hX hS dL_law_929 (by omega) (by omega) hp3 ?_
  refine g_aload hX dL_law_930 rfl rfl ?_
  refine g_cSXf (As := [.ref h, .int (iZ p1), .int (iZ p2), .int (iZ p3), .ref o]) (rest := []) (c2 := cs + 3) (s2 := ss + 18) hX (s_L_shift hst) dL_law_931 rfl rfl (by first | exact Nat.le_of_ble_eq_true rfl | simp [cat_rf, Value.category]) ⟨rfl, rfl, (show cs + 3 ≤ 601024 by omega), (show ss + 18 ≤ 7293034 by omega)⟩ hdB ?_
  refine ⟨h, A, ow, σ, τ, p1, p2, p3, o, C, f, rfl, hH, hV, rp1, rp2, rp3, hco, rfl, fun A1 ow1 τ1 C1 s1 f1 hH1 hV1 hco1 hf1 hd1 hs1 => Kc_i ?_⟩
  refine g_istore hX dL_law_934 ?_
  dsimp only [List.set]
  refine g_eqM (jn_comm hd1) ?_
  refine g_aload hX dL_law_936 rfl rfl ?_
  refine g_aload hX dL_law_937 rfl rfl ?_
  refine g_iload hX dL_law_938 rfl ?_
  refine g_const hX dL_law_940 ?_
  refine z_iadd hX dL_law_941 ?_
  refine z_sld hX hS dL_law_942 (by omega) (by omega) hp1 ?_
  refine g_aload hX dL_law_943 rfl rfl ?_
  refine g_iload hX dL_law_944 rfl ?_
  refine g_const hX dL_law_946 ?_
  refine z_iadd hX dL_law_947 ?_
  refine z_sld hX hS dL_law_948 (by omega) (by omega) hp2 ?_
  refine g_aload hX dL_law_949 rfl rfl ?_
  refine g_iload hX dL_law_950 rfl ?_
  refine g_const hX dL_law_952 ?_
  refine z_iadd hX dL_law_953 ?_
  refine z_sld hX hS dL_law_954 (by omega) (by omega) hp3 ?_
  refine g_cVf (As := [.int (iZ p1), .int (iZ p2), .int (iZ p3)]) (rest := []) (c2 := cs + 3) (s2 := ss + 18) hX (s_X10_shift hst) dL_law_955 hB.2.1 rfl rfl (by first | exact Nat.le_of_ble_eq_true rfl | simp [cat_rf, Value.category]) ⟨rfl, rfl, (show cs + 3 ≤ 601024 by omega), (show ss + 18 ≤ 7293034 by omega)⟩ hd1.symm ?_
  refine ⟨bm, r, σ, th, P, Q, p1, p2, p3, rfl, hB, hV, rp1, rp2, rp3, fun P1 Q1 B1 s2 hB1 hV2 hd2 hs2 => Kc_i ?_⟩
  refine g_istore hX dL_law_958 ?_
  dsimp only [List.set]
  refine g_aload hX dL_law_960 rfl rfl ?_
  refine g_cVf (As := []) (rest := []) (c2 := cs + 3) (s2 := ss + 18) hX (s_X10_thrown hst) dL_law_961 hB1.2.1 rfl rfl (by first | exact Nat.le_of_ble_eq_true rfl | simp [cat_rf, Value.category]) ⟨rfl, rfl, (show cs + 3 ≤ 601024 by omega), (show ss + 18 ≤ 7293034 by omega)⟩ hd2 ?_
  refine ⟨bm, r, _, _, P1, Q1, rfl, hB1, hV2, fun hd3 hs3 => Kc_i ?_⟩
  refine g_iload hX dL_law_964 rfl ?_
  refine g_icmp_eq hX dL_law_966 (fun _ => ?_) (fun q => absurd rfl q)
  refine g_iload hX dL_law_971 rfl ?_
  by_cases h0 : (oc_shift σ p1 p2 p3).1 = 0
  · refine z_if_ne hX dL_law_973 hr (fun c => absurd h0 c) (fun _ => ?_)
    refine g_aload hX dL_law_976 rfl rfl ?_
    refine g_const hX dL_law_977 ?_
    refine g_lald hX dL_law_978 (jn_f (jn_f (sg_s o f1))) vin_0 ?_
    have e9 : f1 (iZ 0).toNatClampNeg = (iZ (oc_shift σ p1 p2 p3).2.1).toInt64 := by rw [z_cl inR0]; exact hf1 h0
    rw [e9]
    refine g_iload hX dL_law_979 rfl ?_
    refine g_i2l hX dL_law_981 ?_
    refine g_lcmp hX dL_law_982 ?_
    refine g_if_eq hX dL_law_983 (fun _ => ?_) (fun q => absurd (lgc_self _) q)
    refine g_goto hX dL_law_988 ?_
    exact g_wide (by omega) (by omega) (hn _ _ _ _ _ ⟨A1, ow1, τ1, _, P1, Q1, f1, C1, B1, hH1, hB1, hco1, hd2.symm, fun q => jn_comm hd2 q⟩ hV1)
  · refine z_if_ne hX dL_law_973 hr (fun _ => ?_) (fun c => absurd c h0)
    refine g_goto hX dL_law_988 ?_
    exact g_wide (by omega) (by omega) (hn _ _ _ _ _ ⟨A1, ow1, τ1, _, P1, Q1, f1, C1, B1, hH1, hB1, hco1, hd2.symm, fun q => jn_comm hd2 q⟩ hV1)

theorem law_easter {X : hX} {b L h r bm o : Nat} {zs : Nat → Int} {σ : SG} {M : hM} {sz cs ss : Nat} {i : Int} {v5 v6 : Value} (hX : Cok X mL_law) (hst : X.1.2.1.stackTraces = false) (hS : LSc X b L zs) (hi : 0 ≤ i ∧ i + 5 ≤ (L : Int)) (hW : LWs X.2.2.2.2.2 h r bm o σ M) (hV : SV σ) (hcs : cs + 10 ≤ 601024) (hss : ss + 250 ≤ 7293034) (hn : ∀ (σ' : SG) (M' : hM) (sz' : Nat) (w5 w6 : Value), LWs X.2.2.2.2.2 h r bm o σ' M' → SV σ' → G X 2115 [.ref b, .ref h, .ref r, .ref o, .int (iZ i), w5, w6] [] M' sz' (cs + 10) (ss + 250)) : G X 991 [.ref b, .ref h, .ref r, .ref o, .int (iZ i), v5, v6] [] M sz cs ss := by
  obtain ⟨A, ow, τ, th, P, Q, f, C, B, hH, hB, hco, hdB, hM⟩ := hW
  obtain ⟨hS1, hS2, hS3, hL, hzr⟩ := id hS
  obtain ⟨p1, hp1⟩ : ∃ z, zs (i + 1).toNat = z := ⟨_, rfl⟩
  have rp1 : inR p1 := by rw [← hp1]; exact hzr _
  have hr : inR (oc_easter σ p1).1 := by rcases ocr_easter σ p1 with e | e <;> rw [e] <;> (constructor <;> omega)
  refine g_eqM hM ?_
  refine g_aload hX dL_law_991 rfl rfl ?_
  refine g_aload hX dL_law_992 rfl rfl ?_
  refine g_iload hX dL_law_993 rfl ?_
  refine g_const hX dL_law_995 ?_
  refine z_iadd hX dL_law_996 ?_
  refine z_sld hX hS dL_law_997 (by omega) (by omega) hp1 ?_
  refine g_aload hX dL_law_998 rfl rfl ?_
  refine g_cSXf (As := [.ref h, .int (iZ p1), .ref o]) (rest := []) (c2 := cs + 1) (s2 := ss + 6) hX (s_L_easter hst) dL_law_999 rfl rfl (by first | exact Nat.le_of_ble_eq_true rfl | simp [cat_rf, Value.category]) ⟨rfl, rfl, (show cs + 1 ≤ 601024 by omega), (show ss + 6 ≤ 7293034 by omega)⟩ hdB ?_
  refine ⟨h, A, ow, σ, τ, p1, o, C, f, rfl, hH, hV, rp1, hco, rfl, fun A1 ow1 τ1 C1 s1 f1 hH1 hV1 hco1 hf1 hd1 hs1 => Kc_i ?_⟩
  refine g_istore hX dL_law_1002 ?_
  dsimp only [List.set]
  refine g_eqM (jn_comm hd1) ?_
  refine g_aload hX dL_law_1004 rfl rfl ?_
  refine g_aload hX dL_law_1005 rfl rfl ?_
  refine g_iload hX dL_law_1006 rfl ?_
  refine g_const hX dL_law_1008 ?_
  refine z_iadd hX dL_law_1009 ?_
  refine z_sld hX hS dL_law_1010 (by omega) (by omega) hp1 ?_
  refine g_cVf (As := [.int (iZ p1)]) (rest := []) (c2 := cs + 1) (s2 := ss + 6) hX (s_X10_easter hst) dL_law_1011 hB.2.1 rfl rfl (by first | exact Nat.le_of_ble_eq_true rfl | simp [cat_rf, Value.category]) ⟨rfl, rfl, (show cs + 1 ≤ 601024 by omega), (show ss + 6 ≤ 7293034 by omega)⟩ hd1.symm ?_
  refine ⟨bm, r, σ, th, P, Q, p1, rfl, hB, hV, rp1, fun P1 Q1 B1 s2 hB1 hV2 hd2 hs2 => Kc_i ?_⟩
  refine g_istore hX dL_law_1014 ?_
  dsimp only [List.set]
  refine g_aload hX dL_law_1016 rfl rfl ?_
  refine g_cVf (As := []) (rest := []) (c2 := cs + 1) (s2 := ss + 6) hX (s_X10_thrown hst) dL_law_1017 hB1.2.1 rfl rfl (by first | exact Nat.le_of_ble_eq_true rfl | simp [cat_rf, Value.category]) ⟨rfl, rfl, (show cs + 1 ≤ 601024 by omega), (show ss + 6 ≤ 7293034 by omega)⟩ hd2 ?_
  refine ⟨bm, r, _, _, P1, Q1, rfl, hB1, hV2, fun hd3 hs3 => Kc_i ?_⟩
  refine g_iload hX dL_law_1020 rfl ?_
  refine g_icmp_eq hX dL_law_1022 (fun _ => ?_) (fun q => absurd rfl q)
  refine g_iload hX dL_law_1027 rfl ?_
  by_cases h0 : (oc_easter σ p1).1 = 0
  · refine z_if_ne hX dL_law_1029 hr (fun c => absurd h0 c) (fun _ => ?_)
    refine g_aload hX dL_law_1032 rfl rfl ?_
    refine g_const hX dL_law_1033 ?_
    refine g_lald hX dL_law_1034 (jn_f (jn_f (sg_s o f1))) vin_0 ?_
    have e9 : f1 (iZ 0).toNatClampNeg = (iZ (oc_easter σ p1).2.1).toInt64 := by rw [z_cl inR0]; exact hf1 h0
    rw [e9]
    refine g_iload hX dL_law_1035 rfl ?_
    refine g_i2l hX dL_law_1037 ?_
    refine g_lcmp hX dL_law_1038 ?_
    refine g_if_eq hX dL_law_1039 (fun _ => ?_) (fun q => absurd (lgc_self _) q)
    refine g_goto hX dL_law_1044 ?_
    exact g_wide (by omega) (by omega) (hn _ _ _ _ _ ⟨A1, ow1, τ1, _, P1, Q1, f1, C1, B1, hH1, hB1, hco1, hd2.symm, fun q => jn_comm hd2 q⟩ hV1)
  · refine z_if_ne hX dL_law_1029 hr (fun _ => ?_) (fun c => absurd c h0)
    refine g_goto hX dL_law_1044 ?_
    exact g_wide (by omega) (by omega) (hn _ _ _ _ _ ⟨A1, ow1, τ1, _, P1, Q1, f1, C1, B1, hH1, hB1, hco1, hd2.symm, fun q => jn_comm hd2 q⟩ hV1)

theorem law_easterAnew {X : hX} {b L h r bm o : Nat} {zs : Nat → Int} {σ : SG} {M : hM} {sz cs ss : Nat} {i : Int} {v5 v6 : Value} (hX : Cok X mL_law) (hst : X.1.2.1.stackTraces = false) (hS : LSc X b L zs) (hi : 0 ≤ i ∧ i + 5 ≤ (L : Int)) (hW : LWs X.2.2.2.2.2 h r bm o σ M) (hV : SV σ) (hcs : cs + 10 ≤ 601024) (hss : ss + 250 ≤ 7293034) (hn : ∀ (σ' : SG) (M' : hM) (sz' : Nat) (w5 w6 : Value), LWs X.2.2.2.2.2 h r bm o σ' M' → SV σ' → G X 2115 [.ref b, .ref h, .ref r, .ref o, .int (iZ i), w5, w6] [] M' sz' (cs + 10) (ss + 250)) : G X 1047 [.ref b, .ref h, .ref r, .ref o, .int (iZ i), v5, v6] [] M sz cs ss := by
  obtain ⟨A, ow, τ, th, P, Q, f, C, B, hH, hB, hco, hdB, hM⟩ := hW
  obtain ⟨hS1, hS2, hS3, hL, hzr⟩ := id hS
  obtain ⟨p1, hp1⟩ : ∃ z, zs (i + 1).toNat = z := ⟨_, rfl⟩
  have rp1 : inR p1 := by rw [← hp1]; exact hzr _
  have hr : inR (oc_easter σ p1).1 := by rcases ocr_easter σ p1 with e | e <;> rw [e] <;> (constructor <;> omega)
  refine g_eqM hM ?_
  refine g_aload hX dL_law_1047 rfl rfl ?_
  refine g_aload hX dL_law_1048 rfl rfl ?_
  refine g_iload hX dL_law_1049 rfl ?_
  refine g_const hX dL_law_1051 ?_
  refine z_iadd hX dL_law_1052 ?_
  refine z_sld hX hS dL_law_1053 (by omega) (by omega) hp1 ?_
  refine g_aload hX dL_law_1054 rfl rfl ?_
  refine g_cSXf (As := [.ref h, .int (iZ p1), .ref o]) (rest := []) (c2 := cs + 1) (s2 := ss + 6) hX (s_L_easterAnew hst) dL_law_1055 rfl rfl (by first | exact Nat.le_of_ble_eq_true rfl | simp [cat_rf, Value.category]) ⟨rfl, rfl, (show cs + 1 ≤ 601024 by omega), (show ss + 6 ≤ 7293034 by omega)⟩ hdB ?_
  refine ⟨h, A, ow, σ, τ, p1, o, C, f, rfl, hH, hV, rp1, hco, rfl, fun A1 ow1 τ1 C1 s1 f1 hH1 hV1 hco1 hf1 hd1 hs1 => Kc_i ?_⟩
  refine g_istore hX dL_law_1058 ?_
  dsimp only [List.set]
  refine g_eqM (jn_comm hd1) ?_
  refine g_aload hX dL_law_1060 rfl rfl ?_
  refine g_aload hX dL_law_1061 rfl rfl ?_
  refine g_iload hX dL_law_1062 rfl ?_
  refine g_const hX dL_law_1064 ?_
  refine z_iadd hX dL_law_1065 ?_
  refine z_sld hX hS dL_law_1066 (by omega) (by omega) hp1 ?_
  refine g_cVf (As := [.int (iZ p1)]) (rest := []) (c2 := cs + 1) (s2 := ss + 6) hX (s_X10_easterAnew hst) dL_law_1067 hB.2.1 rfl rfl (by first | exact Nat.le_of_ble_eq_true rfl | simp [cat_rf, Value.category]) ⟨rfl, rfl, (show cs + 1 ≤ 601024 by omega), (show ss + 6 ≤ 7293034 by omega)⟩ hd1.symm ?_
  refine ⟨bm, r, σ, th, P, Q, p1, rfl, hB, hV, rp1, fun P1 Q1 B1 s2 hB1 hV2 hd2 hs2 => Kc_i ?_⟩
  refine g_istore hX dL_law_1070 ?_
  dsimp only [List.set]
  refine g_aload hX dL_law_1072 rfl rfl ?_
  refine g_cVf (As := []) (rest := []) (c2 := cs + 1) (s2 := ss + 6) hX (s_X10_thrown hst) dL_law_1073 hB1.2.1 rfl rfl (by first | exact Nat.le_of_ble_eq_true rfl | simp [cat_rf, Value.category]) ⟨rfl, rfl, (show cs + 1 ≤ 601024 by omega), (show ss + 6 ≤ 7293034 by omega)⟩ hd2 ?_
  refine ⟨bm, r, _, _, P1, Q1, rfl, hB1, hV2, fun hd3 hs3 => Kc_i ?_⟩
  refine g_iload hX dL_law_1076 rfl ?_
  refine g_icmp_eq hX dL_law_1078 (fun _ => ?_) (fun q => absurd rfl q)
  refine g_iload hX dL_law_1083 rfl ?_
  by_cases h0 : (oc_easter σ p1).1 = 0
  · refine z_if_ne hX dL_law_1085 hr (fun c => absurd h0 c) (fun _ => ?_)
    refine g_aload hX dL_law_1088 rfl rfl ?_
    refine g_const hX dL_law_1089 ?_
    refine g_lald hX dL_law_1090 (jn_f (jn_f (sg_s o f1))) vin_0 ?_
    have e9 : f1 (iZ 0).toNatClampNeg = (iZ (oc_easter σ p1).2.1).toInt64 := by rw [z_cl inR0]; exact hf1 h0
    rw [e9]
    refine g_iload hX dL_law_1091 rfl ?_
    refine g_i2l hX dL_law_1093 ?_
    refine g_lcmp hX dL_law_1094 ?_
    refine g_if_eq hX dL_law_1095 (fun _ => ?_) (fun q => absurd (lgc_self _) q)
    refine g_goto hX dL_law_1100 ?_
    exact g_wide (by omega) (by omega) (hn _ _ _ _ _ ⟨A1, ow1, τ1, _, P1, Q1, f1, C1, B1, hH1, hB1, hco1, hd2.symm, fun q => jn_comm hd2 q⟩ hV1)
  · refine z_if_ne hX dL_law_1085 hr (fun _ => ?_) (fun c => absurd c h0)
    refine g_goto hX dL_law_1100 ?_
    exact g_wide (by omega) (by omega) (hn _ _ _ _ _ ⟨A1, ow1, τ1, _, P1, Q1, f1, C1, B1, hH1, hB1, hco1, hd2.symm, fun q => jn_comm hd2 q⟩ hV1)

theorem law_weekday {X : hX} {b L h r bm o : Nat} {zs : Nat → Int} {σ : SG} {M : hM} {sz cs ss : Nat} {i : Int} {v5 v6 : Value} (hX : Cok X mL_law) (hst : X.1.2.1.stackTraces = false) (hS : LSc X b L zs) (hi : 0 ≤ i ∧ i + 5 ≤ (L : Int)) (hW : LWs X.2.2.2.2.2 h r bm o σ M) (hV : SV σ) (hcs : cs + 10 ≤ 601024) (hss : ss + 250 ≤ 7293034) (hn : ∀ (σ' : SG) (M' : hM) (sz' : Nat) (w5 w6 : Value), LWs X.2.2.2.2.2 h r bm o σ' M' → SV σ' → G X 2115 [.ref b, .ref h, .ref r, .ref o, .int (iZ i), w5, w6] [] M' sz' (cs + 10) (ss + 250)) : G X 1103 [.ref b, .ref h, .ref r, .ref o, .int (iZ i), v5, v6] [] M sz cs ss := by
  obtain ⟨A, ow, τ, th, P, Q, f, C, B, hH, hB, hco, hdB, hM⟩ := hW
  obtain ⟨hS1, hS2, hS3, hL, hzr⟩ := id hS
  obtain ⟨p1, hp1⟩ : ∃ z, zs (i + 1).toNat = z := ⟨_, rfl⟩
  have rp1 : inR p1 := by rw [← hp1]; exact hzr _
  obtain ⟨p2, hp2⟩ : ∃ z, zs (i + 2).toNat = z := ⟨_, rfl⟩
  have rp2 : inR p2 := by rw [← hp2]; exact hzr _
  obtain ⟨p3, hp3⟩ : ∃ z, zs (i + 3).toNat = z := ⟨_, rfl⟩
  have rp3 : inR p3 := by rw [← hp3]; exact hzr _
  have hr : inR (oc_weekday σ p1 p2 p3).1 := by rcases ocr_weekday σ p1 p2 p3 with e | e <;> rw [e] <;> (constructor <;> omega)
  refine g_eqM hM ?_
  refine g_aload hX dL_law_1103 rfl rfl ?_
  refine g_aload hX dL_law_1104 rfl rfl ?_
  refine g_iload hX dL_law_1105 rfl ?_
  refine g_const hX dL_law_1107 ?_
  refine z_iadd hX dL_law_1108 ?_
  refine z_sld hX hS dL_law_1109 (by omega) (by omega) hp1 ?_
  refine g_aload hX dL_law_1110 rfl rfl ?_
  refine g_iload hX dL_law_1111 rfl ?_
  refine g_const hX dL_law_1113 ?_
  refine z_iadd hX dL_law_1114 ?_
  refine z_sld hX hS dL_law_1115 (by omega) (by omega) hp2 ?_
  refine g_aload hX dL_law_1116 rfl rfl ?_
  refine g_iload hX dL_law_1117 rfl ?_
  refine g_const hX dL_law_1119 ?_
  refine z_iadd hX dL_law_1120 ?_
  refine z_sld hX hS dL_law_1121 (by omega) (by omega) hp3 ?_
  refine g_aload hX dL_law_1122 rfl rfl ?_
  refine g_cSXf (As := [.ref h, .int (iZ p1), .int (iZ p2), .int (iZ p3), .ref o]) (rest := []) (c2 := cs + 3) (s2 := ss + 18) hX (s_L_weekday hst) dL_law_1123 rfl rfl (by first | exact Nat.le_of_ble_eq_true rfl | simp [cat_rf, Value.category]) ⟨rfl, rfl, (show cs + 3 ≤ 601024 by omega), (show ss + 18 ≤ 7293034 by omega)⟩ hdB ?_
  refine ⟨h, A, ow, σ, τ, p1, p2, p3, o, C, f, rfl, hH, hV, rp1, rp2, rp3, hco, rfl, fun A1 ow1 τ1 C1 s1 f1 hH1 hV1 hco1 hf1 hd1 hs1 => Kc_i ?_⟩
  refine g_istore hX dL_law_1126 ?_
  dsimp only [List.set]
  refine g_eqM (jn_comm hd1) ?_
  refine g_aload hX dL_law_1128 rfl rfl ?_
  refine g_aload hX dL_law_1129 rfl rfl ?_
  refine g_iload hX dL_law_1130 rfl ?_
  refine g_const hX dL_law_1132 ?_
  refine z_iadd hX dL_law_1133 ?_
  refine z_sld hX hS dL_law_1134 (by omega) (by omega) hp1 ?_
  refine g_aload hX dL_law_1135 rfl rfl ?_
  refine g_iload hX dL_law_1136 rfl ?_
  refine g_const hX dL_law_1138 ?_
  refine z_iadd hX dL_law_1139 ?_
  refine z_sld hX hS dL_law_1140 (by omega) (by omega) hp2 ?_
  refine g_aload hX dL_law_1141 rfl rfl ?_
  refine g_iload hX dL_law_1142 rfl ?_
  refine g_const hX dL_law_1144 ?_
  refine z_iadd hX dL_law_1145 ?_
  refine z_sld hX hS dL_law_1146 (by omega) (by omega) hp3 ?_
  refine g_cVf (As := [.int (iZ p1), .int (iZ p2), .int (iZ p3)]) (rest := []) (c2 := cs + 3) (s2 := ss + 18) hX (s_X10_weekday hst) dL_law_1147 hB.2.1 rfl rfl (by first | exact Nat.le_of_ble_eq_true rfl | simp [cat_rf, Value.category]) ⟨rfl, rfl, (show cs + 3 ≤ 601024 by omega), (show ss + 18 ≤ 7293034 by omega)⟩ hd1.symm ?_
  refine ⟨bm, r, σ, th, P, Q, p1, p2, p3, rfl, hB, hV, rp1, rp2, rp3, fun P1 Q1 B1 s2 hB1 hV2 hd2 hs2 => Kc_i ?_⟩
  refine g_istore hX dL_law_1150 ?_
  dsimp only [List.set]
  refine g_aload hX dL_law_1152 rfl rfl ?_
  refine g_cVf (As := []) (rest := []) (c2 := cs + 3) (s2 := ss + 18) hX (s_X10_thrown hst) dL_law_1153 hB1.2.1 rfl rfl (by first | exact Nat.le_of_ble_eq_true rfl | simp [cat_rf, Value.category]) ⟨rfl, rfl, (show cs + 3 ≤ 601024 by omega), (show ss + 18 ≤ 7293034 by omega)⟩ hd2 ?_
  refine ⟨bm, r, _, _, P1, Q1, rfl, hB1, hV2, fun hd3 hs3 => Kc_i ?_⟩
  refine g_iload hX dL_law_1156 rfl ?_
  refine g_icmp_eq hX dL_law_1158 (fun _ => ?_) (fun q => absurd rfl q)
  refine g_iload hX dL_law_1163 rfl ?_
  by_cases h0 : (oc_weekday σ p1 p2 p3).1 = 0
  · refine z_if_ne hX dL_law_1165 hr (fun c => absurd h0 c) (fun _ => ?_)
    refine g_aload hX dL_law_1168 rfl rfl ?_
    refine g_const hX dL_law_1169 ?_
    refine g_lald hX dL_law_1170 (jn_f (jn_f (sg_s o f1))) vin_0 ?_
    have e9 : f1 (iZ 0).toNatClampNeg = (iZ (oc_weekday σ p1 p2 p3).2.1).toInt64 := by rw [z_cl inR0]; exact hf1 h0
    rw [e9]
    refine g_iload hX dL_law_1171 rfl ?_
    refine g_i2l hX dL_law_1173 ?_
    refine g_lcmp hX dL_law_1174 ?_
    refine g_if_eq hX dL_law_1175 (fun _ => ?_) (fun q => absurd (lgc_self _) q)
    refine g_goto hX dL_law_1180 ?_
    exact g_wide (by omega) (by omega) (hn _ _ _ _ _ ⟨A1, ow1, τ1, _, P1, Q1, f1, C1, B1, hH1, hB1, hco1, hd2.symm, fun q => jn_comm hd2 q⟩ hV1)
  · refine z_if_ne hX dL_law_1165 hr (fun _ => ?_) (fun c => absurd c h0)
    refine g_goto hX dL_law_1180 ?_
    exact g_wide (by omega) (by omega) (hn _ _ _ _ _ ⟨A1, ow1, τ1, _, P1, Q1, f1, C1, B1, hH1, hB1, hco1, hd2.symm, fun q => jn_comm hd2 q⟩ hV1)

theorem law_feast {X : hX} {b L h r bm o : Nat} {zs : Nat → Int} {σ : SG} {M : hM} {sz cs ss : Nat} {i : Int} {v5 v6 : Value} (hX : Cok X mL_law) (hst : X.1.2.1.stackTraces = false) (hS : LSc X b L zs) (hi : 0 ≤ i ∧ i + 5 ≤ (L : Int)) (hW : LWs X.2.2.2.2.2 h r bm o σ M) (hV : SV σ) (hcs : cs + 10 ≤ 601024) (hss : ss + 250 ≤ 7293034) (hn : ∀ (σ' : SG) (M' : hM) (sz' : Nat) (w5 w6 : Value), LWs X.2.2.2.2.2 h r bm o σ' M' → SV σ' → G X 2115 [.ref b, .ref h, .ref r, .ref o, .int (iZ i), w5, w6] [] M' sz' (cs + 10) (ss + 250)) : G X 1183 [.ref b, .ref h, .ref r, .ref o, .int (iZ i), v5, v6] [] M sz cs ss := by
  obtain ⟨A, ow, τ, th, P, Q, f, C, B, hH, hB, hco, hdB, hM⟩ := hW
  obtain ⟨hS1, hS2, hS3, hL, hzr⟩ := id hS
  obtain ⟨p1, hp1⟩ : ∃ z, zs (i + 1).toNat = z := ⟨_, rfl⟩
  have rp1 : inR p1 := by rw [← hp1]; exact hzr _
  obtain ⟨p2, hp2⟩ : ∃ z, zs (i + 2).toNat = z := ⟨_, rfl⟩
  have rp2 : inR p2 := by rw [← hp2]; exact hzr _
  obtain ⟨p3, hp3⟩ : ∃ z, zs (i + 3).toNat = z := ⟨_, rfl⟩
  have rp3 : inR p3 := by rw [← hp3]; exact hzr _
  obtain ⟨p4, hp4⟩ : ∃ z, zs (i + 4).toNat = z := ⟨_, rfl⟩
  have rp4 : inR p4 := by rw [← hp4]; exact hzr _
  have hr : inR (oc_feast σ p1 (bZ (p2 ≠ 0)) p3 p4).1 := by rcases ocr_feast σ p1 (bZ (p2 ≠ 0)) p3 p4 with e | e | e <;> rw [e] <;> (constructor <;> omega)
  have rb2 := bZ_01 (p2 ≠ 0)
  refine g_eqM hM ?_
  refine g_aload hX dL_law_1183 rfl rfl ?_
  refine g_aload hX dL_law_1184 rfl rfl ?_
  refine g_iload hX dL_law_1185 rfl ?_
  refine g_const hX dL_law_1187 ?_
  refine z_iadd hX dL_law_1188 ?_
  refine z_sld hX hS dL_law_1189 (by omega) (by omega) hp1 ?_
  refine g_aload hX dL_law_1190 rfl rfl ?_
  refine g_iload hX dL_law_1191 rfl ?_
  refine g_const hX dL_law_1193 ?_
  refine z_iadd hX dL_law_1194 ?_
  refine z_sld hX hS dL_law_1195 (by omega) (by omega) hp2 ?_
  refine z_nz hX dL_law_1196 dL_law_1199 dL_law_1200 dL_law_1203 rp2 ?_
  refine g_aload hX dL_law_1204 rfl rfl ?_
  refine g_iload hX dL_law_1205 rfl ?_
  refine g_const hX dL_law_1207 ?_
  refine z_iadd hX dL_law_1208 ?_
  refine z_sld hX hS dL_law_1209 (by omega) (by omega) hp3 ?_
  refine g_aload hX dL_law_1210 rfl rfl ?_
  refine g_iload hX dL_law_1211 rfl ?_
  refine g_const hX dL_law_1213 ?_
  refine z_iadd hX dL_law_1214 ?_
  refine z_sld hX hS dL_law_1215 (by omega) (by omega) hp4 ?_
  refine g_aload hX dL_law_1216 rfl rfl ?_
  refine g_cSXf (As := [.ref h, .int (iZ p1), .int (iZ (bZ (p2 ≠ 0))), .int (iZ p3), .int (iZ p4), .ref o]) (rest := []) (c2 := cs + 9) (s2 := ss + 239) hX (s_L_feast hst) dL_law_1217 rfl rfl (by first | exact Nat.le_of_ble_eq_true rfl | simp [cat_rf, Value.category]) ⟨rfl, rfl, (show cs + 9 ≤ 601024 by omega), (show ss + 239 ≤ 7293034 by omega)⟩ hdB ?_
  refine ⟨h, A, ow, σ, τ, p1, (bZ (p2 ≠ 0)), p3, p4, o, C, f, rfl, hH, hV, rp1, rb2, rp3, rp4, hco, rfl, fun A1 ow1 τ1 C1 s1 f1 hH1 hV1 hco1 hf1 hd1 hs1 => Kc_i ?_⟩
  refine g_istore hX dL_law_1220 ?_
  dsimp only [List.set]
  refine g_eqM (jn_comm hd1) ?_
  refine g_aload hX dL_law_1222 rfl rfl ?_
  refine g_aload hX dL_law_1223 rfl rfl ?_
  refine g_iload hX dL_law_1224 rfl ?_
  refine g_const hX dL_law_1226 ?_
  refine z_iadd hX dL_law_1227 ?_
  refine z_sld hX hS dL_law_1228 (by omega) (by omega) hp1 ?_
  refine g_aload hX dL_law_1229 rfl rfl ?_
  refine g_iload hX dL_law_1230 rfl ?_
  refine g_const hX dL_law_1232 ?_
  refine z_iadd hX dL_law_1233 ?_
  refine z_sld hX hS dL_law_1234 (by omega) (by omega) hp2 ?_
  refine z_nz hX dL_law_1235 dL_law_1238 dL_law_1239 dL_law_1242 rp2 ?_
  refine g_aload hX dL_law_1243 rfl rfl ?_
  refine g_iload hX dL_law_1244 rfl ?_
  refine g_const hX dL_law_1246 ?_
  refine z_iadd hX dL_law_1247 ?_
  refine z_sld hX hS dL_law_1248 (by omega) (by omega) hp3 ?_
  refine g_aload hX dL_law_1249 rfl rfl ?_
  refine g_iload hX dL_law_1250 rfl ?_
  refine g_const hX dL_law_1252 ?_
  refine z_iadd hX dL_law_1253 ?_
  refine z_sld hX hS dL_law_1254 (by omega) (by omega) hp4 ?_
  refine g_cVf (As := [.int (iZ p1), .int (iZ (bZ (p2 ≠ 0))), .int (iZ p3), .int (iZ p4)]) (rest := []) (c2 := cs + 9) (s2 := ss + 239) hX (s_X10_feast hst) dL_law_1255 hB.2.1 rfl rfl (by first | exact Nat.le_of_ble_eq_true rfl | simp [cat_rf, Value.category]) ⟨rfl, rfl, (show cs + 9 ≤ 601024 by omega), (show ss + 239 ≤ 7293034 by omega)⟩ hd1.symm ?_
  refine ⟨bm, r, σ, th, P, Q, p1, (bZ (p2 ≠ 0)), p3, p4, rfl, hB, hV, rp1, rb2, rp3, rp4, fun P1 Q1 B1 s2 hB1 hV2 hd2 hs2 => Kc_i ?_⟩
  refine g_istore hX dL_law_1258 ?_
  dsimp only [List.set]
  refine g_aload hX dL_law_1260 rfl rfl ?_
  refine g_cVf (As := []) (rest := []) (c2 := cs + 9) (s2 := ss + 239) hX (s_X10_thrown hst) dL_law_1261 hB1.2.1 rfl rfl (by first | exact Nat.le_of_ble_eq_true rfl | simp [cat_rf, Value.category]) ⟨rfl, rfl, (show cs + 9 ≤ 601024 by omega), (show ss + 239 ≤ 7293034 by omega)⟩ hd2 ?_
  refine ⟨bm, r, _, _, P1, Q1, rfl, hB1, hV2, fun hd3 hs3 => Kc_i ?_⟩
  refine g_iload hX dL_law_1264 rfl ?_
  refine g_icmp_eq hX dL_law_1266 (fun _ => ?_) (fun q => absurd rfl q)
  refine g_iload hX dL_law_1271 rfl ?_
  by_cases h0 : (oc_feast σ p1 (bZ (p2 ≠ 0)) p3 p4).1 = 0
  · refine z_if_ne hX dL_law_1273 hr (fun c => absurd h0 c) (fun _ => ?_)
    refine g_aload hX dL_law_1276 rfl rfl ?_
    refine g_const hX dL_law_1277 ?_
    refine g_lald hX dL_law_1278 (jn_f (jn_f (sg_s o f1))) vin_0 ?_
    have e9 : f1 (iZ 0).toNatClampNeg = (iZ (oc_feast σ p1 (bZ (p2 ≠ 0)) p3 p4).2.1).toInt64 := by rw [z_cl inR0]; exact hf1 h0
    rw [e9]
    refine g_iload hX dL_law_1279 rfl ?_
    refine g_i2l hX dL_law_1281 ?_
    refine g_lcmp hX dL_law_1282 ?_
    refine g_if_eq hX dL_law_1283 (fun _ => ?_) (fun q => absurd (lgc_self _) q)
    refine g_goto hX dL_law_1288 ?_
    exact g_wide (by omega) (by omega) (hn _ _ _ _ _ ⟨A1, ow1, τ1, _, P1, Q1, f1, C1, B1, hH1, hB1, hco1, hd2.symm, fun q => jn_comm hd2 q⟩ hV1)
  · refine z_if_ne hX dL_law_1273 hr (fun _ => ?_) (fun c => absurd c h0)
    refine g_goto hX dL_law_1288 ?_
    exact g_wide (by omega) (by omega) (hn _ _ _ _ _ ⟨A1, ow1, τ1, _, P1, Q1, f1, C1, B1, hH1, hB1, hco1, hd2.symm, fun q => jn_comm hd2 q⟩ hV1)

theorem law_moving {X : hX} {b L h r bm o : Nat} {zs : Nat → Int} {σ : SG} {M : hM} {sz cs ss : Nat} {i : Int} {v5 v6 : Value} (hX : Cok X mL_law) (hst : X.1.2.1.stackTraces = false) (hS : LSc X b L zs) (hi : 0 ≤ i ∧ i + 5 ≤ (L : Int)) (hW : LWs X.2.2.2.2.2 h r bm o σ M) (hV : SV σ) (hcs : cs + 10 ≤ 601024) (hss : ss + 250 ≤ 7293034) (hn : ∀ (σ' : SG) (M' : hM) (sz' : Nat) (w5 w6 : Value), LWs X.2.2.2.2.2 h r bm o σ' M' → SV σ' → G X 2115 [.ref b, .ref h, .ref r, .ref o, .int (iZ i), w5, w6] [] M' sz' (cs + 10) (ss + 250)) : G X 1291 [.ref b, .ref h, .ref r, .ref o, .int (iZ i), v5, v6] [] M sz cs ss := by
  obtain ⟨A, ow, τ, th, P, Q, f, C, B, hH, hB, hco, hdB, hM⟩ := hW
  obtain ⟨hS1, hS2, hS3, hL, hzr⟩ := id hS
  obtain ⟨p1, hp1⟩ : ∃ z, zs (i + 1).toNat = z := ⟨_, rfl⟩
  have rp1 : inR p1 := by rw [← hp1]; exact hzr _
  obtain ⟨p2, hp2⟩ : ∃ z, zs (i + 2).toNat = z := ⟨_, rfl⟩
  have rp2 : inR p2 := by rw [← hp2]; exact hzr _
  obtain ⟨p3, hp3⟩ : ∃ z, zs (i + 3).toNat = z := ⟨_, rfl⟩
  have rp3 : inR p3 := by rw [← hp3]; exact hzr _
  have hr : inR (oc_moving σ p1 (bZ (p2 ≠ 0)) p3).1 := by rcases ocr_moving σ p1 (bZ (p2 ≠ 0)) p3 with e | e | e <;> rw [e] <;> (constructor <;> omega)
  have rb2 := bZ_01 (p2 ≠ 0)
  refine g_eqM hM ?_
  refine g_aload hX dL_law_1291 rfl rfl ?_
  refine g_aload hX dL_law_1292 rfl rfl ?_
  refine g_iload hX dL_law_1293 rfl ?_
  refine g_const hX dL_law_1295 ?_
  refine z_iadd hX dL_law_1296 ?_
  refine z_sld hX hS dL_law_1297 (by omega) (by omega) hp1 ?_
  refine g_aload hX dL_law_1298 rfl rfl ?_
  refine g_iload hX dL_law_1299 rfl ?_
  refine g_const hX dL_law_1301 ?_
  refine z_iadd hX dL_law_1302 ?_
  refine z_sld hX hS dL_law_1303 (by omega) (by omega) hp2 ?_
  refine z_nz hX dL_law_1304 dL_law_1307 dL_law_1308 dL_law_1311 rp2 ?_
  refine g_aload hX dL_law_1312 rfl rfl ?_
  refine g_iload hX dL_law_1313 rfl ?_
  refine g_const hX dL_law_1315 ?_
  refine z_iadd hX dL_law_1316 ?_
  refine z_sld hX hS dL_law_1317 (by omega) (by omega) hp3 ?_
  refine g_aload hX dL_law_1318 rfl rfl ?_
  refine g_cSXf (As := [.ref h, .int (iZ p1), .int (iZ (bZ (p2 ≠ 0))), .int (iZ p3), .ref o]) (rest := []) (c2 := cs + 7) (s2 := ss + 227) hX (s_L_moving hst) dL_law_1319 rfl rfl (by first | exact Nat.le_of_ble_eq_true rfl | simp [cat_rf, Value.category]) ⟨rfl, rfl, (show cs + 7 ≤ 601024 by omega), (show ss + 227 ≤ 7293034 by omega)⟩ hdB ?_
  refine ⟨h, A, ow, σ, τ, p1, (bZ (p2 ≠ 0)), p3, o, C, f, rfl, hH, hV, rp1, rb2, rp3, hco, rfl, fun A1 ow1 τ1 C1 s1 f1 hH1 hV1 hco1 hf1 hd1 hs1 => Kc_i ?_⟩
  refine g_istore hX dL_law_1322 ?_
  dsimp only [List.set]
  refine g_eqM (jn_comm hd1) ?_
  refine g_aload hX dL_law_1324 rfl rfl ?_
  refine g_aload hX dL_law_1325 rfl rfl ?_
  refine g_iload hX dL_law_1326 rfl ?_
  refine g_const hX dL_law_1328 ?_
  refine z_iadd hX dL_law_1329 ?_
  refine z_sld hX hS dL_law_1330 (by omega) (by omega) hp1 ?_
  refine g_aload hX dL_law_1331 rfl rfl ?_
  refine g_iload hX dL_law_1332 rfl ?_
  refine g_const hX dL_law_1334 ?_
  refine z_iadd hX dL_law_1335 ?_
  refine z_sld hX hS dL_law_1336 (by omega) (by omega) hp2 ?_
  refine z_nz hX dL_law_1337 dL_law_1340 dL_law_1341 dL_law_1344 rp2 ?_
  refine g_aload hX dL_law_1345 rfl rfl ?_
  refine g_iload hX dL_law_1346 rfl ?_
  refine g_const hX dL_law_1348 ?_
  refine z_iadd hX dL_law_1349 ?_
  refine z_sld hX hS dL_law_1350 (by omega) (by omega) hp3 ?_
  refine g_cVf (As := [.int (iZ p1), .int (iZ (bZ (p2 ≠ 0))), .int (iZ p3)]) (rest := []) (c2 := cs + 7) (s2 := ss + 227) hX (s_X10_moving hst) dL_law_1351 hB.2.1 rfl rfl (by first | exact Nat.le_of_ble_eq_true rfl | simp [cat_rf, Value.category]) ⟨rfl, rfl, (show cs + 7 ≤ 601024 by omega), (show ss + 227 ≤ 7293034 by omega)⟩ hd1.symm ?_
  refine ⟨bm, r, σ, th, P, Q, p1, (bZ (p2 ≠ 0)), p3, rfl, hB, hV, rp1, rb2, rp3, fun P1 Q1 B1 s2 hB1 hV2 hd2 hs2 => Kc_i ?_⟩
  refine g_istore hX dL_law_1354 ?_
  dsimp only [List.set]
  refine g_aload hX dL_law_1356 rfl rfl ?_
  refine g_cVf (As := []) (rest := []) (c2 := cs + 7) (s2 := ss + 227) hX (s_X10_thrown hst) dL_law_1357 hB1.2.1 rfl rfl (by first | exact Nat.le_of_ble_eq_true rfl | simp [cat_rf, Value.category]) ⟨rfl, rfl, (show cs + 7 ≤ 601024 by omega), (show ss + 227 ≤ 7293034 by omega)⟩ hd2 ?_
  refine ⟨bm, r, _, _, P1, Q1, rfl, hB1, hV2, fun hd3 hs3 => Kc_i ?_⟩
  refine g_iload hX dL_law_1360 rfl ?_
  refine g_icmp_eq hX dL_law_1362 (fun _ => ?_) (fun q => absurd rfl q)
  refine g_iload hX dL_law_1367 rfl ?_
  by_cases h0 : (oc_moving σ p1 (bZ (p2 ≠ 0)) p3).1 = 0
  · refine z_if_ne hX dL_law_1369 hr (fun c => absurd h0 c) (fun _ => ?_)
    refine g_aload hX dL_law_1372 rfl rfl ?_
    refine g_const hX dL_law_1373 ?_
    refine g_lald hX dL_law_1374 (jn_f (jn_f (sg_s o f1))) vin_0 ?_
    have e9 : f1 (iZ 0).toNatClampNeg = (iZ (oc_moving σ p1 (bZ (p2 ≠ 0)) p3).2.1).toInt64 := by rw [z_cl inR0]; exact hf1 h0
    rw [e9]
    refine g_iload hX dL_law_1375 rfl ?_
    refine g_i2l hX dL_law_1377 ?_
    refine g_lcmp hX dL_law_1378 ?_
    refine g_if_eq hX dL_law_1379 (fun _ => ?_) (fun q => absurd (lgc_self _) q)
    refine g_goto hX dL_law_1384 ?_
    exact g_wide (by omega) (by omega) (hn _ _ _ _ _ ⟨A1, ow1, τ1, _, P1, Q1, f1, C1, B1, hH1, hB1, hco1, hd2.symm, fun q => jn_comm hd2 q⟩ hV1)
  · refine z_if_ne hX dL_law_1369 hr (fun _ => ?_) (fun c => absurd c h0)
    refine g_goto hX dL_law_1384 ?_
    exact g_wide (by omega) (by omega) (hn _ _ _ _ _ ⟨A1, ow1, τ1, _, P1, Q1, f1, C1, B1, hH1, hB1, hco1, hd2.symm, fun q => jn_comm hd2 q⟩ hV1)

theorem law_sundays {X : hX} {b L h r bm o : Nat} {zs : Nat → Int} {σ : SG} {M : hM} {sz cs ss : Nat} {i : Int} {v5 v6 : Value} (hX : Cok X mL_law) (hst : X.1.2.1.stackTraces = false) (hS : LSc X b L zs) (hi : 0 ≤ i ∧ i + 5 ≤ (L : Int)) (hW : LWs X.2.2.2.2.2 h r bm o σ M) (hV : SV σ) (hcs : cs + 10 ≤ 601024) (hss : ss + 250 ≤ 7293034) (hn : ∀ (σ' : SG) (M' : hM) (sz' : Nat) (w5 w6 : Value), LWs X.2.2.2.2.2 h r bm o σ' M' → SV σ' → G X 2115 [.ref b, .ref h, .ref r, .ref o, .int (iZ i), w5, w6] [] M' sz' (cs + 10) (ss + 250)) : G X 1387 [.ref b, .ref h, .ref r, .ref o, .int (iZ i), v5, v6] [] M sz cs ss := by
  obtain ⟨A, ow, τ, th, P, Q, f, C, B, hH, hB, hco, hdB, hM⟩ := hW
  obtain ⟨hS1, hS2, hS3, hL, hzr⟩ := id hS
  obtain ⟨p1, hp1⟩ : ∃ z, zs (i + 1).toNat = z := ⟨_, rfl⟩
  have rp1 : inR p1 := by rw [← hp1]; exact hzr _
  have hr : inR (oc_sundays σ p1).1 := by rcases ocr_sundays σ p1 with e | e <;> rw [e] <;> (constructor <;> omega)
  refine g_eqM hM ?_
  refine g_aload hX dL_law_1387 rfl rfl ?_
  refine g_aload hX dL_law_1388 rfl rfl ?_
  refine g_iload hX dL_law_1389 rfl ?_
  refine g_const hX dL_law_1391 ?_
  refine z_iadd hX dL_law_1392 ?_
  refine z_sld hX hS dL_law_1393 (by omega) (by omega) hp1 ?_
  refine g_aload hX dL_law_1394 rfl rfl ?_
  refine g_cSXf (As := [.ref h, .int (iZ p1), .ref o]) (rest := []) (c2 := cs + 1) (s2 := ss + 6) hX (s_L_sundays hst) dL_law_1395 rfl rfl (by first | exact Nat.le_of_ble_eq_true rfl | simp [cat_rf, Value.category]) ⟨rfl, rfl, (show cs + 1 ≤ 601024 by omega), (show ss + 6 ≤ 7293034 by omega)⟩ hdB ?_
  refine ⟨h, A, ow, σ, τ, p1, o, C, f, rfl, hH, hV, rp1, hco, rfl, fun A1 ow1 τ1 C1 s1 f1 hH1 hV1 hco1 hf1 hd1 hs1 => Kc_i ?_⟩
  refine g_istore hX dL_law_1398 ?_
  dsimp only [List.set]
  refine g_eqM (jn_comm hd1) ?_
  refine g_aload hX dL_law_1400 rfl rfl ?_
  refine g_aload hX dL_law_1401 rfl rfl ?_
  refine g_iload hX dL_law_1402 rfl ?_
  refine g_const hX dL_law_1404 ?_
  refine z_iadd hX dL_law_1405 ?_
  refine z_sld hX hS dL_law_1406 (by omega) (by omega) hp1 ?_
  refine g_cVf (As := [.int (iZ p1)]) (rest := []) (c2 := cs + 1) (s2 := ss + 6) hX (s_X10_sundays hst) dL_law_1407 hB.2.1 rfl rfl (by first | exact Nat.le_of_ble_eq_true rfl | simp [cat_rf, Value.category]) ⟨rfl, rfl, (show cs + 1 ≤ 601024 by omega), (show ss + 6 ≤ 7293034 by omega)⟩ hd1.symm ?_
  refine ⟨bm, r, σ, th, P, Q, p1, rfl, hB, hV, rp1, fun P1 Q1 B1 s2 hB1 hV2 hd2 hs2 => Kc_i ?_⟩
  refine g_istore hX dL_law_1410 ?_
  dsimp only [List.set]
  refine g_aload hX dL_law_1412 rfl rfl ?_
  refine g_cVf (As := []) (rest := []) (c2 := cs + 1) (s2 := ss + 6) hX (s_X10_thrown hst) dL_law_1413 hB1.2.1 rfl rfl (by first | exact Nat.le_of_ble_eq_true rfl | simp [cat_rf, Value.category]) ⟨rfl, rfl, (show cs + 1 ≤ 601024 by omega), (show ss + 6 ≤ 7293034 by omega)⟩ hd2 ?_
  refine ⟨bm, r, _, _, P1, Q1, rfl, hB1, hV2, fun hd3 hs3 => Kc_i ?_⟩
  refine g_iload hX dL_law_1416 rfl ?_
  refine g_icmp_eq hX dL_law_1418 (fun _ => ?_) (fun q => absurd rfl q)
  refine g_iload hX dL_law_1423 rfl ?_
  by_cases h0 : (oc_sundays σ p1).1 = 0
  · refine z_if_ne hX dL_law_1425 hr (fun c => absurd h0 c) (fun _ => ?_)
    refine g_aload hX dL_law_1428 rfl rfl ?_
    refine g_const hX dL_law_1429 ?_
    refine g_lald hX dL_law_1430 (jn_f (jn_f (sg_s o f1))) vin_0 ?_
    have e9 : f1 (iZ 0).toNatClampNeg = (iZ (oc_sundays σ p1).2.1).toInt64 := by rw [z_cl inR0]; exact hf1 h0
    rw [e9]
    refine g_iload hX dL_law_1431 rfl ?_
    refine g_i2l hX dL_law_1433 ?_
    refine g_lcmp hX dL_law_1434 ?_
    refine g_if_eq hX dL_law_1435 (fun _ => ?_) (fun q => absurd (lgc_self _) q)
    refine g_goto hX dL_law_1440 ?_
    exact g_wide (by omega) (by omega) (hn _ _ _ _ _ ⟨A1, ow1, τ1, _, P1, Q1, f1, C1, B1, hH1, hB1, hco1, hd2.symm, fun q => jn_comm hd2 q⟩ hV1)
  · refine z_if_ne hX dL_law_1425 hr (fun _ => ?_) (fun c => absurd c h0)
    refine g_goto hX dL_law_1440 ?_
    exact g_wide (by omega) (by omega) (hn _ _ _ _ _ ⟨A1, ow1, τ1, _, P1, Q1, f1, C1, B1, hH1, hB1, hco1, hd2.symm, fun q => jn_comm hd2 q⟩ hV1)

theorem law_reading {X : hX} {b L h r bm o : Nat} {zs : Nat → Int} {σ : SG} {M : hM} {sz cs ss : Nat} {i : Int} {v5 v6 : Value} (hX : Cok X mL_law) (hst : X.1.2.1.stackTraces = false) (hS : LSc X b L zs) (hi : 0 ≤ i ∧ i + 5 ≤ (L : Int)) (hW : LWs X.2.2.2.2.2 h r bm o σ M) (hV : SV σ) (hcs : cs + 10 ≤ 601024) (hss : ss + 250 ≤ 7293034) (hn : ∀ (σ' : SG) (M' : hM) (sz' : Nat) (w5 w6 : Value), LWs X.2.2.2.2.2 h r bm o σ' M' → SV σ' → G X 2115 [.ref b, .ref h, .ref r, .ref o, .int (iZ i), w5, w6] [] M' sz' (cs + 10) (ss + 250)) : G X 1443 [.ref b, .ref h, .ref r, .ref o, .int (iZ i), v5, v6] [] M sz cs ss := by
  obtain ⟨A, ow, τ, th, P, Q, f, C, B, hH, hB, hco, hdB, hM⟩ := hW
  obtain ⟨hS1, hS2, hS3, hL, hzr⟩ := id hS
  obtain ⟨p1, hp1⟩ : ∃ z, zs (i + 1).toNat = z := ⟨_, rfl⟩
  have rp1 : inR p1 := by rw [← hp1]; exact hzr _
  obtain ⟨p2, hp2⟩ : ∃ z, zs (i + 2).toNat = z := ⟨_, rfl⟩
  have rp2 : inR p2 := by rw [← hp2]; exact hzr _
  obtain ⟨p3, hp3⟩ : ∃ z, zs (i + 3).toNat = z := ⟨_, rfl⟩
  have rp3 : inR p3 := by rw [← hp3]; exact hzr _
  have hr : inR (oc_reading σ p1 p2 p3).1 := by rcases ocr_reading σ p1 p2 p3 with e | e | e <;> rw [e] <;> (constructor <;> omega)
  refine g_eqM hM ?_
  refine g_aload hX dL_law_1443 rfl rfl ?_
  refine g_aload hX dL_law_1444 rfl rfl ?_
  refine g_iload hX dL_law_1445 rfl ?_
  refine g_const hX dL_law_1447 ?_
  refine z_iadd hX dL_law_1448 ?_
  refine z_sld hX hS dL_law_1449 (by omega) (by omega) hp1 ?_
  refine g_aload hX dL_law_1450 rfl rfl ?_
  refine g_iload hX dL_law_1451 rfl ?_
  refine g_const hX dL_law_1453 ?_
  refine z_iadd hX dL_law_1454 ?_
  refine z_sld hX hS dL_law_1455 (by omega) (by omega) hp2 ?_
  refine g_aload hX dL_law_1456 rfl rfl ?_
  refine g_iload hX dL_law_1457 rfl ?_
  refine g_const hX dL_law_1459 ?_
  refine z_iadd hX dL_law_1460 ?_
  refine z_sld hX hS dL_law_1461 (by omega) (by omega) hp3 ?_
  refine g_aload hX dL_law_1462 rfl rfl ?_
  refine g_cSXf (As := [.ref h, .int (iZ p1), .int (iZ p2), .int (iZ p3), .ref o]) (rest := []) (c2 := cs + 3) (s2 := ss + 18) hX (s_L_reading hst) dL_law_1463 rfl rfl (by first | exact Nat.le_of_ble_eq_true rfl | simp [cat_rf, Value.category]) ⟨rfl, rfl, (show cs + 3 ≤ 601024 by omega), (show ss + 18 ≤ 7293034 by omega)⟩ hdB ?_
  refine ⟨h, A, ow, σ, τ, p1, p2, p3, o, C, f, rfl, hH, hV, rp1, rp2, rp3, hco, rfl, fun A1 ow1 τ1 C1 s1 f1 hH1 hV1 hco1 hf1 hd1 hs1 => Kc_i ?_⟩
  refine g_istore hX dL_law_1466 ?_
  dsimp only [List.set]
  refine g_eqM (jn_comm hd1) ?_
  refine g_aload hX dL_law_1468 rfl rfl ?_
  refine g_aload hX dL_law_1469 rfl rfl ?_
  refine g_iload hX dL_law_1470 rfl ?_
  refine g_const hX dL_law_1472 ?_
  refine z_iadd hX dL_law_1473 ?_
  refine z_sld hX hS dL_law_1474 (by omega) (by omega) hp1 ?_
  refine g_aload hX dL_law_1475 rfl rfl ?_
  refine g_iload hX dL_law_1476 rfl ?_
  refine g_const hX dL_law_1478 ?_
  refine z_iadd hX dL_law_1479 ?_
  refine z_sld hX hS dL_law_1480 (by omega) (by omega) hp2 ?_
  refine g_aload hX dL_law_1481 rfl rfl ?_
  refine g_iload hX dL_law_1482 rfl ?_
  refine g_const hX dL_law_1484 ?_
  refine z_iadd hX dL_law_1485 ?_
  refine z_sld hX hS dL_law_1486 (by omega) (by omega) hp3 ?_
  refine g_cVf (As := [.int (iZ p1), .int (iZ p2), .int (iZ p3)]) (rest := []) (c2 := cs + 3) (s2 := ss + 18) hX (s_X10_reading hst) dL_law_1487 hB.2.1 rfl rfl (by first | exact Nat.le_of_ble_eq_true rfl | simp [cat_rf, Value.category]) ⟨rfl, rfl, (show cs + 3 ≤ 601024 by omega), (show ss + 18 ≤ 7293034 by omega)⟩ hd1.symm ?_
  refine ⟨bm, r, σ, th, P, Q, p1, p2, p3, rfl, hB, hV, rp1, rp2, rp3, fun P1 Q1 B1 s2 hB1 hV2 hd2 hs2 => Kc_i ?_⟩
  refine g_istore hX dL_law_1490 ?_
  dsimp only [List.set]
  refine g_aload hX dL_law_1492 rfl rfl ?_
  refine g_cVf (As := []) (rest := []) (c2 := cs + 3) (s2 := ss + 18) hX (s_X10_thrown hst) dL_law_1493 hB1.2.1 rfl rfl (by first | exact Nat.le_of_ble_eq_true rfl | simp [cat_rf, Value.category]) ⟨rfl, rfl, (show cs + 3 ≤ 601024 by omega), (show ss + 18 ≤ 7293034 by omega)⟩ hd2 ?_
  refine ⟨bm, r, _, _, P1, Q1, rfl, hB1, hV2, fun hd3 hs3 => Kc_i ?_⟩
  refine g_iload hX dL_law_1496 rfl ?_
  refine g_icmp_eq hX dL_law_1498 (fun _ => ?_) (fun q => absurd rfl q)
  refine g_iload hX dL_law_1503 rfl ?_
  by_cases h0 : (oc_reading σ p1 p2 p3).1 = 0
  · refine z_if_ne hX dL_law_1505 hr (fun c => absurd h0 c) (fun _ => ?_)
    refine g_aload hX dL_law_1508 rfl rfl ?_
    refine g_const hX dL_law_1509 ?_
    refine g_lald hX dL_law_1510 (jn_f (jn_f (sg_s o f1))) vin_0 ?_
    have e9 : f1 (iZ 0).toNatClampNeg = (iZ (oc_reading σ p1 p2 p3).2.1).toInt64 := by rw [z_cl inR0]; exact hf1 h0
    rw [e9]
    refine g_iload hX dL_law_1511 rfl ?_
    refine g_i2l hX dL_law_1513 ?_
    refine g_lcmp hX dL_law_1514 ?_
    refine g_if_eq hX dL_law_1515 (fun _ => ?_) (fun q => absurd (lgc_self _) q)
    refine g_goto hX dL_law_1520 ?_
    exact g_wide (by omega) (by omega) (hn _ _ _ _ _ ⟨A1, ow1, τ1, _, P1, Q1, f1, C1, B1, hH1, hB1, hco1, hd2.symm, fun q => jn_comm hd2 q⟩ hV1)
  · refine z_if_ne hX dL_law_1505 hr (fun _ => ?_) (fun c => absurd c h0)
    refine g_goto hX dL_law_1520 ?_
    exact g_wide (by omega) (by omega) (hn _ _ _ _ _ ⟨A1, ow1, τ1, _, P1, Q1, f1, C1, B1, hH1, hB1, hco1, hd2.symm, fun q => jn_comm hd2 q⟩ hV1)

theorem law_kept {X : hX} {b L h r bm o : Nat} {zs : Nat → Int} {σ : SG} {M : hM} {sz cs ss : Nat} {i : Int} {v5 v6 : Value} (hX : Cok X mL_law) (hst : X.1.2.1.stackTraces = false) (hS : LSc X b L zs) (hi : 0 ≤ i ∧ i + 5 ≤ (L : Int)) (hW : LWs X.2.2.2.2.2 h r bm o σ M) (hV : SV σ) (hcs : cs + 10 ≤ 601024) (hss : ss + 250 ≤ 7293034) (hn : ∀ (σ' : SG) (M' : hM) (sz' : Nat) (w5 w6 : Value), LWs X.2.2.2.2.2 h r bm o σ' M' → SV σ' → G X 2115 [.ref b, .ref h, .ref r, .ref o, .int (iZ i), w5, w6] [] M' sz' (cs + 10) (ss + 250)) : G X 1523 [.ref b, .ref h, .ref r, .ref o, .int (iZ i), v5, v6] [] M sz cs ss := by
  obtain ⟨A, ow, τ, th, P, Q, f, C, B, hH, hB, hco, hdB, hM⟩ := hW
  obtain ⟨hS1, hS2, hS3, hL, hzr⟩ := id hS
  obtain ⟨p1, hp1⟩ : ∃ z, zs (i + 1).toNat = z := ⟨_, rfl⟩
  have rp1 : inR p1 := by rw [← hp1]; exact hzr _
  obtain ⟨p2, hp2⟩ : ∃ z, zs (i + 2).toNat = z := ⟨_, rfl⟩
  have rp2 : inR p2 := by rw [← hp2]; exact hzr _
  obtain ⟨p3, hp3⟩ : ∃ z, zs (i + 3).toNat = z := ⟨_, rfl⟩
  have rp3 : inR p3 := by rw [← hp3]; exact hzr _
  have hr : inR (oc_kept σ p1 p2 p3).1 := by rcases ocr_kept σ p1 p2 p3 with e | e <;> rw [e] <;> (constructor <;> omega)
  refine g_eqM hM ?_
  refine g_aload hX dL_law_1523 rfl rfl ?_
  refine g_aload hX dL_law_1524 rfl rfl ?_
  refine g_iload hX dL_law_1525 rfl ?_
  refine g_const hX dL_law_1527 ?_
  refine z_iadd hX dL_law_1528 ?_
  refine z_sld hX hS dL_law_1529 (by omega) (by omega) hp1 ?_
  refine g_aload hX dL_law_1530 rfl rfl ?_
  refine g_iload hX dL_law_1531 rfl ?_
  refine g_const hX dL_law_1533 ?_
  refine z_iadd hX dL_law_1534 ?_
  refine z_sld hX hS dL_law_1535 (by omega) (by omega) hp2 ?_
  refine g_aload hX dL_law_1536 rfl rfl ?_
  refine g_iload hX dL_law_1537 rfl ?_
  refine g_const hX dL_law_1539 ?_
  refine z_iadd hX dL_law_1540 ?_
  refine z_sld hX hS dL_law_1541 (by omega) (by omega) hp3 ?_
  refine g_aload hX dL_law_1542 rfl rfl ?_
  refine g_cSXf (As := [.ref h, .int (iZ p1), .int (iZ p2), .int (iZ p3), .ref o]) (rest := []) (c2 := cs + 3) (s2 := ss + 18) hX (s_L_kept hst) dL_law_1543 rfl rfl (by first | exact Nat.le_of_ble_eq_true rfl | simp [cat_rf, Value.category]) ⟨rfl, rfl, (show cs + 3 ≤ 601024 by omega), (show ss + 18 ≤ 7293034 by omega)⟩ hdB ?_
  refine ⟨h, A, ow, σ, τ, p1, p2, p3, o, C, f, rfl, hH, hV, rp1, rp2, rp3, hco, rfl, fun A1 ow1 τ1 C1 s1 f1 hH1 hV1 hco1 hf1 hd1 hs1 => Kc_i ?_⟩
  refine g_istore hX dL_law_1546 ?_
  dsimp only [List.set]
  refine g_eqM (jn_comm hd1) ?_
  refine g_aload hX dL_law_1548 rfl rfl ?_
  refine g_aload hX dL_law_1549 rfl rfl ?_
  refine g_iload hX dL_law_1550 rfl ?_
  refine g_const hX dL_law_1552 ?_
  refine z_iadd hX dL_law_1553 ?_
  refine z_sld hX hS dL_law_1554 (by omega) (by omega) hp1 ?_
  refine g_aload hX dL_law_1555 rfl rfl ?_
  refine g_iload hX dL_law_1556 rfl ?_
  refine g_const hX dL_law_1558 ?_
  refine z_iadd hX dL_law_1559 ?_
  refine z_sld hX hS dL_law_1560 (by omega) (by omega) hp2 ?_
  refine g_aload hX dL_law_1561 rfl rfl ?_
  refine g_iload hX dL_law_1562 rfl ?_
  refine g_const hX dL_law_1564 ?_
  refine z_iadd hX dL_law_1565 ?_
  refine z_sld hX hS dL_law_1566 (by omega) (by omega) hp3 ?_
  refine g_cVf (As := [.int (iZ p1), .int (iZ p2), .int (iZ p3)]) (rest := []) (c2 := cs + 3) (s2 := ss + 18) hX (s_X10_kept hst) dL_law_1567 hB.2.1 rfl rfl (by first | exact Nat.le_of_ble_eq_true rfl | simp [cat_rf, Value.category]) ⟨rfl, rfl, (show cs + 3 ≤ 601024 by omega), (show ss + 18 ≤ 7293034 by omega)⟩ hd1.symm ?_
  refine ⟨bm, r, σ, th, P, Q, p1, p2, p3, rfl, hB, hV, rp1, rp2, rp3, fun P1 Q1 B1 s2 hB1 hV2 hd2 hs2 => Kc_i ?_⟩
  refine g_istore hX dL_law_1570 ?_
  dsimp only [List.set]
  refine g_aload hX dL_law_1572 rfl rfl ?_
  refine g_cVf (As := []) (rest := []) (c2 := cs + 3) (s2 := ss + 18) hX (s_X10_thrown hst) dL_law_1573 hB1.2.1 rfl rfl (by first | exact Nat.le_of_ble_eq_true rfl | simp [cat_rf, Value.category]) ⟨rfl, rfl, (show cs + 3 ≤ 601024 by omega), (show ss + 18 ≤ 7293034 by omega)⟩ hd2 ?_
  refine ⟨bm, r, _, _, P1, Q1, rfl, hB1, hV2, fun hd3 hs3 => Kc_i ?_⟩
  refine g_iload hX dL_law_1576 rfl ?_
  refine g_icmp_eq hX dL_law_1578 (fun _ => ?_) (fun q => absurd rfl q)
  refine g_iload hX dL_law_1583 rfl ?_
  by_cases h0 : (oc_kept σ p1 p2 p3).1 = 0
  · refine z_if_ne hX dL_law_1585 hr (fun c => absurd h0 c) (fun _ => ?_)
    refine g_aload hX dL_law_1588 rfl rfl ?_
    refine g_const hX dL_law_1589 ?_
    refine g_lald hX dL_law_1590 (jn_f (jn_f (sg_s o f1))) vin_0 ?_
    have e9 : f1 (iZ 0).toNatClampNeg = (iZ (oc_kept σ p1 p2 p3).2.1).toInt64 := by rw [z_cl inR0]; exact hf1 h0
    rw [e9]
    refine g_iload hX dL_law_1591 rfl ?_
    refine g_i2l hX dL_law_1593 ?_
    refine g_lcmp hX dL_law_1594 ?_
    refine g_if_eq hX dL_law_1595 (fun _ => ?_) (fun q => absurd (lgc_self _) q)
    refine g_goto hX dL_law_1600 ?_
    exact g_wide (by omega) (by omega) (hn _ _ _ _ _ ⟨A1, ow1, τ1, _, P1, Q1, f1, C1, B1, hH1, hB1, hco1, hd2.symm, fun q => jn_comm hd2 q⟩ hV1)
  · refine z_if_ne hX dL_law_1585 hr (fun _ => ?_) (fun c => absurd c h0)
    refine g_goto hX dL_law_1600 ?_
    exact g_wide (by omega) (by omega) (hn _ _ _ _ _ ⟨A1, ow1, τ1, _, P1, Q1, f1, C1, B1, hH1, hB1, hco1, hd2.symm, fun q => jn_comm hd2 q⟩ hV1)

theorem law_when {X : hX} {b L h r bm o : Nat} {zs : Nat → Int} {σ : SG} {M : hM} {sz cs ss : Nat} {i : Int} {v5 v6 : Value} (hX : Cok X mL_law) (hst : X.1.2.1.stackTraces = false) (hS : LSc X b L zs) (hi : 0 ≤ i ∧ i + 5 ≤ (L : Int)) (hW : LWs X.2.2.2.2.2 h r bm o σ M) (hV : SV σ) (hcs : cs + 10 ≤ 601024) (hss : ss + 250 ≤ 7293034) (hn : ∀ (σ' : SG) (M' : hM) (sz' : Nat) (w5 w6 : Value), LWs X.2.2.2.2.2 h r bm o σ' M' → SV σ' → G X 2115 [.ref b, .ref h, .ref r, .ref o, .int (iZ i), w5, w6] [] M' sz' (cs + 10) (ss + 250)) : G X 1603 [.ref b, .ref h, .ref r, .ref o, .int (iZ i), v5, v6] [] M sz cs ss := by
  obtain ⟨A, ow, τ, th, P, Q, f, C, B, hH, hB, hco, hdB, hM⟩ := hW
  obtain ⟨hS1, hS2, hS3, hL, hzr⟩ := id hS
  obtain ⟨p1, hp1⟩ : ∃ z, zs (i + 1).toNat = z := ⟨_, rfl⟩
  have rp1 : inR p1 := by rw [← hp1]; exact hzr _
  obtain ⟨p2, hp2⟩ : ∃ z, zs (i + 2).toNat = z := ⟨_, rfl⟩
  have rp2 : inR p2 := by rw [← hp2]; exact hzr _
  have hr : inR (oc_when σ p1 p2).1 := by rcases ocr_when σ p1 p2 with e | e | e <;> rw [e] <;> (constructor <;> omega)
  refine g_eqM hM ?_
  refine g_aload hX dL_law_1603 rfl rfl ?_
  refine g_aload hX dL_law_1604 rfl rfl ?_
  refine g_iload hX dL_law_1605 rfl ?_
  refine g_const hX dL_law_1607 ?_
  refine z_iadd hX dL_law_1608 ?_
  refine z_sld hX hS dL_law_1609 (by omega) (by omega) hp1 ?_
  refine g_aload hX dL_law_1610 rfl rfl ?_
  refine g_iload hX dL_law_1611 rfl ?_
  refine g_const hX dL_law_1613 ?_
  refine z_iadd hX dL_law_1614 ?_
  refine z_sld hX hS dL_law_1615 (by omega) (by omega) hp2 ?_
  refine g_aload hX dL_law_1616 rfl rfl ?_
  refine g_cSXf (As := [.ref h, .int (iZ p1), .int (iZ p2), .ref o]) (rest := []) (c2 := cs + 2) (s2 := ss + 12) hX (s_L_when hst) dL_law_1617 rfl rfl (by first | exact Nat.le_of_ble_eq_true rfl | simp [cat_rf, Value.category]) ⟨rfl, rfl, (show cs + 2 ≤ 601024 by omega), (show ss + 12 ≤ 7293034 by omega)⟩ hdB ?_
  refine ⟨h, A, ow, σ, τ, p1, p2, o, C, f, rfl, hH, hV, rp1, rp2, hco, rfl, fun A1 ow1 τ1 C1 s1 f1 hH1 hV1 hco1 hf1 hd1 hs1 => Kc_i ?_⟩
  refine g_istore hX dL_law_1620 ?_
  dsimp only [List.set]
  refine g_eqM (jn_comm hd1) ?_
  refine g_aload hX dL_law_1622 rfl rfl ?_
  refine g_aload hX dL_law_1623 rfl rfl ?_
  refine g_iload hX dL_law_1624 rfl ?_
  refine g_const hX dL_law_1626 ?_
  refine z_iadd hX dL_law_1627 ?_
  refine z_sld hX hS dL_law_1628 (by omega) (by omega) hp1 ?_
  refine g_aload hX dL_law_1629 rfl rfl ?_
  refine g_iload hX dL_law_1630 rfl ?_
  refine g_const hX dL_law_1632 ?_
  refine z_iadd hX dL_law_1633 ?_
  refine z_sld hX hS dL_law_1634 (by omega) (by omega) hp2 ?_
  refine g_cVf (As := [.int (iZ p1), .int (iZ p2)]) (rest := []) (c2 := cs + 2) (s2 := ss + 12) hX (s_X10_when hst) dL_law_1635 hB.2.1 rfl rfl (by first | exact Nat.le_of_ble_eq_true rfl | simp [cat_rf, Value.category]) ⟨rfl, rfl, (show cs + 2 ≤ 601024 by omega), (show ss + 12 ≤ 7293034 by omega)⟩ hd1.symm ?_
  refine ⟨bm, r, σ, th, P, Q, p1, p2, rfl, hB, hV, rp1, rp2, fun P1 Q1 B1 s2 hB1 hV2 hd2 hs2 => Kc_i ?_⟩
  refine g_istore hX dL_law_1638 ?_
  dsimp only [List.set]
  refine g_aload hX dL_law_1640 rfl rfl ?_
  refine g_cVf (As := []) (rest := []) (c2 := cs + 2) (s2 := ss + 12) hX (s_X10_thrown hst) dL_law_1641 hB1.2.1 rfl rfl (by first | exact Nat.le_of_ble_eq_true rfl | simp [cat_rf, Value.category]) ⟨rfl, rfl, (show cs + 2 ≤ 601024 by omega), (show ss + 12 ≤ 7293034 by omega)⟩ hd2 ?_
  refine ⟨bm, r, _, _, P1, Q1, rfl, hB1, hV2, fun hd3 hs3 => Kc_i ?_⟩
  refine g_iload hX dL_law_1644 rfl ?_
  refine g_icmp_eq hX dL_law_1646 (fun _ => ?_) (fun q => absurd rfl q)
  refine g_iload hX dL_law_1651 rfl ?_
  by_cases h0 : (oc_when σ p1 p2).1 = 0
  · refine z_if_ne hX dL_law_1653 hr (fun c => absurd h0 c) (fun _ => ?_)
    refine g_aload hX dL_law_1656 rfl rfl ?_
    refine g_const hX dL_law_1657 ?_
    refine g_lald hX dL_law_1658 (jn_f (jn_f (sg_s o f1))) vin_0 ?_
    have e9 : f1 (iZ 0).toNatClampNeg = (iZ (oc_when σ p1 p2).2.1).toInt64 := by rw [z_cl inR0]; exact hf1 h0
    rw [e9]
    refine g_iload hX dL_law_1659 rfl ?_
    refine g_i2l hX dL_law_1661 ?_
    refine g_lcmp hX dL_law_1662 ?_
    refine g_if_eq hX dL_law_1663 (fun _ => ?_) (fun q => absurd (lgc_self _) q)
    refine g_goto hX dL_law_1668 ?_
    exact g_wide (by omega) (by omega) (hn _ _ _ _ _ ⟨A1, ow1, τ1, _, P1, Q1, f1, C1, B1, hH1, hB1, hco1, hd2.symm, fun q => jn_comm hd2 q⟩ hV1)
  · refine z_if_ne hX dL_law_1653 hr (fun _ => ?_) (fun c => absurd c h0)
    refine g_goto hX dL_law_1668 ?_
    exact g_wide (by omega) (by omega) (hn _ _ _ _ _ ⟨A1, ow1, τ1, _, P1, Q1, f1, C1, B1, hH1, hB1, hco1, hd2.symm, fun q => jn_comm hd2 q⟩ hV1)

theorem law_whenAnew {X : hX} {b L h r bm o : Nat} {zs : Nat → Int} {σ : SG} {M : hM} {sz cs ss : Nat} {i : Int} {v5 v6 : Value} (hX : Cok X mL_law) (hst : X.1.2.1.stackTraces = false) (hS : LSc X b L zs) (hi : 0 ≤ i ∧ i + 5 ≤ (L : Int)) (hW : LWs X.2.2.2.2.2 h r bm o σ M) (hV : SV σ) (hcs : cs + 10 ≤ 601024) (hss : ss + 250 ≤ 7293034) (hn : ∀ (σ' : SG) (M' : hM) (sz' : Nat) (w5 w6 : Value), LWs X.2.2.2.2.2 h r bm o σ' M' → SV σ' → G X 2115 [.ref b, .ref h, .ref r, .ref o, .int (iZ i), w5, w6] [] M' sz' (cs + 10) (ss + 250)) : G X 1671 [.ref b, .ref h, .ref r, .ref o, .int (iZ i), v5, v6] [] M sz cs ss := by
  obtain ⟨A, ow, τ, th, P, Q, f, C, B, hH, hB, hco, hdB, hM⟩ := hW
  obtain ⟨hS1, hS2, hS3, hL, hzr⟩ := id hS
  obtain ⟨p1, hp1⟩ : ∃ z, zs (i + 1).toNat = z := ⟨_, rfl⟩
  have rp1 : inR p1 := by rw [← hp1]; exact hzr _
  obtain ⟨p2, hp2⟩ : ∃ z, zs (i + 2).toNat = z := ⟨_, rfl⟩
  have rp2 : inR p2 := by rw [← hp2]; exact hzr _
  have hr : inR (oc_when σ p1 p2).1 := by rcases ocr_when σ p1 p2 with e | e | e <;> rw [e] <;> (constructor <;> omega)
  refine g_eqM hM ?_
  refine g_aload hX dL_law_1671 rfl rfl ?_
  refine g_aload hX dL_law_1672 rfl rfl ?_
  refine g_iload hX dL_law_1673 rfl ?_
  refine g_const hX dL_law_1675 ?_
  refine z_iadd hX dL_law_1676 ?_
  refine z_sld hX hS dL_law_1677 (by omega) (by omega) hp1 ?_
  refine g_aload hX dL_law_1678 rfl rfl ?_
  refine g_iload hX dL_law_1679 rfl ?_
  refine g_const hX dL_law_1681 ?_
  refine z_iadd hX dL_law_1682 ?_
  refine z_sld hX hS dL_law_1683 (by omega) (by omega) hp2 ?_
  refine g_aload hX dL_law_1684 rfl rfl ?_
  refine g_cSXf (As := [.ref h, .int (iZ p1), .int (iZ p2), .ref o]) (rest := []) (c2 := cs + 2) (s2 := ss + 12) hX (s_L_whenAnew hst) dL_law_1685 rfl rfl (by first | exact Nat.le_of_ble_eq_true rfl | simp [cat_rf, Value.category]) ⟨rfl, rfl, (show cs + 2 ≤ 601024 by omega), (show ss + 12 ≤ 7293034 by omega)⟩ hdB ?_
  refine ⟨h, A, ow, σ, τ, p1, p2, o, C, f, rfl, hH, hV, rp1, rp2, hco, rfl, fun A1 ow1 τ1 C1 s1 f1 hH1 hV1 hco1 hf1 hd1 hs1 => Kc_i ?_⟩
  refine g_istore hX dL_law_1688 ?_
  dsimp only [List.set]
  refine g_eqM (jn_comm hd1) ?_
  refine g_aload hX dL_law_1690 rfl rfl ?_
  refine g_aload hX dL_law_1691 rfl rfl ?_
  refine g_iload hX dL_law_1692 rfl ?_
  refine g_const hX dL_law_1694 ?_
  refine z_iadd hX dL_law_1695 ?_
  refine z_sld hX hS dL_law_1696 (by omega) (by omega) hp1 ?_
  refine g_aload hX dL_law_1697 rfl rfl ?_
  refine g_iload hX dL_law_1698 rfl ?_
  refine g_const hX dL_law_1700 ?_
  refine z_iadd hX dL_law_1701 ?_
  refine z_sld hX hS dL_law_1702 (by omega) (by omega) hp2 ?_
  refine g_cVf (As := [.int (iZ p1), .int (iZ p2)]) (rest := []) (c2 := cs + 2) (s2 := ss + 12) hX (s_X10_whenAnew hst) dL_law_1703 hB.2.1 rfl rfl (by first | exact Nat.le_of_ble_eq_true rfl | simp [cat_rf, Value.category]) ⟨rfl, rfl, (show cs + 2 ≤ 601024 by omega), (show ss + 12 ≤ 7293034 by omega)⟩ hd1.symm ?_
  refine ⟨bm, r, σ, th, P, Q, p1, p2, rfl, hB, hV, rp1, rp2, fun P1 Q1 B1 s2 hB1 hV2 hd2 hs2 => Kc_i ?_⟩
  refine g_istore hX dL_law_1706 ?_
  dsimp only [List.set]
  refine g_aload hX dL_law_1708 rfl rfl ?_
  refine g_cVf (As := []) (rest := []) (c2 := cs + 2) (s2 := ss + 12) hX (s_X10_thrown hst) dL_law_1709 hB1.2.1 rfl rfl (by first | exact Nat.le_of_ble_eq_true rfl | simp [cat_rf, Value.category]) ⟨rfl, rfl, (show cs + 2 ≤ 601024 by omega), (show ss + 12 ≤ 7293034 by omega)⟩ hd2 ?_
  refine ⟨bm, r, _, _, P1, Q1, rfl, hB1, hV2, fun hd3 hs3 => Kc_i ?_⟩
  refine g_iload hX dL_law_1712 rfl ?_
  refine g_icmp_eq hX dL_law_1714 (fun _ => ?_) (fun q => absurd rfl q)
  refine g_iload hX dL_law_1719 rfl ?_
  by_cases h0 : (oc_when σ p1 p2).1 = 0
  · refine z_if_ne hX dL_law_1721 hr (fun c => absurd h0 c) (fun _ => ?_)
    refine g_aload hX dL_law_1724 rfl rfl ?_
    refine g_const hX dL_law_1725 ?_
    refine g_lald hX dL_law_1726 (jn_f (jn_f (sg_s o f1))) vin_0 ?_
    have e9 : f1 (iZ 0).toNatClampNeg = (iZ (oc_when σ p1 p2).2.1).toInt64 := by rw [z_cl inR0]; exact hf1 h0
    rw [e9]
    refine g_iload hX dL_law_1727 rfl ?_
    refine g_i2l hX dL_law_1729 ?_
    refine g_lcmp hX dL_law_1730 ?_
    refine g_if_eq hX dL_law_1731 (fun _ => ?_) (fun q => absurd (lgc_self _) q)
    refine g_goto hX dL_law_1736 ?_
    exact g_wide (by omega) (by omega) (hn _ _ _ _ _ ⟨A1, ow1, τ1, _, P1, Q1, f1, C1, B1, hH1, hB1, hco1, hd2.symm, fun q => jn_comm hd2 q⟩ hV1)
  · refine z_if_ne hX dL_law_1721 hr (fun _ => ?_) (fun c => absurd c h0)
    refine g_goto hX dL_law_1736 ?_
    exact g_wide (by omega) (by omega) (hn _ _ _ _ _ ⟨A1, ow1, τ1, _, P1, Q1, f1, C1, B1, hH1, hB1, hco1, hd2.symm, fun q => jn_comm hd2 q⟩ hV1)

theorem law_theme {X : hX} {b L h r bm o : Nat} {zs : Nat → Int} {σ : SG} {M : hM} {sz cs ss : Nat} {i : Int} {v5 v6 : Value} (hX : Cok X mL_law) (hst : X.1.2.1.stackTraces = false) (hS : LSc X b L zs) (hi : 0 ≤ i ∧ i + 5 ≤ (L : Int)) (hW : LWs X.2.2.2.2.2 h r bm o σ M) (hV : SV σ) (hcs : cs + 10 ≤ 601024) (hss : ss + 250 ≤ 7293034) (hn : ∀ (σ' : SG) (M' : hM) (sz' : Nat) (w5 w6 : Value), LWs X.2.2.2.2.2 h r bm o σ' M' → SV σ' → G X 2115 [.ref b, .ref h, .ref r, .ref o, .int (iZ i), w5, w6] [] M' sz' (cs + 10) (ss + 250)) : G X 1739 [.ref b, .ref h, .ref r, .ref o, .int (iZ i), v5, v6] [] M sz cs ss := by
  obtain ⟨A, ow, τ, th, P, Q, f, C, B, hH, hB, hco, hdB, hM⟩ := hW
  obtain ⟨hS1, hS2, hS3, hL, hzr⟩ := id hS
  obtain ⟨p1, hp1⟩ : ∃ z, zs (i + 1).toNat = z := ⟨_, rfl⟩
  have rp1 : inR p1 := by rw [← hp1]; exact hzr _
  obtain ⟨p2, hp2⟩ : ∃ z, zs (i + 2).toNat = z := ⟨_, rfl⟩
  have rp2 : inR p2 := by rw [← hp2]; exact hzr _
  obtain ⟨p3, hp3⟩ : ∃ z, zs (i + 3).toNat = z := ⟨_, rfl⟩
  have rp3 : inR p3 := by rw [← hp3]; exact hzr _
  have hr : inR (oc_theme σ p1 p2 p3).1 := by rcases ocr_theme σ p1 p2 p3 with e | e <;> rw [e] <;> (constructor <;> omega)
  refine g_eqM hM ?_
  refine g_aload hX dL_law_1739 rfl rfl ?_
  refine g_aload hX dL_law_1740 rfl rfl ?_
  refine g_iload hX dL_law_1741 rfl ?_
  refine g_const hX dL_law_1743 ?_
  refine z_iadd hX dL_law_1744 ?_
  refine z_sld hX hS dL_law_1745 (by omega) (by omega) hp1 ?_
  refine g_aload hX dL_law_1746 rfl rfl ?_
  refine g_iload hX dL_law_1747 rfl ?_
  refine g_const hX dL_law_1749 ?_
  refine z_iadd hX dL_law_1750 ?_
  refine z_sld hX hS dL_law_1751 (by omega) (by omega) hp2 ?_
  refine g_aload hX dL_law_1752 rfl rfl ?_
  refine g_iload hX dL_law_1753 rfl ?_
  refine g_const hX dL_law_1755 ?_
  refine z_iadd hX dL_law_1756 ?_
  refine z_sld hX hS dL_law_1757 (by omega) (by omega) hp3 ?_
  refine g_aload hX dL_law_1758 rfl rfl ?_
  refine g_cSXf (As := [.ref h, .int (iZ p1), .int (iZ p2), .int (iZ p3), .ref o]) (rest := []) (c2 := cs + 3) (s2 := ss + 18) hX (s_L_theme hst) dL_law_1759 rfl rfl (by first | exact Nat.le_of_ble_eq_true rfl | simp [cat_rf, Value.category]) ⟨rfl, rfl, (show cs + 3 ≤ 601024 by omega), (show ss + 18 ≤ 7293034 by omega)⟩ hdB ?_
  refine ⟨h, A, ow, σ, τ, p1, p2, p3, o, C, f, rfl, hH, hV, rp1, rp2, rp3, hco, rfl, fun A1 ow1 τ1 C1 s1 f1 hH1 hV1 hco1 hf1 hd1 hs1 => Kc_i ?_⟩
  refine g_istore hX dL_law_1762 ?_
  dsimp only [List.set]
  refine g_eqM (jn_comm hd1) ?_
  refine g_aload hX dL_law_1764 rfl rfl ?_
  refine g_aload hX dL_law_1765 rfl rfl ?_
  refine g_iload hX dL_law_1766 rfl ?_
  refine g_const hX dL_law_1768 ?_
  refine z_iadd hX dL_law_1769 ?_
  refine z_sld hX hS dL_law_1770 (by omega) (by omega) hp1 ?_
  refine g_aload hX dL_law_1771 rfl rfl ?_
  refine g_iload hX dL_law_1772 rfl ?_
  refine g_const hX dL_law_1774 ?_
  refine z_iadd hX dL_law_1775 ?_
  refine z_sld hX hS dL_law_1776 (by omega) (by omega) hp2 ?_
  refine g_aload hX dL_law_1777 rfl rfl ?_
  refine g_iload hX dL_law_1778 rfl ?_
  refine g_const hX dL_law_1780 ?_
  refine z_iadd hX dL_law_1781 ?_
  refine z_sld hX hS dL_law_1782 (by omega) (by omega) hp3 ?_
  refine g_cVf (As := [.int (iZ p1), .int (iZ p2), .int (iZ p3)]) (rest := []) (c2 := cs + 3) (s2 := ss + 18) hX (s_X10_theme hst) dL_law_1783 hB.2.1 rfl rfl (by first | exact Nat.le_of_ble_eq_true rfl | simp [cat_rf, Value.category]) ⟨rfl, rfl, (show cs + 3 ≤ 601024 by omega), (show ss + 18 ≤ 7293034 by omega)⟩ hd1.symm ?_
  refine ⟨bm, r, σ, th, P, Q, p1, p2, p3, rfl, hB, hV, rp1, rp2, rp3, fun P1 Q1 B1 s2 hB1 hV2 hd2 hs2 => Kc_i ?_⟩
  refine g_istore hX dL_law_1786 ?_
  dsimp only [List.set]
  refine g_aload hX dL_law_1788 rfl rfl ?_
  refine g_cVf (As := []) (rest := []) (c2 := cs + 3) (s2 := ss + 18) hX (s_X10_thrown hst) dL_law_1789 hB1.2.1 rfl rfl (by first | exact Nat.le_of_ble_eq_true rfl | simp [cat_rf, Value.category]) ⟨rfl, rfl, (show cs + 3 ≤ 601024 by omega), (show ss + 18 ≤ 7293034 by omega)⟩ hd2 ?_
  refine ⟨bm, r, _, _, P1, Q1, rfl, hB1, hV2, fun hd3 hs3 => Kc_i ?_⟩
  refine g_iload hX dL_law_1792 rfl ?_
  refine g_icmp_eq hX dL_law_1794 (fun _ => ?_) (fun q => absurd rfl q)
  refine g_iload hX dL_law_1799 rfl ?_
  by_cases h0 : (oc_theme σ p1 p2 p3).1 = 0
  · refine z_if_ne hX dL_law_1801 hr (fun c => absurd h0 c) (fun _ => ?_)
    refine g_aload hX dL_law_1804 rfl rfl ?_
    refine g_const hX dL_law_1805 ?_
    refine g_lald hX dL_law_1806 (jn_f (jn_f (sg_s o f1))) vin_0 ?_
    have e9 : f1 (iZ 0).toNatClampNeg = (iZ (oc_theme σ p1 p2 p3).2.1).toInt64 := by rw [z_cl inR0]; exact hf1 h0
    rw [e9]
    refine g_iload hX dL_law_1807 rfl ?_
    refine g_i2l hX dL_law_1809 ?_
    refine g_lcmp hX dL_law_1810 ?_
    refine g_if_eq hX dL_law_1811 (fun _ => ?_) (fun q => absurd (lgc_self _) q)
    refine g_goto hX dL_law_1816 ?_
    exact g_wide (by omega) (by omega) (hn _ _ _ _ _ ⟨A1, ow1, τ1, _, P1, Q1, f1, C1, B1, hH1, hB1, hco1, hd2.symm, fun q => jn_comm hd2 q⟩ hV1)
  · refine z_if_ne hX dL_law_1801 hr (fun _ => ?_) (fun c => absurd c h0)
    refine g_goto hX dL_law_1816 ?_
    exact g_wide (by omega) (by omega) (hn _ _ _ _ _ ⟨A1, ow1, τ1, _, P1, Q1, f1, C1, B1, hH1, hB1, hco1, hd2.symm, fun q => jn_comm hd2 q⟩ hV1)

theorem law_why {X : hX} {b L h r bm o : Nat} {zs : Nat → Int} {σ : SG} {M : hM} {sz cs ss : Nat} {i : Int} {v5 v6 : Value} (hX : Cok X mL_law) (hst : X.1.2.1.stackTraces = false) (hS : LSc X b L zs) (hi : 0 ≤ i ∧ i + 5 ≤ (L : Int)) (hW : LWs X.2.2.2.2.2 h r bm o σ M) (hV : SV σ) (hcs : cs + 10 ≤ 601024) (hss : ss + 250 ≤ 7293034) (hn : ∀ (σ' : SG) (M' : hM) (sz' : Nat) (w5 w6 : Value), LWs X.2.2.2.2.2 h r bm o σ' M' → SV σ' → G X 2115 [.ref b, .ref h, .ref r, .ref o, .int (iZ i), w5, w6] [] M' sz' (cs + 10) (ss + 250)) : G X 1819 [.ref b, .ref h, .ref r, .ref o, .int (iZ i), v5, v6] [] M sz cs ss := by
  obtain ⟨A, ow, τ, th, P, Q, f, C, B, hH, hB, hco, hdB, hM⟩ := hW
  obtain ⟨hS1, hS2, hS3, hL, hzr⟩ := id hS
  obtain ⟨p1, hp1⟩ : ∃ z, zs (i + 1).toNat = z := ⟨_, rfl⟩
  have rp1 : inR p1 := by rw [← hp1]; exact hzr _
  obtain ⟨p2, hp2⟩ : ∃ z, zs (i + 2).toNat = z := ⟨_, rfl⟩
  have rp2 : inR p2 := by rw [← hp2]; exact hzr _
  obtain ⟨p3, hp3⟩ : ∃ z, zs (i + 3).toNat = z := ⟨_, rfl⟩
  have rp3 : inR p3 := by rw [← hp3]; exact hzr _
  obtain ⟨p4, hp4⟩ : ∃ z, zs (i + 4).toNat = z := ⟨_, rfl⟩
  have rp4 : inR p4 := by rw [← hp4]; exact hzr _
  have hr : inR (oc_why σ p1 p2 p3 p4).1 := by rcases ocr_why σ p1 p2 p3 p4 with e | e | e | e <;> rw [e] <;> (constructor <;> omega)
  refine g_eqM hM ?_
  refine g_aload hX dL_law_1819 rfl rfl ?_
  refine g_aload hX dL_law_1820 rfl rfl ?_
  refine g_iload hX dL_law_1821 rfl ?_
  refine g_const hX dL_law_1823 ?_
  refine z_iadd hX dL_law_1824 ?_
  refine z_sld hX hS dL_law_1825 (by omega) (by omega) hp1 ?_
  refine g_aload hX dL_law_1826 rfl rfl ?_
  refine g_iload hX dL_law_1827 rfl ?_
  refine g_const hX dL_law_1829 ?_
  refine z_iadd hX dL_law_1830 ?_
  refine z_sld hX hS dL_law_1831 (by omega) (by omega) hp2 ?_
  refine g_aload hX dL_law_1832 rfl rfl ?_
  refine g_iload hX dL_law_1833 rfl ?_
  refine g_const hX dL_law_1835 ?_
  refine z_iadd hX dL_law_1836 ?_
  refine z_sld hX hS dL_law_1837 (by omega) (by omega) hp3 ?_
  refine g_aload hX dL_law_1838 rfl rfl ?_
  refine g_iload hX dL_law_1839 rfl ?_
  refine g_const hX dL_law_1841 ?_
  refine z_iadd hX dL_law_1842 ?_
  refine z_sld hX hS dL_law_1843 (by omega) (by omega) hp4 ?_
  refine g_aload hX dL_law_1844 rfl rfl ?_
  refine g_cSXf (As := [.ref h, .int (iZ p1), .int (iZ p2), .int (iZ p3), .int (iZ p4), .ref o]) (rest := []) (c2 := cs + 5) (s2 := ss + 30) hX (s_L_why hst) dL_law_1845 rfl rfl (by first | exact Nat.le_of_ble_eq_true rfl | simp [cat_rf, Value.category]) ⟨rfl, rfl, (show cs + 5 ≤ 601024 by omega), (show ss + 30 ≤ 7293034 by omega)⟩ hdB ?_
  refine ⟨h, A, ow, σ, τ, p1, p2, p3, p4, o, C, f, rfl, hH, hV, rp1, rp2, rp3, rp4, hco, rfl, fun A1 ow1 τ1 C1 s1 f1 hH1 hV1 hco1 hf1 hd1 hs1 => Kc_i ?_⟩
  refine g_istore hX dL_law_1848 ?_
  dsimp only [List.set]
  refine g_eqM (jn_comm hd1) ?_
  refine g_aload hX dL_law_1850 rfl rfl ?_
  refine g_aload hX dL_law_1851 rfl rfl ?_
  refine g_iload hX dL_law_1852 rfl ?_
  refine g_const hX dL_law_1854 ?_
  refine z_iadd hX dL_law_1855 ?_
  refine z_sld hX hS dL_law_1856 (by omega) (by omega) hp1 ?_
  refine g_aload hX dL_law_1857 rfl rfl ?_
  refine g_iload hX dL_law_1858 rfl ?_
  refine g_const hX dL_law_1860 ?_
  refine z_iadd hX dL_law_1861 ?_
  refine z_sld hX hS dL_law_1862 (by omega) (by omega) hp2 ?_
  refine g_aload hX dL_law_1863 rfl rfl ?_
  refine g_iload hX dL_law_1864 rfl ?_
  refine g_const hX dL_law_1866 ?_
  refine z_iadd hX dL_law_1867 ?_
  refine z_sld hX hS dL_law_1868 (by omega) (by omega) hp3 ?_
  refine g_aload hX dL_law_1869 rfl rfl ?_
  refine g_iload hX dL_law_1870 rfl ?_
  refine g_const hX dL_law_1872 ?_
  refine z_iadd hX dL_law_1873 ?_
  refine z_sld hX hS dL_law_1874 (by omega) (by omega) hp4 ?_
  refine g_cVf (As := [.int (iZ p1), .int (iZ p2), .int (iZ p3), .int (iZ p4)]) (rest := []) (c2 := cs + 5) (s2 := ss + 30) hX (s_X10_why hst) dL_law_1875 hB.2.1 rfl rfl (by first | exact Nat.le_of_ble_eq_true rfl | simp [cat_rf, Value.category]) ⟨rfl, rfl, (show cs + 5 ≤ 601024 by omega), (show ss + 30 ≤ 7293034 by omega)⟩ hd1.symm ?_
  refine ⟨bm, r, σ, th, P, Q, p1, p2, p3, p4, rfl, hB, hV, rp1, rp2, rp3, rp4, fun P1 Q1 B1 s2 hB1 hV2 hd2 hs2 => Kc_i ?_⟩
  refine g_istore hX dL_law_1878 ?_
  dsimp only [List.set]
  refine g_aload hX dL_law_1880 rfl rfl ?_
  refine g_cVf (As := []) (rest := []) (c2 := cs + 5) (s2 := ss + 30) hX (s_X10_thrown hst) dL_law_1881 hB1.2.1 rfl rfl (by first | exact Nat.le_of_ble_eq_true rfl | simp [cat_rf, Value.category]) ⟨rfl, rfl, (show cs + 5 ≤ 601024 by omega), (show ss + 30 ≤ 7293034 by omega)⟩ hd2 ?_
  refine ⟨bm, r, _, _, P1, Q1, rfl, hB1, hV2, fun hd3 hs3 => Kc_i ?_⟩
  refine g_iload hX dL_law_1884 rfl ?_
  refine g_icmp_eq hX dL_law_1886 (fun _ => ?_) (fun q => absurd rfl q)
  refine g_iload hX dL_law_1891 rfl ?_
  by_cases h0 : (oc_why σ p1 p2 p3 p4).1 = 0
  · refine z_if_ne hX dL_law_1893 hr (fun c => absurd h0 c) (fun _ => ?_)
    refine g_aload hX dL_law_1896 rfl rfl ?_
    refine g_const hX dL_law_1897 ?_
    refine g_lald hX dL_law_1898 (jn_f (jn_f (sg_s o f1))) vin_0 ?_
    have e9 : f1 (iZ 0).toNatClampNeg = (iZ (oc_why σ p1 p2 p3 p4).2.1).toInt64 := by rw [z_cl inR0]; exact hf1 h0
    rw [e9]
    refine g_iload hX dL_law_1899 rfl ?_
    refine g_i2l hX dL_law_1901 ?_
    refine g_lcmp hX dL_law_1902 ?_
    refine g_if_eq hX dL_law_1903 (fun _ => ?_) (fun q => absurd (lgc_self _) q)
    refine g_goto hX dL_law_1908 ?_
    exact g_wide (by omega) (by omega) (hn _ _ _ _ _ ⟨A1, ow1, τ1, _, P1, Q1, f1, C1, B1, hH1, hB1, hco1, hd2.symm, fun q => jn_comm hd2 q⟩ hV1)
  · refine z_if_ne hX dL_law_1893 hr (fun _ => ?_) (fun c => absurd c h0)
    refine g_goto hX dL_law_1908 ?_
    exact g_wide (by omega) (by omega) (hn _ _ _ _ _ ⟨A1, ow1, τ1, _, P1, Q1, f1, C1, B1, hH1, hB1, hco1, hd2.symm, fun q => jn_comm hd2 q⟩ hV1)

theorem law_sing {X : hX} {b L h r bm o : Nat} {zs : Nat → Int} {σ : SG} {M : hM} {sz cs ss : Nat} {i : Int} {v5 v6 : Value} (hX : Cok X mL_law) (hst : X.1.2.1.stackTraces = false) (hS : LSc X b L zs) (hi : 0 ≤ i ∧ i + 5 ≤ (L : Int)) (hW : LWs X.2.2.2.2.2 h r bm o σ M) (hV : SV σ) (hcs : cs + 10 ≤ 601024) (hss : ss + 250 ≤ 7293034) (hn : ∀ (σ' : SG) (M' : hM) (sz' : Nat) (w5 w6 : Value), LWs X.2.2.2.2.2 h r bm o σ' M' → SV σ' → G X 2115 [.ref b, .ref h, .ref r, .ref o, .int (iZ i), w5, w6] [] M' sz' (cs + 10) (ss + 250)) : G X 1911 [.ref b, .ref h, .ref r, .ref o, .int (iZ i), v5, v6] [] M sz cs ss := by
  obtain ⟨A, ow, τ, th, P, Q, f, C, B, hH, hB, hco, hdB, hM⟩ := hW
  obtain ⟨hS1, hS2, hS3, hL, hzr⟩ := id hS
  obtain ⟨p1, hp1⟩ : ∃ z, zs (i + 1).toNat = z := ⟨_, rfl⟩
  have rp1 : inR p1 := by rw [← hp1]; exact hzr _
  obtain ⟨p2, hp2⟩ : ∃ z, zs (i + 2).toNat = z := ⟨_, rfl⟩
  have rp2 : inR p2 := by rw [← hp2]; exact hzr _
  obtain ⟨p3, hp3⟩ : ∃ z, zs (i + 3).toNat = z := ⟨_, rfl⟩
  have rp3 : inR p3 := by rw [← hp3]; exact hzr _
  have hr : inR (oc_sing σ p1 p2 p3).1 := by rcases ocr_sing σ p1 p2 p3 with e | e | e <;> rw [e] <;> (constructor <;> omega)
  refine g_eqM hM ?_
  refine g_aload hX dL_law_1911 rfl rfl ?_
  refine g_aload hX dL_law_1912 rfl rfl ?_
  refine g_iload hX dL_law_1913 rfl ?_
  refine g_const hX dL_law_1915 ?_
  refine z_iadd hX dL_law_1916 ?_
  refine z_sld hX hS dL_law_1917 (by omega) (by omega) hp1 ?_
  refine g_aload hX dL_law_1918 rfl rfl ?_
  refine g_iload hX dL_law_1919 rfl ?_
  refine g_const hX dL_law_1921 ?_
  refine z_iadd hX dL_law_1922 ?_
  refine z_sld hX hS dL_law_1923 (by omega) (by omega) hp2 ?_
  refine g_aload hX dL_law_1924 rfl rfl ?_
  refine g_iload hX dL_law_1925 rfl ?_
  refine g_const hX dL_law_1927 ?_
  refine z_iadd hX dL_law_1928 ?_
  refine z_sld hX hS dL_law_1929 (by omega) (by omega) hp3 ?_
  refine g_aload hX dL_law_1930 rfl rfl ?_
  refine g_cSXf (As := [.ref h, .int (iZ p1), .int (iZ p2), .int (iZ p3), .ref o]) (rest := []) (c2 := cs + 8) (s2 := ss + 241) hX (s_L_sing hst) dL_law_1931 rfl rfl (by first | exact Nat.le_of_ble_eq_true rfl | simp [cat_rf, Value.category]) ⟨rfl, rfl, (show cs + 8 ≤ 601024 by omega), (show ss + 241 ≤ 7293034 by omega)⟩ hdB ?_
  refine ⟨h, A, ow, σ, τ, p1, p2, p3, o, C, f, rfl, hH, hV, rp1, rp2, rp3, hco, rfl, fun A1 ow1 τ1 C1 s1 f1 hH1 hV1 hco1 hf1 hd1 hs1 => Kc_i ?_⟩
  refine g_istore hX dL_law_1934 ?_
  dsimp only [List.set]
  refine g_eqM (jn_comm hd1) ?_
  refine g_aload hX dL_law_1936 rfl rfl ?_
  refine g_aload hX dL_law_1937 rfl rfl ?_
  refine g_iload hX dL_law_1938 rfl ?_
  refine g_const hX dL_law_1940 ?_
  refine z_iadd hX dL_law_1941 ?_
  refine z_sld hX hS dL_law_1942 (by omega) (by omega) hp1 ?_
  refine g_aload hX dL_law_1943 rfl rfl ?_
  refine g_iload hX dL_law_1944 rfl ?_
  refine g_const hX dL_law_1946 ?_
  refine z_iadd hX dL_law_1947 ?_
  refine z_sld hX hS dL_law_1948 (by omega) (by omega) hp2 ?_
  refine g_aload hX dL_law_1949 rfl rfl ?_
  refine g_iload hX dL_law_1950 rfl ?_
  refine g_const hX dL_law_1952 ?_
  refine z_iadd hX dL_law_1953 ?_
  refine z_sld hX hS dL_law_1954 (by omega) (by omega) hp3 ?_
  refine g_cVf (As := [.int (iZ p1), .int (iZ p2), .int (iZ p3)]) (rest := []) (c2 := cs + 8) (s2 := ss + 241) hX (s_X10_sing hst) dL_law_1955 hB.2.1 rfl rfl (by first | exact Nat.le_of_ble_eq_true rfl | simp [cat_rf, Value.category]) ⟨rfl, rfl, (show cs + 8 ≤ 601024 by omega), (show ss + 241 ≤ 7293034 by omega)⟩ hd1.symm ?_
  refine ⟨bm, r, σ, th, P, Q, p1, p2, p3, rfl, hB, hV, rp1, rp2, rp3, fun P1 Q1 B1 s2 hB1 hV2 hd2 hs2 => Kc_i ?_⟩
  refine g_istore hX dL_law_1958 ?_
  dsimp only [List.set]
  refine g_aload hX dL_law_1960 rfl rfl ?_
  refine g_cVf (As := []) (rest := []) (c2 := cs + 8) (s2 := ss + 241) hX (s_X10_thrown hst) dL_law_1961 hB1.2.1 rfl rfl (by first | exact Nat.le_of_ble_eq_true rfl | simp [cat_rf, Value.category]) ⟨rfl, rfl, (show cs + 8 ≤ 601024 by omega), (show ss + 241 ≤ 7293034 by omega)⟩ hd2 ?_
  refine ⟨bm, r, _, _, P1, Q1, rfl, hB1, hV2, fun hd3 hs3 => Kc_i ?_⟩
  refine g_iload hX dL_law_1964 rfl ?_
  refine g_icmp_eq hX dL_law_1966 (fun _ => ?_) (fun q => absurd rfl q)
  refine g_iload hX dL_law_1971 rfl ?_
  by_cases h0 : (oc_sing σ p1 p2 p3).1 = 0
  · refine z_if_ne hX dL_law_1973 hr (fun c => absurd h0 c) (fun _ => ?_)
    refine g_aload hX dL_law_1976 rfl rfl ?_
    refine g_const hX dL_law_1977 ?_
    refine g_lald hX dL_law_1978 (jn_f (jn_f (sg_s o f1))) vin_0 ?_
    have e9 : f1 (iZ 0).toNatClampNeg = (iZ (oc_sing σ p1 p2 p3).2.1).toInt64 := by rw [z_cl inR0]; exact hf1 h0
    rw [e9]
    refine g_iload hX dL_law_1979 rfl ?_
    refine g_i2l hX dL_law_1981 ?_
    refine g_lcmp hX dL_law_1982 ?_
    refine g_if_eq hX dL_law_1983 (fun _ => ?_) (fun q => absurd (lgc_self _) q)
    refine g_goto hX dL_law_1988 ?_
    exact g_wide (by omega) (by omega) (hn _ _ _ _ _ ⟨A1, ow1, τ1, _, P1, Q1, f1, C1, B1, hH1, hB1, hco1, hd2.symm, fun q => jn_comm hd2 q⟩ hV1)
  · refine z_if_ne hX dL_law_1973 hr (fun _ => ?_) (fun c => absurd c h0)
    refine g_goto hX dL_law_1988 ?_
    exact g_wide (by omega) (by omega) (hn _ _ _ _ _ ⟨A1, ow1, τ1, _, P1, Q1, f1, C1, B1, hH1, hB1, hco1, hd2.symm, fun q => jn_comm hd2 q⟩ hV1)

theorem law_service {X : hX} {b L h r bm o : Nat} {zs : Nat → Int} {σ : SG} {M : hM} {sz cs ss : Nat} {i : Int} {v5 v6 : Value} (hX : Cok X mL_law) (hst : X.1.2.1.stackTraces = false) (hS : LSc X b L zs) (hi : 0 ≤ i ∧ i + 5 ≤ (L : Int)) (hW : LWs X.2.2.2.2.2 h r bm o σ M) (hV : SV σ) (hcs : cs + 10 ≤ 601024) (hss : ss + 250 ≤ 7293034) (hn : ∀ (σ' : SG) (M' : hM) (sz' : Nat) (w5 w6 : Value), LWs X.2.2.2.2.2 h r bm o σ' M' → SV σ' → G X 2115 [.ref b, .ref h, .ref r, .ref o, .int (iZ i), w5, w6] [] M' sz' (cs + 10) (ss + 250)) : G X 1991 [.ref b, .ref h, .ref r, .ref o, .int (iZ i), v5, v6] [] M sz cs ss := by
  obtain ⟨A, ow, τ, th, P, Q, f, C, B, hH, hB, hco, hdB, hM⟩ := hW
  obtain ⟨hS1, hS2, hS3, hL, hzr⟩ := id hS
  obtain ⟨p1, hp1⟩ : ∃ z, zs (i + 1).toNat = z := ⟨_, rfl⟩
  have rp1 : inR p1 := by rw [← hp1]; exact hzr _
  obtain ⟨p2, hp2⟩ : ∃ z, zs (i + 2).toNat = z := ⟨_, rfl⟩
  have rp2 : inR p2 := by rw [← hp2]; exact hzr _
  have hr : inR (oc_service σ p1 p2).1 := by rcases ocr_service σ p1 p2 with e | e | e <;> rw [e] <;> (constructor <;> omega)
  refine g_eqM hM ?_
  refine g_aload hX dL_law_1991 rfl rfl ?_
  refine g_aload hX dL_law_1992 rfl rfl ?_
  refine g_iload hX dL_law_1993 rfl ?_
  refine g_const hX dL_law_1995 ?_
  refine z_iadd hX dL_law_1996 ?_
  refine z_sld hX hS dL_law_1997 (by omega) (by omega) hp1 ?_
  refine g_aload hX dL_law_1998 rfl rfl ?_
  refine g_iload hX dL_law_1999 rfl ?_
  refine g_const hX dL_law_2001 ?_
  refine z_iadd hX dL_law_2002 ?_
  refine z_sld hX hS dL_law_2003 (by omega) (by omega) hp2 ?_
  refine g_aload hX dL_law_2004 rfl rfl ?_
  refine g_cSXf (As := [.ref h, .int (iZ p1), .int (iZ p2), .ref o]) (rest := []) (c2 := cs + 2) (s2 := ss + 12) hX (s_L_service hst) dL_law_2005 rfl rfl (by first | exact Nat.le_of_ble_eq_true rfl | simp [cat_rf, Value.category]) ⟨rfl, rfl, (show cs + 2 ≤ 601024 by omega), (show ss + 12 ≤ 7293034 by omega)⟩ hdB ?_
  refine ⟨h, A, ow, σ, τ, p1, p2, o, C, f, rfl, hH, hV, rp1, rp2, hco, rfl, fun A1 ow1 τ1 C1 s1 f1 hH1 hV1 hco1 hf1 hd1 hs1 => Kc_i ?_⟩
  refine g_istore hX dL_law_2008 ?_
  dsimp only [List.set]
  refine g_eqM (jn_comm hd1) ?_
  refine g_aload hX dL_law_2010 rfl rfl ?_
  refine g_aload hX dL_law_2011 rfl rfl ?_
  refine g_iload hX dL_law_2012 rfl ?_
  refine g_const hX dL_law_2014 ?_
  refine z_iadd hX dL_law_2015 ?_
  refine z_sld hX hS dL_law_2016 (by omega) (by omega) hp1 ?_
  refine g_aload hX dL_law_2017 rfl rfl ?_
  refine g_iload hX dL_law_2018 rfl ?_
  refine g_const hX dL_law_2020 ?_
  refine z_iadd hX dL_law_2021 ?_
  refine z_sld hX hS dL_law_2022 (by omega) (by omega) hp2 ?_
  refine g_cVf (As := [.int (iZ p1), .int (iZ p2)]) (rest := []) (c2 := cs + 2) (s2 := ss + 12) hX (s_X10_service hst) dL_law_2023 hB.2.1 rfl rfl (by first | exact Nat.le_of_ble_eq_true rfl | simp [cat_rf, Value.category]) ⟨rfl, rfl, (show cs + 2 ≤ 601024 by omega), (show ss + 12 ≤ 7293034 by omega)⟩ hd1.symm ?_
  refine ⟨bm, r, σ, th, P, Q, p1, p2, rfl, hB, hV, rp1, rp2, fun P1 Q1 B1 s2 hB1 hV2 hd2 hs2 => Kc_i ?_⟩
  refine g_istore hX dL_law_2026 ?_
  dsimp only [List.set]
  refine g_aload hX dL_law_2028 rfl rfl ?_
  refine g_cVf (As := []) (rest := []) (c2 := cs + 2) (s2 := ss + 12) hX (s_X10_thrown hst) dL_law_2029 hB1.2.1 rfl rfl (by first | exact Nat.le_of_ble_eq_true rfl | simp [cat_rf, Value.category]) ⟨rfl, rfl, (show cs + 2 ≤ 601024 by omega), (show ss + 12 ≤ 7293034 by omega)⟩ hd2 ?_
  refine ⟨bm, r, _, _, P1, Q1, rfl, hB1, hV2, fun hd3 hs3 => Kc_i ?_⟩
  refine g_iload hX dL_law_2032 rfl ?_
  refine g_icmp_eq hX dL_law_2034 (fun _ => ?_) (fun q => absurd rfl q)
  refine g_iload hX dL_law_2039 rfl ?_
  by_cases h0 : (oc_service σ p1 p2).1 = 0
  · refine z_if_ne hX dL_law_2041 hr (fun c => absurd h0 c) (fun _ => ?_)
    refine g_aload hX dL_law_2044 rfl rfl ?_
    refine g_const hX dL_law_2045 ?_
    refine g_lald hX dL_law_2046 (jn_f (jn_f (sg_s o f1))) vin_0 ?_
    have e9 : f1 (iZ 0).toNatClampNeg = (iZ (oc_service σ p1 p2).2.1).toInt64 := by rw [z_cl inR0]; exact hf1 h0
    rw [e9]
    refine g_iload hX dL_law_2047 rfl ?_
    refine g_i2l hX dL_law_2049 ?_
    refine g_lcmp hX dL_law_2050 ?_
    refine g_if_eq hX dL_law_2051 (fun _ => ?_) (fun q => absurd (lgc_self _) q)
    refine g_goto hX dL_law_2056 ?_
    exact g_wide (by omega) (by omega) (hn _ _ _ _ _ ⟨A1, ow1, τ1, _, P1, Q1, f1, C1, B1, hH1, hB1, hco1, hd2.symm, fun q => jn_comm hd2 q⟩ hV1)
  · refine z_if_ne hX dL_law_2041 hr (fun _ => ?_) (fun c => absurd c h0)
    refine g_goto hX dL_law_2056 ?_
    exact g_wide (by omega) (by omega) (hn _ _ _ _ _ ⟨A1, ow1, τ1, _, P1, Q1, f1, C1, B1, hH1, hB1, hco1, hd2.symm, fun q => jn_comm hd2 q⟩ hV1)

theorem law_sung {X : hX} {b L h r bm o : Nat} {zs : Nat → Int} {σ : SG} {M : hM} {sz cs ss : Nat} {i : Int} {v5 v6 : Value} (hX : Cok X mL_law) (hst : X.1.2.1.stackTraces = false) (hS : LSc X b L zs) (hi : 0 ≤ i ∧ i + 5 ≤ (L : Int)) (hW : LWs X.2.2.2.2.2 h r bm o σ M) (hV : SV σ) (hcs : cs + 10 ≤ 601024) (hss : ss + 250 ≤ 7293034) (hn : ∀ (σ' : SG) (M' : hM) (sz' : Nat) (w5 w6 : Value), LWs X.2.2.2.2.2 h r bm o σ' M' → SV σ' → G X 2115 [.ref b, .ref h, .ref r, .ref o, .int (iZ i), w5, w6] [] M' sz' (cs + 10) (ss + 250)) : G X 2059 [.ref b, .ref h, .ref r, .ref o, .int (iZ i), v5, v6] [] M sz cs ss := by
  obtain ⟨A, ow, τ, th, P, Q, f, C, B, hH, hB, hco, hdB, hM⟩ := hW
  obtain ⟨hS1, hS2, hS3, hL, hzr⟩ := id hS
  obtain ⟨p1, hp1⟩ : ∃ z, zs (i + 1).toNat = z := ⟨_, rfl⟩
  have rp1 : inR p1 := by rw [← hp1]; exact hzr _
  have hr : inR (oc_sung σ p1).1 := by rcases ocr_sung σ p1 with e | e <;> rw [e] <;> (constructor <;> omega)
  refine g_eqM hM ?_
  refine g_aload hX dL_law_2059 rfl rfl ?_
  refine g_aload hX dL_law_2060 rfl rfl ?_
  refine g_iload hX dL_law_2061 rfl ?_
  refine g_const hX dL_law_2063 ?_
  refine z_iadd hX dL_law_2064 ?_
  refine z_sld hX hS dL_law_2065 (by omega) (by omega) hp1 ?_
  refine g_aload hX dL_law_2066 rfl rfl ?_
  refine g_cSXf (As := [.ref h, .int (iZ p1), .ref o]) (rest := []) (c2 := cs + 1) (s2 := ss + 6) hX (s_L_sung hst) dL_law_2067 rfl rfl (by first | exact Nat.le_of_ble_eq_true rfl | simp [cat_rf, Value.category]) ⟨rfl, rfl, (show cs + 1 ≤ 601024 by omega), (show ss + 6 ≤ 7293034 by omega)⟩ hdB ?_
  refine ⟨h, A, ow, σ, τ, p1, o, C, f, rfl, hH, hV, rp1, hco, rfl, fun A1 ow1 τ1 C1 s1 f1 hH1 hV1 hco1 hf1 hd1 hs1 => Kc_i ?_⟩
  refine g_istore hX dL_law_2070 ?_
  dsimp only [List.set]
  refine g_eqM (jn_comm hd1) ?_
  refine g_aload hX dL_law_2072 rfl rfl ?_
  refine g_aload hX dL_law_2073 rfl rfl ?_
  refine g_iload hX dL_law_2074 rfl ?_
  refine g_const hX dL_law_2076 ?_
  refine z_iadd hX dL_law_2077 ?_
  refine z_sld hX hS dL_law_2078 (by omega) (by omega) hp1 ?_
  refine g_cVf (As := [.int (iZ p1)]) (rest := []) (c2 := cs + 1) (s2 := ss + 6) hX (s_X10_sung hst) dL_law_2079 hB.2.1 rfl rfl (by first | exact Nat.le_of_ble_eq_true rfl | simp [cat_rf, Value.category]) ⟨rfl, rfl, (show cs + 1 ≤ 601024 by omega), (show ss + 6 ≤ 7293034 by omega)⟩ hd1.symm ?_
  refine ⟨bm, r, σ, th, P, Q, p1, rfl, hB, hV, rp1, fun P1 Q1 B1 s2 hB1 hV2 hd2 hs2 => Kc_i ?_⟩
  refine g_istore hX dL_law_2082 ?_
  dsimp only [List.set]
  refine g_aload hX dL_law_2084 rfl rfl ?_
  refine g_cVf (As := []) (rest := []) (c2 := cs + 1) (s2 := ss + 6) hX (s_X10_thrown hst) dL_law_2085 hB1.2.1 rfl rfl (by first | exact Nat.le_of_ble_eq_true rfl | simp [cat_rf, Value.category]) ⟨rfl, rfl, (show cs + 1 ≤ 601024 by omega), (show ss + 6 ≤ 7293034 by omega)⟩ hd2 ?_
  refine ⟨bm, r, _, _, P1, Q1, rfl, hB1, hV2, fun hd3 hs3 => Kc_i ?_⟩
  refine g_iload hX dL_law_2088 rfl ?_
  refine g_icmp_eq hX dL_law_2090 (fun _ => ?_) (fun q => absurd rfl q)
  refine g_iload hX dL_law_2095 rfl ?_
  by_cases h0 : (oc_sung σ p1).1 = 0
  · refine z_if_ne hX dL_law_2097 hr (fun c => absurd h0 c) (fun _ => ?_)
    refine g_aload hX dL_law_2100 rfl rfl ?_
    refine g_const hX dL_law_2101 ?_
    refine g_lald hX dL_law_2102 (jn_f (jn_f (sg_s o f1))) vin_0 ?_
    have e9 : f1 (iZ 0).toNatClampNeg = (iZ (oc_sung σ p1).2.1).toInt64 := by rw [z_cl inR0]; exact hf1 h0
    rw [e9]
    refine g_iload hX dL_law_2103 rfl ?_
    refine g_i2l hX dL_law_2105 ?_
    refine g_lcmp hX dL_law_2106 ?_
    refine g_if_eq hX dL_law_2107 (fun _ => ?_) (fun q => absurd (lgc_self _) q)
    refine g_goto hX dL_law_2112 ?_
    exact g_wide (by omega) (by omega) (hn _ _ _ _ _ ⟨A1, ow1, τ1, _, P1, Q1, f1, C1, B1, hH1, hB1, hco1, hd2.symm, fun q => jn_comm hd2 q⟩ hV1)
  · refine z_if_ne hX dL_law_2097 hr (fun _ => ?_) (fun c => absurd c h0)
    refine g_goto hX dL_law_2112 ?_
    exact g_wide (by omega) (by omega) (hn _ _ _ _ _ ⟨A1, ow1, τ1, _, P1, Q1, f1, C1, B1, hH1, hB1, hco1, hd2.symm, fun q => jn_comm hd2 q⟩ hV1)
