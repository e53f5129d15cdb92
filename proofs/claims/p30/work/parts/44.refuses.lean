/-! what there is not is refused, and nothing changes -/
theorem dL_refuses_41 : At mL_refuses 41 .ineg 1 42 := ⟨by decide +kernel, rfl⟩
theorem ra0a {σ : SG} {a b c d : Int} (q : ¬ ((1500 ≤ a ∧ a ≤ 2399) ∧ 0 ≤ b ∧ b ≤ 65535)) : ya_act σ 0 a b c d = (-7000002, σ) := (ya_act0 σ a b c d).trans (by
  unfold oc_text
  rw [if_pos q]
  rfl)
theorem ra1a {σ : SG} {a b c d : Int} (q : ¬ inN σ 0 a) : ya_act σ 1 a b c d = (-7000001, σ) := (ya_act1 σ a b c d).trans (by
  unfold oc_row
  rw [if_pos q]
  rfl)
theorem ra1b {σ : SG} {a b c d : Int} (q0 : inN σ 0 a) (q : ¬ ((1 ≤ b ∧ b ≤ 12) ∧ 0 ≤ c ∧ c ≤ 2 ^ b.toNat - 1)) : ya_act σ 1 a b c d = (-7000002, σ) := (ya_act1 σ a b c d).trans (by
  unfold oc_row
  rw [if_neg (not_not_intro q0), if_pos q]
  rfl)
theorem ra2a {σ : SG} {a b c d : Int} (q : ¬ ((1500 ≤ a ∧ a ≤ 2399) ∧ (0 ≤ b ∧ b ≤ 40) ∧ b ≤ c ∧ c ≤ 40)) : ya_act σ 2 a b c d = (-7000002, σ) := (ya_act2 σ a b c d).trans (by
  unfold oc_tune
  rw [if_pos q]
  rfl)
theorem ra3a {σ : SG} {a b c d : Int} (q : ¬ inN σ 1 a) : ya_act σ 3 a b c d = (-7000001, σ) := (ya_act3 σ a b c d).trans (by
  unfold oc_row
  rw [if_pos q]
  rfl)
theorem ra3b {σ : SG} {a b c d : Int} (q0 : inN σ 1 a) (q : ¬ ((1 ≤ b ∧ b ≤ 12) ∧ 0 ≤ c ∧ c ≤ 2 ^ b.toNat - 1)) : ya_act σ 3 a b c d = (-7000002, σ) := (ya_act3 σ a b c d).trans (by
  unfold oc_row
  rw [if_neg (not_not_intro q0), if_pos q]
  rfl)
theorem ra4a {σ : SG} {a b c d : Int} (q : ¬ (inN σ 0 a ∧ inN σ 1 b)) : ya_act σ 4 a b c d = (-7000001, σ) := (ya_act4 σ a b c d).trans (by
  unfold oc_fits
  rw [if_pos q]
  rfl)
theorem ra5a {σ : SG} {a b c d : Int} (q : ¬ (inN σ 0 a ∧ inN σ 1 b)) : ya_act σ 5 a b c d = (-7000001, σ) := (ya_act5 σ a b c d).trans (by
  unfold oc_clashes
  rw [if_pos q]
  rfl)
theorem ra6a {σ : SG} {a b c d : Int} (q : ¬ inN σ 0 a) : ya_act σ 6 a b c d = (-7000001, σ) := (ya_act6 σ a b c d).trans (by
  unfold oc_best
  rw [if_pos q]
  rfl)
theorem ra7a {σ : SG} {a b c d : Int} (q : ¬ inN σ 1 a) : ya_act σ 7 a b c d = (-7000001, σ) := (ya_act7 σ a b c d).trans (by
  unfold oc_alike
  rw [if_pos q]
  rfl)
theorem ra8a {σ : SG} {a b c d : Int} (q : ¬ inN σ 0 a) : ya_act σ 8 a b c d = (-7000001, σ) := (ya_act8 σ a b c d).trans (by
  unfold oc_allow
  rw [if_pos q]
  rfl)
theorem ra9a {σ : SG} {a b c d : Int} (q : ¬ inN σ 1 a) : ya_act σ 9 a b c d = (-7000001, σ) := (ya_act9 σ a b c d).trans (by
  unfold oc_allow
  rw [if_pos q]
  rfl)
theorem ra10a {σ : SG} {a b c d : Int} (q : ¬ inN σ 1 a) : ya_act σ 10 a b c d = (-7000001, σ) := (ya_act10 σ a b c d).trans (by
  unfold oc_shift
  rw [if_pos q]
  rfl)
theorem ra10b {σ : SG} {a b c d : Int} (q0 : inN σ 1 a) (q : ¬ ((0 ≤ b ∧ b ≤ 40) ∧ b ≤ c ∧ c ≤ 40)) : ya_act σ 10 a b c d = (-7000002, σ) := (ya_act10 σ a b c d).trans (by
  unfold oc_shift
  rw [if_neg (not_not_intro q0), if_pos q]
  rfl)
theorem ra11a {σ : SG} {a b c d : Int} (q : ¬ (1600 ≤ a ∧ a ≤ 2399)) : ya_act σ 11 a b c d = (-7000002, σ) := (ya_act11 σ a b c d).trans (by
  unfold oc_easter
  rw [if_pos q]
  rfl)
theorem ra12a {σ : SG} {a b c d : Int} (q : ¬ (1600 ≤ a ∧ a ≤ 2399)) : ya_act σ 12 a b c d = (-7000002, σ) := (ya_act12 σ a b c d).trans (by
  unfold oc_easter
  rw [if_pos q]
  rfl)
theorem ra13a {σ : SG} {a b c d : Int} (q : ¬ dayOK a b c) : ya_act σ 13 a b c d = (-7000002, σ) := (ya_act13 σ a b c d).trans (by
  unfold oc_weekday
  rw [if_pos q]
  rfl)
theorem ra14a {σ : SG} {a b c d : Int} (q : ¬ ((1 ≤ a ∧ a ≤ 9) ∧ dayOK 2000 c d)) : ya_act σ 14 a b c d = (-7000002, σ) := (ya_act14 σ a b c d).trans (by
  unfold oc_feast
  rw [if_pos q]
  rfl)
theorem ra15a {σ : SG} {a b c d : Int} (q : ¬ ((1 ≤ a ∧ a ≤ 9) ∧ -60 ≤ c ∧ c ≤ 60)) : ya_act σ 15 a b c d = (-7000002, σ) := (ya_act15 σ a b c d).trans (by
  unfold oc_moving
  rw [if_pos q]
  rfl)
theorem ra16a {σ : SG} {a b c d : Int} (q : ¬ (0 ≤ a ∧ a ≤ 9)) : ya_act σ 16 a b c d = (-7000002, σ) := (ya_act16 σ a b c d).trans (by
  unfold oc_sundays
  rw [if_pos q]
  rfl)
theorem ra17a {σ : SG} {a b c d : Int} (q : ¬ (a = -2 ∨ inN σ 2 a)) : ya_act σ 17 a b c d = (-7000001, σ) := (ya_act17 σ a b c d).trans (by
  unfold oc_reading
  rw [if_pos q]
  rfl)
theorem ra17b {σ : SG} {a b c d : Int} (q0 : (a = -2 ∨ inN σ 2 a)) (q : ¬ ((0 ≤ b ∧ b ≤ 2) ∧ (c = -100 ∨ (0 ≤ c ∧ c ≤ 15)))) : ya_act σ 17 a b c d = (-7000002, σ) := (ya_act17 σ a b c d).trans (by
  unfold oc_reading
  rw [if_neg (not_not_intro q0), if_pos q]
  rfl)
theorem ra18a {σ : SG} {a b c d : Int} (q : ¬ dayOK a b c) : ya_act σ 18 a b c d = (-7000002, σ) := (ya_act18 σ a b c d).trans (by
  unfold oc_kept
  rw [if_pos q]
  rfl)
theorem ra19a {σ : SG} {a b c d : Int} (q : ¬ inN σ 2 a) : ya_act σ 19 a b c d = (-7000001, σ) := (ya_act19 σ a b c d).trans (by
  unfold oc_when
  rw [if_pos q]
  rfl)
theorem ra19b {σ : SG} {a b c d : Int} (q0 : inN σ 2 a) (q : ¬ (1600 ≤ b ∧ b ≤ 2399)) : ya_act σ 19 a b c d = (-7000002, σ) := (ya_act19 σ a b c d).trans (by
  unfold oc_when
  rw [if_neg (not_not_intro q0), if_pos q]
  rfl)
theorem ra20a {σ : SG} {a b c d : Int} (q : ¬ inN σ 2 a) : ya_act σ 20 a b c d = (-7000001, σ) := (ya_act20 σ a b c d).trans (by
  unfold oc_when
  rw [if_pos q]
  rfl)
theorem ra20b {σ : SG} {a b c d : Int} (q0 : inN σ 2 a) (q : ¬ (1600 ≤ b ∧ b ≤ 2399)) : ya_act σ 20 a b c d = (-7000002, σ) := (ya_act20 σ a b c d).trans (by
  unfold oc_when
  rw [if_neg (not_not_intro q0), if_pos q]
  rfl)
theorem ra21a {σ : SG} {a b c d : Int} (q : ¬ dayOK a b c) : ya_act σ 21 a b c d = (-7000002, σ) := (ya_act21 σ a b c d).trans (by
  unfold oc_theme
  rw [if_pos q]
  rfl)
theorem ra22a {σ : SG} {a b c d : Int} (q : ¬ inN σ 0 a) : ya_act σ 22 a b c d = (-7000001, σ) := (ya_act22 σ a b c d).trans (by
  unfold oc_why
  rw [if_pos q]
  rfl)
theorem ra22b {σ : SG} {a b c d : Int} (q0 : inN σ 0 a) (q : ¬ dayOK b c d) : ya_act σ 22 a b c d = (-7000002, σ) := (ya_act22 σ a b c d).trans (by
  unfold oc_why
  rw [if_neg (not_not_intro q0), if_pos q]
  rfl)
theorem ra23a {σ : SG} {a b c d : Int} (q : ¬ dayOK a b c) : ya_act σ 23 a b c d = (-7000002, σ) := (ya_act23 σ a b c d).trans (by
  unfold oc_sing
  rw [if_pos q]
  rfl)
theorem ra24a {σ : SG} {a b c d : Int} (q : ¬ inN σ 3 a) : ya_act σ 24 a b c d = (-7000001, σ) := (ya_act24 σ a b c d).trans (by
  unfold oc_service
  rw [if_pos q]
  rfl)
theorem ra24b {σ : SG} {a b c d : Int} (q0 : inN σ 3 a) (q : ¬ (0 ≤ b ∧ b ≤ 4)) : ya_act σ 24 a b c d = (-7000002, σ) := (ya_act24 σ a b c d).trans (by
  unfold oc_service
  rw [if_neg (not_not_intro q0), if_pos q]
  rfl)
theorem ra25a {σ : SG} {a b c d : Int} (q : ¬ inN σ 0 a) : ya_act σ 25 a b c d = (-7000001, σ) := (ya_act25 σ a b c d).trans (by
  unfold oc_sung
  rw [if_pos q]
  rfl)
set_option maxRecDepth 20000 in
theorem rf_g64 {X : hX} (hX : Cok X mL_refuses) (hst : X.1.2.1.stackTraces = false) {M0 : hM} {sz0 : Nat} {K : hK} (hR : Ret X mL_refuses M0 sz0 K) {h : Nat} {σ : SG} {mt : Int} (hmt : metK σ (σ 1 0 0).toNat = mt) (rm9 : inR mt) (rn0 : inR (σ 0 0 0)) (rn1 : inR (σ 1 0 0)) (rn2 : inR (σ 2 0 0)) (rn3 : inR (σ 3 0 0)) (hK : ∀ (A' : Nat → Nat → Nat) (ow' : Nat → Nat × Nat) (τ' : Nat → Nat → Int) (M' : hM) (s9 : Nat), HX X.2.2.2.2.2.2.2.2.2 h A' ow' σ τ' M' → SV σ → K (.inl (some (.int (iZ 1)))) M' s9) {A : Nat → Nat → Nat} {ow : Nat → Nat × Nat} {τ : Nat → Nat → Int} {M : hM} {sz cs ss : Nat} (hH : HX X.2.2.2.2.2.2.2.2.2 h A ow σ τ M) (hV : SV σ) (hc : cs + 0 ≤ 2700) (hs : ss + 0 ≤ 67500) : G X 1307 [.ref h, .int (iZ (σ 0 0 0)), .int (iZ (σ 1 0 0)), .int (iZ (σ 2 0 0)), .int (iZ (σ 3 0 0)), .int (iZ 2147483647), .int (iZ mt), .int (iZ 3), .int (iZ (-2147483648)), .int (iZ (-2147483648)), .int (iZ (-2147483648)), .int (iZ (-2147483648)), .int (iZ (-2147483648)), .int (iZ (-2147483648)), .int (iZ (-2147483648)), .int (iZ (-2147483648)), .int (iZ (-2147483648)), .int (iZ (-2147483648)), .int (iZ 1), .int (iZ 24)] [] M sz cs ss := by
  have hn := hV.n
  unfold SVn at hn
  refine g_const hX dL_refuses_1307 ?_
  refine g_goto hX dL_refuses_1308 ?_
  refine g_istore hX dL_refuses_1312 ?_
  dsimp only [List.set]
  refine g_iload hX dL_refuses_1314 rfl ?_
  refine yt_if_ne hX dL_refuses_1316 (ya_in rfl) (by decide) ?_
  refine y_iinc (c := 4) hX dL_refuses_1321 rfl (by decide) ?_
  dsimp only [List.set]
  refine g_goto hX dL_refuses_1324 ?_
  refine g_iload hX dL_refuses_13 rfl ?_
  refine g_const hX dL_refuses_15 ?_
  refine yt_icmp_ge hX dL_refuses_16 (ya_in rfl) (ya_in rfl) (by decide) ?_
  refine g_aload hX dL_refuses_1327 rfl rfl ?_
  refine l_metres hX hst dL_refuses_1328 hH hV (show oc_metres σ = (0, mt, σ) from by rw [← hmt]; rfl) (show cs + 0 ≤ 2700 by omega) (show ss + 0 ≤ 67500 by omega) (by first | exact Nat.le_of_ble_eq_true rfl | simp [cat_rf, Value.category]) (fun A ow τ M sz hH hV => ?_)
  refine g_iload hX dL_refuses_1331 rfl ?_
  refine yf_icmp_ne hX dL_refuses_1333 rm9 rm9 rfl ?_
  refine g_const hX dL_refuses_1336 ?_
  refine g_goto hX dL_refuses_1337 ?_
  refine g_iret hX hR dL_refuses_1341 rfl rfl (show cs + 0 ≤ 2700 by omega) (show ss + 0 ≤ 67500 by omega) ?_
  exact hK _ _ _ _ _ hH hV

set_option maxRecDepth 20000 in
theorem rf_g63 {X : hX} (hX : Cok X mL_refuses) (hst : X.1.2.1.stackTraces = false) {M0 : hM} {sz0 : Nat} {K : hK} (hR : Ret X mL_refuses M0 sz0 K) {h : Nat} {σ : SG} {mt : Int} (hmt : metK σ (σ 1 0 0).toNat = mt) (rm9 : inR mt) (rn0 : inR (σ 0 0 0)) (rn1 : inR (σ 1 0 0)) (rn2 : inR (σ 2 0 0)) (rn3 : inR (σ 3 0 0)) (hK : ∀ (A' : Nat → Nat → Nat) (ow' : Nat → Nat × Nat) (τ' : Nat → Nat → Int) (M' : hM) (s9 : Nat), HX X.2.2.2.2.2.2.2.2.2 h A' ow' σ τ' M' → SV σ → K (.inl (some (.int (iZ 1)))) M' s9) {A : Nat → Nat → Nat} {ow : Nat → Nat × Nat} {τ : Nat → Nat → Int} {M : hM} {sz cs ss : Nat} (hH : HX X.2.2.2.2.2.2.2.2.2 h A ow σ τ M) (hV : SV σ) (hc : cs + 40 ≤ 2700) (hs : ss + 1000 ≤ 67500) : G X 1184 [.ref h, .int (iZ (σ 0 0 0)), .int (iZ (σ 1 0 0)), .int (iZ (σ 2 0 0)), .int (iZ (σ 3 0 0)), .int (iZ 2147483647), .int (iZ mt), .int (iZ 3), .int (iZ (-2147483648)), .int (iZ (-2147483648)), .int (iZ (-2147483648)), .int (iZ (-2147483648)), .int (iZ (-2147483648)), .int (iZ (-2147483648)), .int (iZ (-2147483648)), .int (iZ (-2147483648)), .int (iZ (-2147483648)), .int (iZ (-2147483648)), .int (iZ 1), .int (iZ 24)] [] M sz cs ss := by
  have hn := hV.n
  unfold SVn at hn
  refine g_const hX dL_refuses_1184 ?_
  refine g_goto hX dL_refuses_1185 ?_
  refine g_istore hX dL_refuses_1189 ?_
  dsimp only [List.set]
  refine g_iload hX dL_refuses_1191 rfl ?_
  refine yf_if_eq hX dL_refuses_1193 (ya_in rfl) (by decide) ?_
  refine g_iload hX dL_refuses_1196 rfl ?_
  refine z_if_eq hX dL_refuses_1197 rn1 (fun c9 => ?_) (fun c9 => ?_)
  · exact rf_g64 hX hst hR hmt rm9 rn0 rn1 rn2 rn3 hK hH hV (by omega) (by omega)
  refine g_aload hX dL_refuses_1200 rfl rfl ?_
  refine g_const hX dL_refuses_1201 ?_
  refine g_const hX dL_refuses_1202 ?_
  refine g_iload hX dL_refuses_1203 rfl ?_
  refine yt_if_ne hX dL_refuses_1205 (ya_in rfl) (by decide) ?_
  refine g_iload hX dL_refuses_1212 rfl ?_
  refine g_const hX dL_refuses_1214 ?_
  refine yt_icmp_ne hX dL_refuses_1215 (ya_in rfl) (ya_in rfl) (by decide) ?_
  refine g_iload hX dL_refuses_1223 rfl ?_
  refine g_const hX dL_refuses_1225 ?_
  refine g_const hX dL_refuses_1226 ?_
  refine l_act hX hst dL_refuses_1227 hH hV (ya_in rfl) (ya_in rfl) (ya_in rfl) (ya_in rfl) (ya_in rfl) (ra3b ⟨by omega, by omega⟩ (by decide +kernel)) (show cs + 10 ≤ 2700 by omega) (show ss + 250 ≤ 67500 by omega) (by first | exact Nat.le_of_ble_eq_true rfl | simp [cat_rf, Value.category]) (fun A ow τ M sz hH hV => ?_)
  refine g_const hX dL_refuses_1230 ?_
  refine yf_icmp_ne hX dL_refuses_1232 (ya_in rfl) (ya_in rfl) (by decide) ?_
  refine g_aload hX dL_refuses_1235 rfl rfl ?_
  refine g_const hX dL_refuses_1236 ?_
  refine g_const hX dL_refuses_1237 ?_
  refine g_const hX dL_refuses_1238 ?_
  refine g_iload hX dL_refuses_1240 rfl ?_
  refine g_const hX dL_refuses_1242 ?_
  refine yt_icmp_ne hX dL_refuses_1243 (ya_in rfl) (ya_in rfl) (by decide) ?_
  refine g_iload hX dL_refuses_1252 rfl ?_
  refine g_const hX dL_refuses_1254 ?_
  refine l_act hX hst dL_refuses_1255 hH hV (ya_in rfl) (ya_in rfl) (ya_in rfl) (ya_in rfl) (ya_in rfl) (ra3b ⟨by omega, by omega⟩ (by decide +kernel)) (show cs + 10 + 10 ≤ 2700 by omega) (show ss + 250 + 250 ≤ 67500 by omega) (by first | exact Nat.le_of_ble_eq_true rfl | simp [cat_rf, Value.category]) (fun A ow τ M sz hH hV => ?_)
  refine g_const hX dL_refuses_1258 ?_
  refine yf_icmp_ne hX dL_refuses_1260 (ya_in rfl) (ya_in rfl) (by decide) ?_
  refine g_aload hX dL_refuses_1263 rfl rfl ?_
  refine g_const hX dL_refuses_1264 ?_
  refine g_const hX dL_refuses_1266 ?_
  refine g_iload hX dL_refuses_1267 rfl ?_
  refine g_const hX dL_refuses_1269 ?_
  refine g_const hX dL_refuses_1271 ?_
  refine l_act hX hst dL_refuses_1272 hH hV (ya_in rfl) (ya_in rfl) (ya_in rfl) (ya_in rfl) (ya_in rfl) (ra10b ⟨by omega, by omega⟩ (by decide +kernel)) (show cs + 10 + 10 + 10 ≤ 2700 by omega) (show ss + 250 + 250 + 250 ≤ 67500 by omega) (by first | exact Nat.le_of_ble_eq_true rfl | simp [cat_rf, Value.category]) (fun A ow τ M sz hH hV => ?_)
  refine g_const hX dL_refuses_1275 ?_
  refine yf_icmp_ne hX dL_refuses_1277 (ya_in rfl) (ya_in rfl) (by decide) ?_
  refine g_aload hX dL_refuses_1280 rfl rfl ?_
  refine g_const hX dL_refuses_1281 ?_
  refine g_const hX dL_refuses_1283 ?_
  refine g_const hX dL_refuses_1284 ?_
  refine g_iload hX dL_refuses_1286 rfl ?_
  refine yt_if_ne hX dL_refuses_1288 (ya_in rfl) (by decide) ?_
  refine g_iload hX dL_refuses_1296 rfl ?_
  refine g_const hX dL_refuses_1298 ?_
  refine l_act hX hst dL_refuses_1299 hH hV (ya_in rfl) (ya_in rfl) (ya_in rfl) (ya_in rfl) (ya_in rfl) (ra10b ⟨by omega, by omega⟩ (by decide +kernel)) (show cs + 10 + 10 + 10 + 10 ≤ 2700 by omega) (show ss + 250 + 250 + 250 + 250 ≤ 67500 by omega) (by first | exact Nat.le_of_ble_eq_true rfl | simp [cat_rf, Value.category]) (fun A ow τ M sz hH hV => ?_)
  refine g_const hX dL_refuses_1302 ?_
  refine yf_icmp_ne hX dL_refuses_1304 (ya_in rfl) (ya_in rfl) (by decide) ?_
  exact rf_g64 hX hst hR hmt rm9 rn0 rn1 rn2 rn3 hK hH hV (by omega) (by omega)

set_option maxRecDepth 20000 in
theorem rf_g62 {X : hX} (hX : Cok X mL_refuses) (hst : X.1.2.1.stackTraces = false) {M0 : hM} {sz0 : Nat} {K : hK} (hR : Ret X mL_refuses M0 sz0 K) {h : Nat} {σ : SG} {mt : Int} (hmt : metK σ (σ 1 0 0).toNat = mt) (rm9 : inR mt) (rn0 : inR (σ 0 0 0)) (rn1 : inR (σ 1 0 0)) (rn2 : inR (σ 2 0 0)) (rn3 : inR (σ 3 0 0)) (hK : ∀ (A' : Nat → Nat → Nat) (ow' : Nat → Nat × Nat) (τ' : Nat → Nat → Int) (M' : hM) (s9 : Nat), HX X.2.2.2.2.2.2.2.2.2 h A' ow' σ τ' M' → SV σ → K (.inl (some (.int (iZ 1)))) M' s9) {A : Nat → Nat → Nat} {ow : Nat → Nat × Nat} {τ : Nat → Nat → Int} {M : hM} {sz cs ss : Nat} (hH : HX X.2.2.2.2.2.2.2.2.2 h A ow σ τ M) (hV : SV σ) (hc : cs + 80 ≤ 2700) (hs : ss + 2000 ≤ 67500) : G X 1073 [.ref h, .int (iZ (σ 0 0 0)), .int (iZ (σ 1 0 0)), .int (iZ (σ 2 0 0)), .int (iZ (σ 3 0 0)), .int (iZ 2147483647), .int (iZ mt), .int (iZ 3), .int (iZ (-2147483648)), .int (iZ (-2147483648)), .int (iZ (-2147483648)), .int (iZ (-2147483648)), .int (iZ (-2147483648)), .int (iZ (-2147483648)), .int (iZ (-2147483648)), .int (iZ (-2147483648)), .int (iZ (-2147483648)), .int (iZ (-2147483648)), .int (iZ 1), .int (iZ 24)] [] M sz cs ss := by
  have hn := hV.n
  unfold SVn at hn
  refine g_const hX dL_refuses_1073 ?_
  refine g_goto hX dL_refuses_1074 ?_
  refine g_istore hX dL_refuses_1078 ?_
  dsimp only [List.set]
  refine g_iload hX dL_refuses_1080 rfl ?_
  refine yf_if_eq hX dL_refuses_1082 (ya_in rfl) (by decide) ?_
  refine g_iload hX dL_refuses_1085 rfl ?_
  refine z_if_eq hX dL_refuses_1086 rn0 (fun c9 => ?_) (fun c9 => ?_)
  · exact rf_g63 hX hst hR hmt rm9 rn0 rn1 rn2 rn3 hK hH hV (by omega) (by omega)
  refine g_aload hX dL_refuses_1089 rfl rfl ?_
  refine g_const hX dL_refuses_1090 ?_
  refine g_const hX dL_refuses_1091 ?_
  refine g_iload hX dL_refuses_1092 rfl ?_
  refine yt_if_ne hX dL_refuses_1094 (ya_in rfl) (by decide) ?_
  refine g_iload hX dL_refuses_1101 rfl ?_
  refine g_const hX dL_refuses_1103 ?_
  refine yt_icmp_ne hX dL_refuses_1104 (ya_in rfl) (ya_in rfl) (by decide) ?_
  refine g_iload hX dL_refuses_1112 rfl ?_
  refine g_const hX dL_refuses_1114 ?_
  refine g_const hX dL_refuses_1115 ?_
  refine l_act hX hst dL_refuses_1116 hH hV (ya_in rfl) (ya_in rfl) (ya_in rfl) (ya_in rfl) (ya_in rfl) (ra1b ⟨by omega, by omega⟩ (by decide +kernel)) (show cs + 10 ≤ 2700 by omega) (show ss + 250 ≤ 67500 by omega) (by first | exact Nat.le_of_ble_eq_true rfl | simp [cat_rf, Value.category]) (fun A ow τ M sz hH hV => ?_)
  refine g_const hX dL_refuses_1119 ?_
  refine yf_icmp_ne hX dL_refuses_1121 (ya_in rfl) (ya_in rfl) (by decide) ?_
  refine g_aload hX dL_refuses_1124 rfl rfl ?_
  refine g_const hX dL_refuses_1125 ?_
  refine g_const hX dL_refuses_1126 ?_
  refine g_const hX dL_refuses_1127 ?_
  refine g_iload hX dL_refuses_1128 rfl ?_
  refine g_const hX dL_refuses_1130 ?_
  refine yt_icmp_ne hX dL_refuses_1131 (ya_in rfl) (ya_in rfl) (by decide) ?_
  refine g_iload hX dL_refuses_1139 rfl ?_
  refine g_const hX dL_refuses_1141 ?_
  refine l_act hX hst dL_refuses_1142 hH hV (ya_in rfl) (ya_in rfl) (ya_in rfl) (ya_in rfl) (ya_in rfl) (ra1b ⟨by omega, by omega⟩ (by decide +kernel)) (show cs + 10 + 10 ≤ 2700 by omega) (show ss + 250 + 250 ≤ 67500 by omega) (by first | exact Nat.le_of_ble_eq_true rfl | simp [cat_rf, Value.category]) (fun A ow τ M sz hH hV => ?_)
  refine g_const hX dL_refuses_1145 ?_
  refine yf_icmp_ne hX dL_refuses_1147 (ya_in rfl) (ya_in rfl) (by decide) ?_
  refine g_aload hX dL_refuses_1150 rfl rfl ?_
  refine g_const hX dL_refuses_1151 ?_
  refine g_const hX dL_refuses_1153 ?_
  refine g_iload hX dL_refuses_1154 rfl ?_
  refine g_const hX dL_refuses_1156 ?_
  refine g_const hX dL_refuses_1157 ?_
  refine l_act hX hst dL_refuses_1158 hH hV (ya_in rfl) (ya_in rfl) (ya_in rfl) (ya_in rfl) (ya_in rfl) (ra22b ⟨by omega, by omega⟩ (by decide +kernel)) (show cs + 10 + 10 + 10 ≤ 2700 by omega) (show ss + 250 + 250 + 250 ≤ 67500 by omega) (by first | exact Nat.le_of_ble_eq_true rfl | simp [cat_rf, Value.category]) (fun A ow τ M sz hH hV => ?_)
  refine g_const hX dL_refuses_1161 ?_
  refine yf_icmp_ne hX dL_refuses_1163 (ya_in rfl) (ya_in rfl) (by decide) ?_
  refine g_aload hX dL_refuses_1166 rfl rfl ?_
  refine g_const hX dL_refuses_1167 ?_
  refine g_const hX dL_refuses_1169 ?_
  refine g_const hX dL_refuses_1170 ?_
  refine g_const hX dL_refuses_1173 ?_
  refine g_const hX dL_refuses_1174 ?_
  refine l_act hX hst dL_refuses_1176 hH hV (ya_in rfl) (ya_in rfl) (ya_in rfl) (ya_in rfl) (ya_in rfl) (ra22b ⟨by omega, by omega⟩ (by decide +kernel)) (show cs + 10 + 10 + 10 + 10 ≤ 2700 by omega) (show ss + 250 + 250 + 250 + 250 ≤ 67500 by omega) (by first | exact Nat.le_of_ble_eq_true rfl | simp [cat_rf, Value.category]) (fun A ow τ M sz hH hV => ?_)
  refine g_const hX dL_refuses_1179 ?_
  refine yf_icmp_ne hX dL_refuses_1181 (ya_in rfl) (ya_in rfl) (by decide) ?_
  exact rf_g63 hX hst hR hmt rm9 rn0 rn1 rn2 rn3 hK hH hV (by omega) (by omega)

set_option maxRecDepth 20000 in
theorem rf_g61 {X : hX} (hX : Cok X mL_refuses) (hst : X.1.2.1.stackTraces = false) {M0 : hM} {sz0 : Nat} {K : hK} (hR : Ret X mL_refuses M0 sz0 K) {h : Nat} {σ : SG} {mt : Int} (hmt : metK σ (σ 1 0 0).toNat = mt) (rm9 : inR mt) (rn0 : inR (σ 0 0 0)) (rn1 : inR (σ 1 0 0)) (rn2 : inR (σ 2 0 0)) (rn3 : inR (σ 3 0 0)) (hK : ∀ (A' : Nat → Nat → Nat) (ow' : Nat → Nat × Nat) (τ' : Nat → Nat → Int) (M' : hM) (s9 : Nat), HX X.2.2.2.2.2.2.2.2.2 h A' ow' σ τ' M' → SV σ → K (.inl (some (.int (iZ 1)))) M' s9) {A : Nat → Nat → Nat} {ow : Nat → Nat × Nat} {τ : Nat → Nat → Int} {M : hM} {sz cs ss : Nat} (hH : HX X.2.2.2.2.2.2.2.2.2 h A ow σ τ M) (hV : SV σ) (hc : cs + 110 ≤ 2700) (hs : ss + 2750 ≤ 67500) : G X 999 [.ref h, .int (iZ (σ 0 0 0)), .int (iZ (σ 1 0 0)), .int (iZ (σ 2 0 0)), .int (iZ (σ 3 0 0)), .int (iZ 2147483647), .int (iZ mt), .int (iZ 3), .int (iZ (-2147483648)), .int (iZ (-2147483648)), .int (iZ (-2147483648)), .int (iZ (-2147483648)), .int (iZ (-2147483648)), .int (iZ (-2147483648)), .int (iZ (-2147483648)), .int (iZ (-2147483648)), .int (iZ (-2147483648)), .int (iZ (-2147483648)), .int (iZ 1), .int (iZ 24)] [.ref h] M sz cs ss := by
  have hn := hV.n
  unfold SVn at hn
  refine g_const hX dL_refuses_999 ?_
  refine g_iload hX dL_refuses_1001 rfl ?_
  refine g_const hX dL_refuses_1003 ?_
  refine yt_icmp_ne hX dL_refuses_1004 (ya_in rfl) (ya_in rfl) (by decide) ?_
  refine g_iload hX dL_refuses_1012 rfl ?_
  refine g_const hX dL_refuses_1014 ?_
  refine g_const hX dL_refuses_1016 ?_
  refine g_const hX dL_refuses_1017 ?_
  refine l_act hX hst dL_refuses_1018 hH hV (ya_in rfl) (ya_in rfl) (ya_in rfl) (ya_in rfl) (ya_in rfl) (ra24a (fun q => by have q1 := q.1; have q2 := q.2; omega)) (show cs + 10 ≤ 2700 by omega) (show ss + 250 ≤ 67500 by omega) (by first | exact Nat.le_of_ble_eq_true rfl | simp [cat_rf, Value.category]) (fun A ow τ M sz hH hV => ?_)
  refine g_const hX dL_refuses_1021 ?_
  refine yf_icmp_ne hX dL_refuses_1023 (ya_in rfl) (ya_in rfl) (by decide) ?_
  refine g_aload hX dL_refuses_1026 rfl rfl ?_
  refine g_const hX dL_refuses_1027 ?_
  refine g_iload hX dL_refuses_1029 rfl ?_
  refine g_const hX dL_refuses_1031 ?_
  refine g_const hX dL_refuses_1032 ?_
  refine g_const hX dL_refuses_1033 ?_
  refine l_act hX hst dL_refuses_1034 hH hV (ya_in rfl) (ya_in rfl) (ya_in rfl) (ya_in rfl) (ya_in rfl) (ra25a (fun q => by have q1 := q.1; have q2 := q.2; omega)) (show cs + 10 + 10 ≤ 2700 by omega) (show ss + 250 + 250 ≤ 67500 by omega) (by first | exact Nat.le_of_ble_eq_true rfl | simp [cat_rf, Value.category]) (fun A ow τ M sz hH hV => ?_)
  refine g_const hX dL_refuses_1037 ?_
  refine yf_icmp_ne hX dL_refuses_1039 (ya_in rfl) (ya_in rfl) (by decide) ?_
  refine g_iload hX dL_refuses_1042 rfl ?_
  refine z_if_eq hX dL_refuses_1044 rn3 (fun c9 => ?_) (fun c9 => ?_)
  · exact rf_g62 hX hst hR hmt rm9 rn0 rn1 rn2 rn3 hK hH hV (by omega) (by omega)
  refine g_aload hX dL_refuses_1047 rfl rfl ?_
  refine g_const hX dL_refuses_1048 ?_
  refine g_const hX dL_refuses_1050 ?_
  refine g_iload hX dL_refuses_1051 rfl ?_
  refine g_const hX dL_refuses_1053 ?_
  refine yt_icmp_ne hX dL_refuses_1054 (ya_in rfl) (ya_in rfl) (by decide) ?_
  refine g_iload hX dL_refuses_1061 rfl ?_
  refine g_const hX dL_refuses_1063 ?_
  refine g_const hX dL_refuses_1064 ?_
  refine l_act hX hst dL_refuses_1065 hH hV (ya_in rfl) (ya_in rfl) (ya_in rfl) (ya_in rfl) (ya_in rfl) (ra24b ⟨by omega, by omega⟩ (by decide +kernel)) (show cs + 10 + 10 + 10 ≤ 2700 by omega) (show ss + 250 + 250 + 250 ≤ 67500 by omega) (by first | exact Nat.le_of_ble_eq_true rfl | simp [cat_rf, Value.category]) (fun A ow τ M sz hH hV => ?_)
  refine g_const hX dL_refuses_1068 ?_
  refine yf_icmp_ne hX dL_refuses_1070 (ya_in rfl) (ya_in rfl) (by decide) ?_
  exact rf_g62 hX hst hR hmt rm9 rn0 rn1 rn2 rn3 hK hH hV (by omega) (by omega)

set_option maxRecDepth 20000 in
theorem rf_g60 {X : hX} (hX : Cok X mL_refuses) (hst : X.1.2.1.stackTraces = false) {M0 : hM} {sz0 : Nat} {K : hK} (hR : Ret X mL_refuses M0 sz0 K) {h : Nat} {σ : SG} {mt : Int} (hmt : metK σ (σ 1 0 0).toNat = mt) (rm9 : inR mt) (rn0 : inR (σ 0 0 0)) (rn1 : inR (σ 1 0 0)) (rn2 : inR (σ 2 0 0)) (rn3 : inR (σ 3 0 0)) (hK : ∀ (A' : Nat → Nat → Nat) (ow' : Nat → Nat × Nat) (τ' : Nat → Nat → Int) (M' : hM) (s9 : Nat), HX X.2.2.2.2.2.2.2.2.2 h A' ow' σ τ' M' → SV σ → K (.inl (some (.int (iZ 1)))) M' s9) {A : Nat → Nat → Nat} {ow : Nat → Nat × Nat} {τ : Nat → Nat → Int} {M : hM} {sz cs ss : Nat} (hH : HX X.2.2.2.2.2.2.2.2.2 h A ow σ τ M) (hV : SV σ) (hc : cs + 170 ≤ 2700) (hs : ss + 4250 ≤ 67500) : G X 823 [.ref h, .int (iZ (σ 0 0 0)), .int (iZ (σ 1 0 0)), .int (iZ (σ 2 0 0)), .int (iZ (σ 3 0 0)), .int (iZ 2147483647), .int (iZ mt), .int (iZ 3), .int (iZ (-2147483648)), .int (iZ (-2147483648)), .int (iZ (-2147483648)), .int (iZ (-2147483648)), .int (iZ (-2147483648)), .int (iZ (-2147483648)), .int (iZ (-2147483648)), .int (iZ (-2147483648)), .int (iZ (-2147483648)), .int (iZ (-2147483648)), .int (iZ 1), .int (iZ 23)] [.int (iZ 23), .ref h] M sz cs ss := by
  have hn := hV.n
  unfold SVn at hn
  refine g_const hX dL_refuses_823 ?_
  refine g_const hX dL_refuses_826 ?_
  refine g_iload hX dL_refuses_827 rfl ?_
  refine g_const hX dL_refuses_829 ?_
  refine l_act hX hst dL_refuses_830 hH hV (ya_in rfl) (ya_in rfl) (ya_in rfl) (ya_in rfl) (ya_in rfl) (ra23a (by decide +kernel)) (show cs + 10 ≤ 2700 by omega) (show ss + 250 ≤ 67500 by omega) (by first | exact Nat.le_of_ble_eq_true rfl | simp [cat_rf, Value.category]) (fun A ow τ M sz hH hV => ?_)
  refine g_const hX dL_refuses_833 ?_
  refine yf_icmp_ne hX dL_refuses_835 (ya_in rfl) (ya_in rfl) (by decide) ?_
  refine g_aload hX dL_refuses_838 rfl rfl ?_
  refine g_iload hX dL_refuses_839 rfl ?_
  refine g_const hX dL_refuses_841 ?_
  refine g_const hX dL_refuses_844 ?_
  refine g_const hX dL_refuses_845 ?_
  refine g_const hX dL_refuses_847 ?_
  refine l_act hX hst dL_refuses_848 hH hV (ya_in rfl) (ya_in rfl) (ya_in rfl) (ya_in rfl) (ya_in rfl) (ra23a (by decide +kernel)) (show cs + 10 + 10 ≤ 2700 by omega) (show ss + 250 + 250 ≤ 67500 by omega) (by first | exact Nat.le_of_ble_eq_true rfl | simp [cat_rf, Value.category]) (fun A ow τ M sz hH hV => ?_)
  refine g_const hX dL_refuses_851 ?_
  refine yf_icmp_ne hX dL_refuses_853 (ya_in rfl) (ya_in rfl) (by decide) ?_
  refine g_aload hX dL_refuses_856 rfl rfl ?_
  refine g_iload hX dL_refuses_857 rfl ?_
  refine g_const hX dL_refuses_859 ?_
  refine g_const hX dL_refuses_862 ?_
  refine g_const hX dL_refuses_864 ?_
  refine g_const hX dL_refuses_866 ?_
  refine l_act hX hst dL_refuses_867 hH hV (ya_in rfl) (ya_in rfl) (ya_in rfl) (ya_in rfl) (ya_in rfl) (ra23a (by decide +kernel)) (show cs + 10 + 10 + 10 ≤ 2700 by omega) (show ss + 250 + 250 + 250 ≤ 67500 by omega) (by first | exact Nat.le_of_ble_eq_true rfl | simp [cat_rf, Value.category]) (fun A ow τ M sz hH hV => ?_)
  refine g_const hX dL_refuses_870 ?_
  refine yf_icmp_ne hX dL_refuses_872 (ya_in rfl) (ya_in rfl) (by decide) ?_
  refine g_const hX dL_refuses_875 ?_
  refine g_goto hX dL_refuses_876 ?_
  refine g_istore hX dL_refuses_880 ?_
  dsimp only [List.set]
  refine g_iload hX dL_refuses_882 rfl ?_
  refine g_const hX dL_refuses_884 ?_
  refine yf_icmp_eq hX dL_refuses_886 (ya_in rfl) (ya_in rfl) (by decide) ?_
  refine g_iload hX dL_refuses_889 rfl ?_
  refine g_const hX dL_refuses_891 ?_
  refine yt_icmp_ne hX dL_refuses_893 (ya_in rfl) (ya_in rfl) (by decide) ?_
  refine y_iinc (c := 24) hX dL_refuses_939 rfl (by decide) ?_
  dsimp only [List.set]
  refine g_goto hX dL_refuses_942 ?_
  refine g_iload hX dL_refuses_746 rfl ?_
  refine g_const hX dL_refuses_748 ?_
  refine yt_icmp_ge hX dL_refuses_750 (ya_in rfl) (ya_in rfl) (by decide) ?_
  refine g_iload hX dL_refuses_945 rfl ?_
  refine yf_if_eq hX dL_refuses_947 (ya_in rfl) (by decide) ?_
  refine g_aload hX dL_refuses_950 rfl rfl ?_
  refine g_const hX dL_refuses_951 ?_
  refine g_const hX dL_refuses_953 ?_
  refine g_const hX dL_refuses_954 ?_
  refine g_const hX dL_refuses_955 ?_
  refine g_const hX dL_refuses_956 ?_
  refine l_act hX hst dL_refuses_958 hH hV (ya_in rfl) (ya_in rfl) (ya_in rfl) (ya_in rfl) (ya_in rfl) (ra14a (by decide +kernel)) (show cs + 10 + 10 + 10 + 10 ≤ 2700 by omega) (show ss + 250 + 250 + 250 + 250 ≤ 67500 by omega) (by first | exact Nat.le_of_ble_eq_true rfl | simp [cat_rf, Value.category]) (fun A ow τ M sz hH hV => ?_)
  refine g_const hX dL_refuses_961 ?_
  refine yf_icmp_ne hX dL_refuses_963 (ya_in rfl) (ya_in rfl) (by decide) ?_
  refine g_aload hX dL_refuses_966 rfl rfl ?_
  refine g_const hX dL_refuses_967 ?_
  refine g_const hX dL_refuses_969 ?_
  refine g_const hX dL_refuses_970 ?_
  refine g_const hX dL_refuses_971 ?_
  refine g_const hX dL_refuses_972 ?_
  refine l_act hX hst dL_refuses_974 hH hV (ya_in rfl) (ya_in rfl) (ya_in rfl) (ya_in rfl) (ya_in rfl) (ra14a (by decide +kernel)) (show cs + 10 + 10 + 10 + 10 + 10 ≤ 2700 by omega) (show ss + 250 + 250 + 250 + 250 + 250 ≤ 67500 by omega) (by first | exact Nat.le_of_ble_eq_true rfl | simp [cat_rf, Value.category]) (fun A ow τ M sz hH hV => ?_)
  refine g_const hX dL_refuses_977 ?_
  refine yf_icmp_ne hX dL_refuses_979 (ya_in rfl) (ya_in rfl) (by decide) ?_
  refine g_aload hX dL_refuses_982 rfl rfl ?_
  refine g_const hX dL_refuses_983 ?_
  refine g_iload hX dL_refuses_985 rfl ?_
  refine g_const hX dL_refuses_987 ?_
  refine g_const hX dL_refuses_988 ?_
  refine g_const hX dL_refuses_989 ?_
  refine l_act hX hst dL_refuses_990 hH hV (ya_in rfl) (ya_in rfl) (ya_in rfl) (ya_in rfl) (ya_in rfl) (ra22a (fun q => by have q1 := q.1; have q2 := q.2; omega)) (show cs + 10 + 10 + 10 + 10 + 10 + 10 ≤ 2700 by omega) (show ss + 250 + 250 + 250 + 250 + 250 + 250 ≤ 67500 by omega) (by first | exact Nat.le_of_ble_eq_true rfl | simp [cat_rf, Value.category]) (fun A ow τ M sz hH hV => ?_)
  refine g_const hX dL_refuses_993 ?_
  refine yf_icmp_ne hX dL_refuses_995 (ya_in rfl) (ya_in rfl) (by decide) ?_
  refine g_aload hX dL_refuses_998 rfl rfl ?_
  exact rf_g61 hX hst hR hmt rm9 rn0 rn1 rn2 rn3 hK hH hV (by omega) (by omega)

set_option maxRecDepth 20000 in
theorem rf_g59 {X : hX} (hX : Cok X mL_refuses) (hst : X.1.2.1.stackTraces = false) {M0 : hM} {sz0 : Nat} {K : hK} (hR : Ret X mL_refuses M0 sz0 K) {h : Nat} {σ : SG} {mt : Int} (hmt : metK σ (σ 1 0 0).toNat = mt) (rm9 : inR mt) (rn0 : inR (σ 0 0 0)) (rn1 : inR (σ 1 0 0)) (rn2 : inR (σ 2 0 0)) (rn3 : inR (σ 3 0 0)) (hK : ∀ (A' : Nat → Nat → Nat) (ow' : Nat → Nat × Nat) (τ' : Nat → Nat → Int) (M' : hM) (s9 : Nat), HX X.2.2.2.2.2.2.2.2.2 h A' ow' σ τ' M' → SV σ → K (.inl (some (.int (iZ 1)))) M' s9) {A : Nat → Nat → Nat} {ow : Nat → Nat × Nat} {τ : Nat → Nat → Int} {M : hM} {sz cs ss : Nat} (hH : HX X.2.2.2.2.2.2.2.2.2 h A ow σ τ M) (hV : SV σ) (hc : cs + 190 ≤ 2700) (hs : ss + 4750 ≤ 67500) : G X 884 [.ref h, .int (iZ (σ 0 0 0)), .int (iZ (σ 1 0 0)), .int (iZ (σ 2 0 0)), .int (iZ (σ 3 0 0)), .int (iZ 2147483647), .int (iZ mt), .int (iZ 3), .int (iZ (-2147483648)), .int (iZ (-2147483648)), .int (iZ (-2147483648)), .int (iZ (-2147483648)), .int (iZ (-2147483648)), .int (iZ (-2147483648)), .int (iZ (-2147483648)), .int (iZ (-2147483648)), .int (iZ (-2147483648)), .int (iZ (-2147483648)), .int (iZ 1), .int (iZ 21)] [.int (iZ 21)] M sz cs ss := by
  have hn := hV.n
  unfold SVn at hn
  refine g_const hX dL_refuses_884 ?_
  refine yf_icmp_eq hX dL_refuses_886 (ya_in rfl) (ya_in rfl) (by decide) ?_
  refine g_iload hX dL_refuses_889 rfl ?_
  refine g_const hX dL_refuses_891 ?_
  refine yt_icmp_ne hX dL_refuses_893 (ya_in rfl) (ya_in rfl) (by decide) ?_
  refine y_iinc (c := 22) hX dL_refuses_939 rfl (by decide) ?_
  dsimp only [List.set]
  refine g_goto hX dL_refuses_942 ?_
  refine g_iload hX dL_refuses_746 rfl ?_
  refine g_const hX dL_refuses_748 ?_
  refine yf_icmp_ge hX dL_refuses_750 (ya_in rfl) (ya_in rfl) (by decide) ?_
  refine g_iload hX dL_refuses_753 rfl ?_
  refine yf_if_eq hX dL_refuses_755 (ya_in rfl) (by decide) ?_
  refine g_iload hX dL_refuses_758 rfl ?_
  refine g_const hX dL_refuses_760 ?_
  refine yf_icmp_eq hX dL_refuses_762 (ya_in rfl) (ya_in rfl) (by decide) ?_
  refine g_iload hX dL_refuses_765 rfl ?_
  refine g_const hX dL_refuses_767 ?_
  refine yf_icmp_eq hX dL_refuses_769 (ya_in rfl) (ya_in rfl) (by decide) ?_
  refine g_iload hX dL_refuses_772 rfl ?_
  refine g_const hX dL_refuses_774 ?_
  refine yf_icmp_eq hX dL_refuses_776 (ya_in rfl) (ya_in rfl) (by decide) ?_
  refine g_iload hX dL_refuses_779 rfl ?_
  refine g_const hX dL_refuses_781 ?_
  refine yt_icmp_ne hX dL_refuses_783 (ya_in rfl) (ya_in rfl) (by decide) ?_
  refine g_iload hX dL_refuses_882 rfl ?_
  refine g_const hX dL_refuses_884 ?_
  refine yf_icmp_eq hX dL_refuses_886 (ya_in rfl) (ya_in rfl) (by decide) ?_
  refine g_iload hX dL_refuses_889 rfl ?_
  refine g_const hX dL_refuses_891 ?_
  refine yt_icmp_ne hX dL_refuses_893 (ya_in rfl) (ya_in rfl) (by decide) ?_
  refine y_iinc (c := 23) hX dL_refuses_939 rfl (by decide) ?_
  dsimp only [List.set]
  refine g_goto hX dL_refuses_942 ?_
  refine g_iload hX dL_refuses_746 rfl ?_
  refine g_const hX dL_refuses_748 ?_
  refine yf_icmp_ge hX dL_refuses_750 (ya_in rfl) (ya_in rfl) (by decide) ?_
  refine g_iload hX dL_refuses_753 rfl ?_
  refine yf_if_eq hX dL_refuses_755 (ya_in rfl) (by decide) ?_
  refine g_iload hX dL_refuses_758 rfl ?_
  refine g_const hX dL_refuses_760 ?_
  refine yf_icmp_eq hX dL_refuses_762 (ya_in rfl) (ya_in rfl) (by decide) ?_
  refine g_iload hX dL_refuses_765 rfl ?_
  refine g_const hX dL_refuses_767 ?_
  refine yf_icmp_eq hX dL_refuses_769 (ya_in rfl) (ya_in rfl) (by decide) ?_
  refine g_iload hX dL_refuses_772 rfl ?_
  refine g_const hX dL_refuses_774 ?_
  refine yf_icmp_eq hX dL_refuses_776 (ya_in rfl) (ya_in rfl) (by decide) ?_
  refine g_iload hX dL_refuses_779 rfl ?_
  refine g_const hX dL_refuses_781 ?_
  refine yf_icmp_ne hX dL_refuses_783 (ya_in rfl) (ya_in rfl) (by decide) ?_
  refine g_aload hX dL_refuses_786 rfl rfl ?_
  refine g_iload hX dL_refuses_787 rfl ?_
  refine g_iload hX dL_refuses_789 rfl ?_
  refine g_const hX dL_refuses_791 ?_
  refine g_const hX dL_refuses_792 ?_
  refine g_const hX dL_refuses_793 ?_
  refine l_act hX hst dL_refuses_794 hH hV (ya_in rfl) (ya_in rfl) (ya_in rfl) (ya_in rfl) (ya_in rfl) (ra23a (by decide +kernel)) (show cs + 10 ≤ 2700 by omega) (show ss + 250 ≤ 67500 by omega) (by first | exact Nat.le_of_ble_eq_true rfl | simp [cat_rf, Value.category]) (fun A ow τ M sz hH hV => ?_)
  refine g_const hX dL_refuses_797 ?_
  refine yf_icmp_ne hX dL_refuses_799 (ya_in rfl) (ya_in rfl) (by decide) ?_
  refine g_aload hX dL_refuses_802 rfl rfl ?_
  refine g_iload hX dL_refuses_803 rfl ?_
  refine g_const hX dL_refuses_805 ?_
  refine g_iload hX dL_refuses_808 rfl ?_
  refine g_const hX dL_refuses_810 ?_
  refine g_const hX dL_refuses_811 ?_
  refine l_act hX hst dL_refuses_812 hH hV (ya_in rfl) (ya_in rfl) (ya_in rfl) (ya_in rfl) (ya_in rfl) (ra23a (by decide +kernel)) (show cs + 10 + 10 ≤ 2700 by omega) (show ss + 250 + 250 ≤ 67500 by omega) (by first | exact Nat.le_of_ble_eq_true rfl | simp [cat_rf, Value.category]) (fun A ow τ M sz hH hV => ?_)
  refine g_const hX dL_refuses_815 ?_
  refine yf_icmp_ne hX dL_refuses_817 (ya_in rfl) (ya_in rfl) (by decide) ?_
  refine g_aload hX dL_refuses_820 rfl rfl ?_
  refine g_iload hX dL_refuses_821 rfl ?_
  exact rf_g60 hX hst hR hmt rm9 rn0 rn1 rn2 rn3 hK hH hV (by omega) (by omega)

set_option maxRecDepth 20000 in
theorem rf_g58 {X : hX} (hX : Cok X mL_refuses) (hst : X.1.2.1.stackTraces = false) {M0 : hM} {sz0 : Nat} {K : hK} (hR : Ret X mL_refuses M0 sz0 K) {h : Nat} {σ : SG} {mt : Int} (hmt : metK σ (σ 1 0 0).toNat = mt) (rm9 : inR mt) (rn0 : inR (σ 0 0 0)) (rn1 : inR (σ 1 0 0)) (rn2 : inR (σ 2 0 0)) (rn3 : inR (σ 3 0 0)) (hK : ∀ (A' : Nat → Nat → Nat) (ow' : Nat → Nat × Nat) (τ' : Nat → Nat → Int) (M' : hM) (s9 : Nat), HX X.2.2.2.2.2.2.2.2.2 h A' ow' σ τ' M' → SV σ → K (.inl (some (.int (iZ 1)))) M' s9) {A : Nat → Nat → Nat} {ow : Nat → Nat × Nat} {τ : Nat → Nat → Int} {M : hM} {sz cs ss : Nat} (hH : HX X.2.2.2.2.2.2.2.2.2 h A ow σ τ M) (hV : SV σ) (hc : cs + 240 ≤ 2700) (hs : ss + 6000 ≤ 67500) : G X 932 [.ref h, .int (iZ (σ 0 0 0)), .int (iZ (σ 1 0 0)), .int (iZ (σ 2 0 0)), .int (iZ (σ 3 0 0)), .int (iZ 2147483647), .int (iZ mt), .int (iZ 3), .int (iZ (-2147483648)), .int (iZ (-2147483648)), .int (iZ (-2147483648)), .int (iZ (-2147483648)), .int (iZ (-2147483648)), .int (iZ (-2147483648)), .int (iZ (-2147483648)), .int (iZ (-2147483648)), .int (iZ (-2147483648)), .int (iZ (-2147483648)), .int (iZ 1), .int (iZ 20)] [] M sz cs ss := by
  have hn := hV.n
  unfold SVn at hn
  refine g_const hX dL_refuses_932 ?_
  refine g_goto hX dL_refuses_933 ?_
  refine g_istore hX dL_refuses_937 ?_
  dsimp only [List.set]
  refine y_iinc (c := 21) hX dL_refuses_939 rfl (by decide) ?_
  dsimp only [List.set]
  refine g_goto hX dL_refuses_942 ?_
  refine g_iload hX dL_refuses_746 rfl ?_
  refine g_const hX dL_refuses_748 ?_
  refine yf_icmp_ge hX dL_refuses_750 (ya_in rfl) (ya_in rfl) (by decide) ?_
  refine g_iload hX dL_refuses_753 rfl ?_
  refine yf_if_eq hX dL_refuses_755 (ya_in rfl) (by decide) ?_
  refine g_iload hX dL_refuses_758 rfl ?_
  refine g_const hX dL_refuses_760 ?_
  refine yf_icmp_eq hX dL_refuses_762 (ya_in rfl) (ya_in rfl) (by decide) ?_
  refine g_iload hX dL_refuses_765 rfl ?_
  refine g_const hX dL_refuses_767 ?_
  refine yf_icmp_eq hX dL_refuses_769 (ya_in rfl) (ya_in rfl) (by decide) ?_
  refine g_iload hX dL_refuses_772 rfl ?_
  refine g_const hX dL_refuses_774 ?_
  refine yt_icmp_eq hX dL_refuses_776 (ya_in rfl) (ya_in rfl) (by decide) ?_
  refine g_aload hX dL_refuses_786 rfl rfl ?_
  refine g_iload hX dL_refuses_787 rfl ?_
  refine g_iload hX dL_refuses_789 rfl ?_
  refine g_const hX dL_refuses_791 ?_
  refine g_const hX dL_refuses_792 ?_
  refine g_const hX dL_refuses_793 ?_
  refine l_act hX hst dL_refuses_794 hH hV (ya_in rfl) (ya_in rfl) (ya_in rfl) (ya_in rfl) (ya_in rfl) (ra21a (by decide +kernel)) (show cs + 10 ≤ 2700 by omega) (show ss + 250 ≤ 67500 by omega) (by first | exact Nat.le_of_ble_eq_true rfl | simp [cat_rf, Value.category]) (fun A ow τ M sz hH hV => ?_)
  refine g_const hX dL_refuses_797 ?_
  refine yf_icmp_ne hX dL_refuses_799 (ya_in rfl) (ya_in rfl) (by decide) ?_
  refine g_aload hX dL_refuses_802 rfl rfl ?_
  refine g_iload hX dL_refuses_803 rfl ?_
  refine g_const hX dL_refuses_805 ?_
  refine g_iload hX dL_refuses_808 rfl ?_
  refine g_const hX dL_refuses_810 ?_
  refine g_const hX dL_refuses_811 ?_
  refine l_act hX hst dL_refuses_812 hH hV (ya_in rfl) (ya_in rfl) (ya_in rfl) (ya_in rfl) (ya_in rfl) (ra21a (by decide +kernel)) (show cs + 10 + 10 ≤ 2700 by omega) (show ss + 250 + 250 ≤ 67500 by omega) (by first | exact Nat.le_of_ble_eq_true rfl | simp [cat_rf, Value.category]) (fun A ow τ M sz hH hV => ?_)
  refine g_const hX dL_refuses_815 ?_
  refine yf_icmp_ne hX dL_refuses_817 (ya_in rfl) (ya_in rfl) (by decide) ?_
  refine g_aload hX dL_refuses_820 rfl rfl ?_
  refine g_iload hX dL_refuses_821 rfl ?_
  refine g_const hX dL_refuses_823 ?_
  refine g_const hX dL_refuses_826 ?_
  refine g_iload hX dL_refuses_827 rfl ?_
  refine g_const hX dL_refuses_829 ?_
  refine l_act hX hst dL_refuses_830 hH hV (ya_in rfl) (ya_in rfl) (ya_in rfl) (ya_in rfl) (ya_in rfl) (ra21a (by decide +kernel)) (show cs + 10 + 10 + 10 ≤ 2700 by omega) (show ss + 250 + 250 + 250 ≤ 67500 by omega) (by first | exact Nat.le_of_ble_eq_true rfl | simp [cat_rf, Value.category]) (fun A ow τ M sz hH hV => ?_)
  refine g_const hX dL_refuses_833 ?_
  refine yf_icmp_ne hX dL_refuses_835 (ya_in rfl) (ya_in rfl) (by decide) ?_
  refine g_aload hX dL_refuses_838 rfl rfl ?_
  refine g_iload hX dL_refuses_839 rfl ?_
  refine g_const hX dL_refuses_841 ?_
  refine g_const hX dL_refuses_844 ?_
  refine g_const hX dL_refuses_845 ?_
  refine g_const hX dL_refuses_847 ?_
  refine l_act hX hst dL_refuses_848 hH hV (ya_in rfl) (ya_in rfl) (ya_in rfl) (ya_in rfl) (ya_in rfl) (ra21a (by decide +kernel)) (show cs + 10 + 10 + 10 + 10 ≤ 2700 by omega) (show ss + 250 + 250 + 250 + 250 ≤ 67500 by omega) (by first | exact Nat.le_of_ble_eq_true rfl | simp [cat_rf, Value.category]) (fun A ow τ M sz hH hV => ?_)
  refine g_const hX dL_refuses_851 ?_
  refine yf_icmp_ne hX dL_refuses_853 (ya_in rfl) (ya_in rfl) (by decide) ?_
  refine g_aload hX dL_refuses_856 rfl rfl ?_
  refine g_iload hX dL_refuses_857 rfl ?_
  refine g_const hX dL_refuses_859 ?_
  refine g_const hX dL_refuses_862 ?_
  refine g_const hX dL_refuses_864 ?_
  refine g_const hX dL_refuses_866 ?_
  refine l_act hX hst dL_refuses_867 hH hV (ya_in rfl) (ya_in rfl) (ya_in rfl) (ya_in rfl) (ya_in rfl) (ra21a (by decide +kernel)) (show cs + 10 + 10 + 10 + 10 + 10 ≤ 2700 by omega) (show ss + 250 + 250 + 250 + 250 + 250 ≤ 67500 by omega) (by first | exact Nat.le_of_ble_eq_true rfl | simp [cat_rf, Value.category]) (fun A ow τ M sz hH hV => ?_)
  refine g_const hX dL_refuses_870 ?_
  refine yf_icmp_ne hX dL_refuses_872 (ya_in rfl) (ya_in rfl) (by decide) ?_
  refine g_const hX dL_refuses_875 ?_
  refine g_goto hX dL_refuses_876 ?_
  refine g_istore hX dL_refuses_880 ?_
  dsimp only [List.set]
  refine g_iload hX dL_refuses_882 rfl ?_
  exact rf_g59 hX hst hR hmt rm9 rn0 rn1 rn2 rn3 hK hH hV (by omega) (by omega)

set_option maxRecDepth 20000 in
theorem rf_g57 {X : hX} (hX : Cok X mL_refuses) (hst : X.1.2.1.stackTraces = false) {M0 : hM} {sz0 : Nat} {K : hK} (hR : Ret X mL_refuses M0 sz0 K) {h : Nat} {σ : SG} {mt : Int} (hmt : metK σ (σ 1 0 0).toNat = mt) (rm9 : inR mt) (rn0 : inR (σ 0 0 0)) (rn1 : inR (σ 1 0 0)) (rn2 : inR (σ 2 0 0)) (rn3 : inR (σ 3 0 0)) (hK : ∀ (A' : Nat → Nat → Nat) (ow' : Nat → Nat × Nat) (τ' : Nat → Nat → Int) (M' : hM) (s9 : Nat), HX X.2.2.2.2.2.2.2.2.2 h A' ow' σ τ' M' → SV σ → K (.inl (some (.int (iZ 1)))) M' s9) {A : Nat → Nat → Nat} {ow : Nat → Nat × Nat} {τ : Nat → Nat → Int} {M : hM} {sz cs ss : Nat} (hH : HX X.2.2.2.2.2.2.2.2.2 h A ow σ τ M) (hV : SV σ) (hc : cs + 260 ≤ 2700) (hs : ss + 6500 ≤ 67500) : G X 932 [.ref h, .int (iZ (σ 0 0 0)), .int (iZ (σ 1 0 0)), .int (iZ (σ 2 0 0)), .int (iZ (σ 3 0 0)), .int (iZ 2147483647), .int (iZ mt), .int (iZ 3), .int (iZ (-2147483648)), .int (iZ (-2147483648)), .int (iZ (-2147483648)), .int (iZ (-2147483648)), .int (iZ (-2147483648)), .int (iZ (-2147483648)), .int (iZ (-2147483648)), .int (iZ (-2147483648)), .int (iZ (-2147483648)), .int (iZ (-2147483648)), .int (iZ 1), .int (iZ 19)] [] M sz cs ss := by
  have hn := hV.n
  unfold SVn at hn
  refine g_const hX dL_refuses_932 ?_
  refine g_goto hX dL_refuses_933 ?_
  refine g_istore hX dL_refuses_937 ?_
  dsimp only [List.set]
  refine y_iinc (c := 20) hX dL_refuses_939 rfl (by decide) ?_
  dsimp only [List.set]
  refine g_goto hX dL_refuses_942 ?_
  refine g_iload hX dL_refuses_746 rfl ?_
  refine g_const hX dL_refuses_748 ?_
  refine yf_icmp_ge hX dL_refuses_750 (ya_in rfl) (ya_in rfl) (by decide) ?_
  refine g_iload hX dL_refuses_753 rfl ?_
  refine yf_if_eq hX dL_refuses_755 (ya_in rfl) (by decide) ?_
  refine g_iload hX dL_refuses_758 rfl ?_
  refine g_const hX dL_refuses_760 ?_
  refine yf_icmp_eq hX dL_refuses_762 (ya_in rfl) (ya_in rfl) (by decide) ?_
  refine g_iload hX dL_refuses_765 rfl ?_
  refine g_const hX dL_refuses_767 ?_
  refine yf_icmp_eq hX dL_refuses_769 (ya_in rfl) (ya_in rfl) (by decide) ?_
  refine g_iload hX dL_refuses_772 rfl ?_
  refine g_const hX dL_refuses_774 ?_
  refine yf_icmp_eq hX dL_refuses_776 (ya_in rfl) (ya_in rfl) (by decide) ?_
  refine g_iload hX dL_refuses_779 rfl ?_
  refine g_const hX dL_refuses_781 ?_
  refine yt_icmp_ne hX dL_refuses_783 (ya_in rfl) (ya_in rfl) (by decide) ?_
  refine g_iload hX dL_refuses_882 rfl ?_
  refine g_const hX dL_refuses_884 ?_
  refine yf_icmp_eq hX dL_refuses_886 (ya_in rfl) (ya_in rfl) (by decide) ?_
  refine g_iload hX dL_refuses_889 rfl ?_
  refine g_const hX dL_refuses_891 ?_
  refine yf_icmp_ne hX dL_refuses_893 (ya_in rfl) (ya_in rfl) (by decide) ?_
  refine g_aload hX dL_refuses_896 rfl rfl ?_
  refine g_iload hX dL_refuses_897 rfl ?_
  refine g_iload hX dL_refuses_899 rfl ?_
  refine g_const hX dL_refuses_901 ?_
  refine g_const hX dL_refuses_902 ?_
  refine g_const hX dL_refuses_903 ?_
  refine l_act hX hst dL_refuses_904 hH hV (ya_in rfl) (ya_in rfl) (ya_in rfl) (ya_in rfl) (ya_in rfl) (ra20a (fun q => by have q1 := q.1; have q2 := q.2; omega)) (show cs + 10 ≤ 2700 by omega) (show ss + 250 ≤ 67500 by omega) (by first | exact Nat.le_of_ble_eq_true rfl | simp [cat_rf, Value.category]) (fun A ow τ M sz hH hV => ?_)
  refine g_const hX dL_refuses_907 ?_
  refine yf_icmp_ne hX dL_refuses_909 (ya_in rfl) (ya_in rfl) (by decide) ?_
  refine g_iload hX dL_refuses_912 rfl ?_
  refine z_if_eq hX dL_refuses_913 rn2 (fun c9 => ?_) (fun c9 => ?_)
  · exact rf_g58 hX hst hR hmt rm9 rn0 rn1 rn2 rn3 hK hH hV (by omega) (by omega)
  refine g_aload hX dL_refuses_916 rfl rfl ?_
  refine g_iload hX dL_refuses_917 rfl ?_
  refine g_const hX dL_refuses_919 ?_
  refine g_iload hX dL_refuses_920 rfl ?_
  refine g_const hX dL_refuses_922 ?_
  refine g_const hX dL_refuses_923 ?_
  refine l_act hX hst dL_refuses_924 hH hV (ya_in rfl) (ya_in rfl) (ya_in rfl) (ya_in rfl) (ya_in rfl) (ra20b ⟨by omega, by omega⟩ (by decide +kernel)) (show cs + 10 + 10 ≤ 2700 by omega) (show ss + 250 + 250 ≤ 67500 by omega) (by first | exact Nat.le_of_ble_eq_true rfl | simp [cat_rf, Value.category]) (fun A ow τ M sz hH hV => ?_)
  refine g_const hX dL_refuses_927 ?_
  refine yf_icmp_ne hX dL_refuses_929 (ya_in rfl) (ya_in rfl) (by decide) ?_
  exact rf_g58 hX hst hR hmt rm9 rn0 rn1 rn2 rn3 hK hH hV (by omega) (by omega)

set_option maxRecDepth 20000 in
theorem rf_g56 {X : hX} (hX : Cok X mL_refuses) (hst : X.1.2.1.stackTraces = false) {M0 : hM} {sz0 : Nat} {K : hK} (hR : Ret X mL_refuses M0 sz0 K) {h : Nat} {σ : SG} {mt : Int} (hmt : metK σ (σ 1 0 0).toNat = mt) (rm9 : inR mt) (rn0 : inR (σ 0 0 0)) (rn1 : inR (σ 1 0 0)) (rn2 : inR (σ 2 0 0)) (rn3 : inR (σ 3 0 0)) (hK : ∀ (A' : Nat → Nat → Nat) (ow' : Nat → Nat × Nat) (τ' : Nat → Nat → Int) (M' : hM) (s9 : Nat), HX X.2.2.2.2.2.2.2.2.2 h A' ow' σ τ' M' → SV σ → K (.inl (some (.int (iZ 1)))) M' s9) {A : Nat → Nat → Nat} {ow : Nat → Nat × Nat} {τ : Nat → Nat → Int} {M : hM} {sz cs ss : Nat} (hH : HX X.2.2.2.2.2.2.2.2.2 h A ow σ τ M) (hV : SV σ) (hc : cs + 300 ≤ 2700) (hs : ss + 7500 ≤ 67500) : G X 848 [.ref h, .int (iZ (σ 0 0 0)), .int (iZ (σ 1 0 0)), .int (iZ (σ 2 0 0)), .int (iZ (σ 3 0 0)), .int (iZ 2147483647), .int (iZ mt), .int (iZ 3), .int (iZ (-2147483648)), .int (iZ (-2147483648)), .int (iZ (-2147483648)), .int (iZ (-2147483648)), .int (iZ (-2147483648)), .int (iZ (-2147483648)), .int (iZ (-2147483648)), .int (iZ (-2147483648)), .int (iZ (-2147483648)), .int (iZ (-2147483648)), .int (iZ 1), .int (iZ 18)] [.int (iZ 0), .int (iZ 29), .int (iZ 2), .int (iZ 2100), .int (iZ 18), .ref h] M sz cs ss := by
  have hn := hV.n
  unfold SVn at hn
  refine l_act hX hst dL_refuses_848 hH hV (ya_in rfl) (ya_in rfl) (ya_in rfl) (ya_in rfl) (ya_in rfl) (ra18a (by decide +kernel)) (show cs + 10 ≤ 2700 by omega) (show ss + 250 ≤ 67500 by omega) (by first | exact Nat.le_of_ble_eq_true rfl | simp [cat_rf, Value.category]) (fun A ow τ M sz hH hV => ?_)
  refine g_const hX dL_refuses_851 ?_
  refine yf_icmp_ne hX dL_refuses_853 (ya_in rfl) (ya_in rfl) (by decide) ?_
  refine g_aload hX dL_refuses_856 rfl rfl ?_
  refine g_iload hX dL_refuses_857 rfl ?_
  refine g_const hX dL_refuses_859 ?_
  refine g_const hX dL_refuses_862 ?_
  refine g_const hX dL_refuses_864 ?_
  refine g_const hX dL_refuses_866 ?_
  refine l_act hX hst dL_refuses_867 hH hV (ya_in rfl) (ya_in rfl) (ya_in rfl) (ya_in rfl) (ya_in rfl) (ra18a (by decide +kernel)) (show cs + 10 + 10 ≤ 2700 by omega) (show ss + 250 + 250 ≤ 67500 by omega) (by first | exact Nat.le_of_ble_eq_true rfl | simp [cat_rf, Value.category]) (fun A ow τ M sz hH hV => ?_)
  refine g_const hX dL_refuses_870 ?_
  refine yf_icmp_ne hX dL_refuses_872 (ya_in rfl) (ya_in rfl) (by decide) ?_
  refine g_const hX dL_refuses_875 ?_
  refine g_goto hX dL_refuses_876 ?_
  refine g_istore hX dL_refuses_880 ?_
  dsimp only [List.set]
  refine g_iload hX dL_refuses_882 rfl ?_
  refine g_const hX dL_refuses_884 ?_
  refine yf_icmp_eq hX dL_refuses_886 (ya_in rfl) (ya_in rfl) (by decide) ?_
  refine g_iload hX dL_refuses_889 rfl ?_
  refine g_const hX dL_refuses_891 ?_
  refine yt_icmp_ne hX dL_refuses_893 (ya_in rfl) (ya_in rfl) (by decide) ?_
  refine y_iinc (c := 19) hX dL_refuses_939 rfl (by decide) ?_
  dsimp only [List.set]
  refine g_goto hX dL_refuses_942 ?_
  refine g_iload hX dL_refuses_746 rfl ?_
  refine g_const hX dL_refuses_748 ?_
  refine yf_icmp_ge hX dL_refuses_750 (ya_in rfl) (ya_in rfl) (by decide) ?_
  refine g_iload hX dL_refuses_753 rfl ?_
  refine yf_if_eq hX dL_refuses_755 (ya_in rfl) (by decide) ?_
  refine g_iload hX dL_refuses_758 rfl ?_
  refine g_const hX dL_refuses_760 ?_
  refine yf_icmp_eq hX dL_refuses_762 (ya_in rfl) (ya_in rfl) (by decide) ?_
  refine g_iload hX dL_refuses_765 rfl ?_
  refine g_const hX dL_refuses_767 ?_
  refine yf_icmp_eq hX dL_refuses_769 (ya_in rfl) (ya_in rfl) (by decide) ?_
  refine g_iload hX dL_refuses_772 rfl ?_
  refine g_const hX dL_refuses_774 ?_
  refine yf_icmp_eq hX dL_refuses_776 (ya_in rfl) (ya_in rfl) (by decide) ?_
  refine g_iload hX dL_refuses_779 rfl ?_
  refine g_const hX dL_refuses_781 ?_
  refine yt_icmp_ne hX dL_refuses_783 (ya_in rfl) (ya_in rfl) (by decide) ?_
  refine g_iload hX dL_refuses_882 rfl ?_
  refine g_const hX dL_refuses_884 ?_
  refine yt_icmp_eq hX dL_refuses_886 (ya_in rfl) (ya_in rfl) (by decide) ?_
  refine g_aload hX dL_refuses_896 rfl rfl ?_
  refine g_iload hX dL_refuses_897 rfl ?_
  refine g_iload hX dL_refuses_899 rfl ?_
  refine g_const hX dL_refuses_901 ?_
  refine g_const hX dL_refuses_902 ?_
  refine g_const hX dL_refuses_903 ?_
  refine l_act hX hst dL_refuses_904 hH hV (ya_in rfl) (ya_in rfl) (ya_in rfl) (ya_in rfl) (ya_in rfl) (ra19a (fun q => by have q1 := q.1; have q2 := q.2; omega)) (show cs + 10 + 10 + 10 ≤ 2700 by omega) (show ss + 250 + 250 + 250 ≤ 67500 by omega) (by first | exact Nat.le_of_ble_eq_true rfl | simp [cat_rf, Value.category]) (fun A ow τ M sz hH hV => ?_)
  refine g_const hX dL_refuses_907 ?_
  refine yf_icmp_ne hX dL_refuses_909 (ya_in rfl) (ya_in rfl) (by decide) ?_
  refine g_iload hX dL_refuses_912 rfl ?_
  refine z_if_eq hX dL_refuses_913 rn2 (fun c9 => ?_) (fun c9 => ?_)
  · exact rf_g57 hX hst hR hmt rm9 rn0 rn1 rn2 rn3 hK hH hV (by omega) (by omega)
  refine g_aload hX dL_refuses_916 rfl rfl ?_
  refine g_iload hX dL_refuses_917 rfl ?_
  refine g_const hX dL_refuses_919 ?_
  refine g_iload hX dL_refuses_920 rfl ?_
  refine g_const hX dL_refuses_922 ?_
  refine g_const hX dL_refuses_923 ?_
  refine l_act hX hst dL_refuses_924 hH hV (ya_in rfl) (ya_in rfl) (ya_in rfl) (ya_in rfl) (ya_in rfl) (ra19b ⟨by omega, by omega⟩ (by decide +kernel)) (show cs + 10 + 10 + 10 + 10 ≤ 2700 by omega) (show ss + 250 + 250 + 250 + 250 ≤ 67500 by omega) (by first | exact Nat.le_of_ble_eq_true rfl | simp [cat_rf, Value.category]) (fun A ow τ M sz hH hV => ?_)
  refine g_const hX dL_refuses_927 ?_
  refine yf_icmp_ne hX dL_refuses_929 (ya_in rfl) (ya_in rfl) (by decide) ?_
  exact rf_g57 hX hst hR hmt rm9 rn0 rn1 rn2 rn3 hK hH hV (by omega) (by omega)

set_option maxRecDepth 20000 in
theorem rf_g55 {X : hX} (hX : Cok X mL_refuses) (hst : X.1.2.1.stackTraces = false) {M0 : hM} {sz0 : Nat} {K : hK} (hR : Ret X mL_refuses M0 sz0 K) {h : Nat} {σ : SG} {mt : Int} (hmt : metK σ (σ 1 0 0).toNat = mt) (rm9 : inR mt) (rn0 : inR (σ 0 0 0)) (rn1 : inR (σ 1 0 0)) (rn2 : inR (σ 2 0 0)) (rn3 : inR (σ 3 0 0)) (hK : ∀ (A' : Nat → Nat → Nat) (ow' : Nat → Nat × Nat) (τ' : Nat → Nat → Int) (M' : hM) (s9 : Nat), HX X.2.2.2.2.2.2.2.2.2 h A' ow' σ τ' M' → SV σ → K (.inl (some (.int (iZ 1)))) M' s9) {A : Nat → Nat → Nat} {ow : Nat → Nat × Nat} {τ : Nat → Nat → Int} {M : hM} {sz cs ss : Nat} (hH : HX X.2.2.2.2.2.2.2.2.2 h A ow σ τ M) (hV : SV σ) (hc : cs + 330 ≤ 2700) (hs : ss + 8250 ≤ 67500) : G X 942 [.ref h, .int (iZ (σ 0 0 0)), .int (iZ (σ 1 0 0)), .int (iZ (σ 2 0 0)), .int (iZ (σ 3 0 0)), .int (iZ 2147483647), .int (iZ mt), .int (iZ 3), .int (iZ (-2147483648)), .int (iZ (-2147483648)), .int (iZ (-2147483648)), .int (iZ (-2147483648)), .int (iZ (-2147483648)), .int (iZ (-2147483648)), .int (iZ (-2147483648)), .int (iZ (-2147483648)), .int (iZ (-2147483648)), .int (iZ (-2147483648)), .int (iZ 1), .int (iZ 17)] [] M sz cs ss := by
  have hn := hV.n
  unfold SVn at hn
  refine g_goto hX dL_refuses_942 ?_
  refine g_iload hX dL_refuses_746 rfl ?_
  refine g_const hX dL_refuses_748 ?_
  refine yf_icmp_ge hX dL_refuses_750 (ya_in rfl) (ya_in rfl) (by decide) ?_
  refine g_iload hX dL_refuses_753 rfl ?_
  refine yf_if_eq hX dL_refuses_755 (ya_in rfl) (by decide) ?_
  refine g_iload hX dL_refuses_758 rfl ?_
  refine g_const hX dL_refuses_760 ?_
  refine yf_icmp_eq hX dL_refuses_762 (ya_in rfl) (ya_in rfl) (by decide) ?_
  refine g_iload hX dL_refuses_765 rfl ?_
  refine g_const hX dL_refuses_767 ?_
  refine yf_icmp_eq hX dL_refuses_769 (ya_in rfl) (ya_in rfl) (by decide) ?_
  refine g_iload hX dL_refuses_772 rfl ?_
  refine g_const hX dL_refuses_774 ?_
  refine yf_icmp_eq hX dL_refuses_776 (ya_in rfl) (ya_in rfl) (by decide) ?_
  refine g_iload hX dL_refuses_779 rfl ?_
  refine g_const hX dL_refuses_781 ?_
  refine yt_icmp_ne hX dL_refuses_783 (ya_in rfl) (ya_in rfl) (by decide) ?_
  refine g_iload hX dL_refuses_882 rfl ?_
  refine g_const hX dL_refuses_884 ?_
  refine yf_icmp_eq hX dL_refuses_886 (ya_in rfl) (ya_in rfl) (by decide) ?_
  refine g_iload hX dL_refuses_889 rfl ?_
  refine g_const hX dL_refuses_891 ?_
  refine yt_icmp_ne hX dL_refuses_893 (ya_in rfl) (ya_in rfl) (by decide) ?_
  refine y_iinc (c := 18) hX dL_refuses_939 rfl (by decide) ?_
  dsimp only [List.set]
  refine g_goto hX dL_refuses_942 ?_
  refine g_iload hX dL_refuses_746 rfl ?_
  refine g_const hX dL_refuses_748 ?_
  refine yf_icmp_ge hX dL_refuses_750 (ya_in rfl) (ya_in rfl) (by decide) ?_
  refine g_iload hX dL_refuses_753 rfl ?_
  refine yf_if_eq hX dL_refuses_755 (ya_in rfl) (by decide) ?_
  refine g_iload hX dL_refuses_758 rfl ?_
  refine g_const hX dL_refuses_760 ?_
  refine yf_icmp_eq hX dL_refuses_762 (ya_in rfl) (ya_in rfl) (by decide) ?_
  refine g_iload hX dL_refuses_765 rfl ?_
  refine g_const hX dL_refuses_767 ?_
  refine yt_icmp_eq hX dL_refuses_769 (ya_in rfl) (ya_in rfl) (by decide) ?_
  refine g_aload hX dL_refuses_786 rfl rfl ?_
  refine g_iload hX dL_refuses_787 rfl ?_
  refine g_iload hX dL_refuses_789 rfl ?_
  refine g_const hX dL_refuses_791 ?_
  refine g_const hX dL_refuses_792 ?_
  refine g_const hX dL_refuses_793 ?_
  refine l_act hX hst dL_refuses_794 hH hV (ya_in rfl) (ya_in rfl) (ya_in rfl) (ya_in rfl) (ya_in rfl) (ra18a (by decide +kernel)) (show cs + 10 ≤ 2700 by omega) (show ss + 250 ≤ 67500 by omega) (by first | exact Nat.le_of_ble_eq_true rfl | simp [cat_rf, Value.category]) (fun A ow τ M sz hH hV => ?_)
  refine g_const hX dL_refuses_797 ?_
  refine yf_icmp_ne hX dL_refuses_799 (ya_in rfl) (ya_in rfl) (by decide) ?_
  refine g_aload hX dL_refuses_802 rfl rfl ?_
  refine g_iload hX dL_refuses_803 rfl ?_
  refine g_const hX dL_refuses_805 ?_
  refine g_iload hX dL_refuses_808 rfl ?_
  refine g_const hX dL_refuses_810 ?_
  refine g_const hX dL_refuses_811 ?_
  refine l_act hX hst dL_refuses_812 hH hV (ya_in rfl) (ya_in rfl) (ya_in rfl) (ya_in rfl) (ya_in rfl) (ra18a (by decide +kernel)) (show cs + 10 + 10 ≤ 2700 by omega) (show ss + 250 + 250 ≤ 67500 by omega) (by first | exact Nat.le_of_ble_eq_true rfl | simp [cat_rf, Value.category]) (fun A ow τ M sz hH hV => ?_)
  refine g_const hX dL_refuses_815 ?_
  refine yf_icmp_ne hX dL_refuses_817 (ya_in rfl) (ya_in rfl) (by decide) ?_
  refine g_aload hX dL_refuses_820 rfl rfl ?_
  refine g_iload hX dL_refuses_821 rfl ?_
  refine g_const hX dL_refuses_823 ?_
  refine g_const hX dL_refuses_826 ?_
  refine g_iload hX dL_refuses_827 rfl ?_
  refine g_const hX dL_refuses_829 ?_
  refine l_act hX hst dL_refuses_830 hH hV (ya_in rfl) (ya_in rfl) (ya_in rfl) (ya_in rfl) (ya_in rfl) (ra18a (by decide +kernel)) (show cs + 10 + 10 + 10 ≤ 2700 by omega) (show ss + 250 + 250 + 250 ≤ 67500 by omega) (by first | exact Nat.le_of_ble_eq_true rfl | simp [cat_rf, Value.category]) (fun A ow τ M sz hH hV => ?_)
  refine g_const hX dL_refuses_833 ?_
  refine yf_icmp_ne hX dL_refuses_835 (ya_in rfl) (ya_in rfl) (by decide) ?_
  refine g_aload hX dL_refuses_838 rfl rfl ?_
  refine g_iload hX dL_refuses_839 rfl ?_
  refine g_const hX dL_refuses_841 ?_
  refine g_const hX dL_refuses_844 ?_
  refine g_const hX dL_refuses_845 ?_
  refine g_const hX dL_refuses_847 ?_
  exact rf_g56 hX hst hR hmt rm9 rn0 rn1 rn2 rn3 hK hH hV (by omega) (by omega)

set_option maxRecDepth 20000 in
theorem rf_g54 {X : hX} (hX : Cok X mL_refuses) (hst : X.1.2.1.stackTraces = false) {M0 : hM} {sz0 : Nat} {K : hK} (hR : Ret X mL_refuses M0 sz0 K) {h : Nat} {σ : SG} {mt : Int} (hmt : metK σ (σ 1 0 0).toNat = mt) (rm9 : inR mt) (rn0 : inR (σ 0 0 0)) (rn1 : inR (σ 1 0 0)) (rn2 : inR (σ 2 0 0)) (rn3 : inR (σ 3 0 0)) (hK : ∀ (A' : Nat → Nat → Nat) (ow' : Nat → Nat × Nat) (τ' : Nat → Nat → Int) (M' : hM) (s9 : Nat), HX X.2.2.2.2.2.2.2.2.2 h A' ow' σ τ' M' → SV σ → K (.inl (some (.int (iZ 1)))) M' s9) {A : Nat → Nat → Nat} {ow : Nat → Nat × Nat} {τ : Nat → Nat → Int} {M : hM} {sz cs ss : Nat} (hH : HX X.2.2.2.2.2.2.2.2.2 h A ow σ τ M) (hV : SV σ) (hc : cs + 330 ≤ 2700) (hs : ss + 8250 ≤ 67500) : G X 758 [.ref h, .int (iZ (σ 0 0 0)), .int (iZ (σ 1 0 0)), .int (iZ (σ 2 0 0)), .int (iZ (σ 3 0 0)), .int (iZ 2147483647), .int (iZ mt), .int (iZ 3), .int (iZ (-2147483648)), .int (iZ (-2147483648)), .int (iZ (-2147483648)), .int (iZ (-2147483648)), .int (iZ (-2147483648)), .int (iZ (-2147483648)), .int (iZ (-2147483648)), .int (iZ (-2147483648)), .int (iZ (-2147483648)), .int (iZ (-2147483648)), .int (iZ 1), .int (iZ 14)] [] M sz cs ss := by
  have hn := hV.n
  unfold SVn at hn
  refine g_iload hX dL_refuses_758 rfl ?_
  refine g_const hX dL_refuses_760 ?_
  refine yf_icmp_eq hX dL_refuses_762 (ya_in rfl) (ya_in rfl) (by decide) ?_
  refine g_iload hX dL_refuses_765 rfl ?_
  refine g_const hX dL_refuses_767 ?_
  refine yf_icmp_eq hX dL_refuses_769 (ya_in rfl) (ya_in rfl) (by decide) ?_
  refine g_iload hX dL_refuses_772 rfl ?_
  refine g_const hX dL_refuses_774 ?_
  refine yf_icmp_eq hX dL_refuses_776 (ya_in rfl) (ya_in rfl) (by decide) ?_
  refine g_iload hX dL_refuses_779 rfl ?_
  refine g_const hX dL_refuses_781 ?_
  refine yt_icmp_ne hX dL_refuses_783 (ya_in rfl) (ya_in rfl) (by decide) ?_
  refine g_iload hX dL_refuses_882 rfl ?_
  refine g_const hX dL_refuses_884 ?_
  refine yf_icmp_eq hX dL_refuses_886 (ya_in rfl) (ya_in rfl) (by decide) ?_
  refine g_iload hX dL_refuses_889 rfl ?_
  refine g_const hX dL_refuses_891 ?_
  refine yt_icmp_ne hX dL_refuses_893 (ya_in rfl) (ya_in rfl) (by decide) ?_
  refine y_iinc (c := 15) hX dL_refuses_939 rfl (by decide) ?_
  dsimp only [List.set]
  refine g_goto hX dL_refuses_942 ?_
  refine g_iload hX dL_refuses_746 rfl ?_
  refine g_const hX dL_refuses_748 ?_
  refine yf_icmp_ge hX dL_refuses_750 (ya_in rfl) (ya_in rfl) (by decide) ?_
  refine g_iload hX dL_refuses_753 rfl ?_
  refine yf_if_eq hX dL_refuses_755 (ya_in rfl) (by decide) ?_
  refine g_iload hX dL_refuses_758 rfl ?_
  refine g_const hX dL_refuses_760 ?_
  refine yf_icmp_eq hX dL_refuses_762 (ya_in rfl) (ya_in rfl) (by decide) ?_
  refine g_iload hX dL_refuses_765 rfl ?_
  refine g_const hX dL_refuses_767 ?_
  refine yf_icmp_eq hX dL_refuses_769 (ya_in rfl) (ya_in rfl) (by decide) ?_
  refine g_iload hX dL_refuses_772 rfl ?_
  refine g_const hX dL_refuses_774 ?_
  refine yf_icmp_eq hX dL_refuses_776 (ya_in rfl) (ya_in rfl) (by decide) ?_
  refine g_iload hX dL_refuses_779 rfl ?_
  refine g_const hX dL_refuses_781 ?_
  refine yt_icmp_ne hX dL_refuses_783 (ya_in rfl) (ya_in rfl) (by decide) ?_
  refine g_iload hX dL_refuses_882 rfl ?_
  refine g_const hX dL_refuses_884 ?_
  refine yf_icmp_eq hX dL_refuses_886 (ya_in rfl) (ya_in rfl) (by decide) ?_
  refine g_iload hX dL_refuses_889 rfl ?_
  refine g_const hX dL_refuses_891 ?_
  refine yt_icmp_ne hX dL_refuses_893 (ya_in rfl) (ya_in rfl) (by decide) ?_
  refine y_iinc (c := 16) hX dL_refuses_939 rfl (by decide) ?_
  dsimp only [List.set]
  refine g_goto hX dL_refuses_942 ?_
  refine g_iload hX dL_refuses_746 rfl ?_
  refine g_const hX dL_refuses_748 ?_
  refine yf_icmp_ge hX dL_refuses_750 (ya_in rfl) (ya_in rfl) (by decide) ?_
  refine g_iload hX dL_refuses_753 rfl ?_
  refine yf_if_eq hX dL_refuses_755 (ya_in rfl) (by decide) ?_
  refine g_iload hX dL_refuses_758 rfl ?_
  refine g_const hX dL_refuses_760 ?_
  refine yf_icmp_eq hX dL_refuses_762 (ya_in rfl) (ya_in rfl) (by decide) ?_
  refine g_iload hX dL_refuses_765 rfl ?_
  refine g_const hX dL_refuses_767 ?_
  refine yf_icmp_eq hX dL_refuses_769 (ya_in rfl) (ya_in rfl) (by decide) ?_
  refine g_iload hX dL_refuses_772 rfl ?_
  refine g_const hX dL_refuses_774 ?_
  refine yf_icmp_eq hX dL_refuses_776 (ya_in rfl) (ya_in rfl) (by decide) ?_
  refine g_iload hX dL_refuses_779 rfl ?_
  refine g_const hX dL_refuses_781 ?_
  refine yt_icmp_ne hX dL_refuses_783 (ya_in rfl) (ya_in rfl) (by decide) ?_
  refine g_iload hX dL_refuses_882 rfl ?_
  refine g_const hX dL_refuses_884 ?_
  refine yf_icmp_eq hX dL_refuses_886 (ya_in rfl) (ya_in rfl) (by decide) ?_
  refine g_iload hX dL_refuses_889 rfl ?_
  refine g_const hX dL_refuses_891 ?_
  refine yt_icmp_ne hX dL_refuses_893 (ya_in rfl) (ya_in rfl) (by decide) ?_
  refine y_iinc (c := 17) hX dL_refuses_939 rfl (by decide) ?_
  dsimp only [List.set]
  exact rf_g55 hX hst hR hmt rm9 rn0 rn1 rn2 rn3 hK hH hV (by omega) (by omega)

set_option maxRecDepth 20000 in
theorem rf_g53 {X : hX} (hX : Cok X mL_refuses) (hst : X.1.2.1.stackTraces = false) {M0 : hM} {sz0 : Nat} {K : hK} (hR : Ret X mL_refuses M0 sz0 K) {h : Nat} {σ : SG} {mt : Int} (hmt : metK σ (σ 1 0 0).toNat = mt) (rm9 : inR mt) (rn0 : inR (σ 0 0 0)) (rn1 : inR (σ 1 0 0)) (rn2 : inR (σ 2 0 0)) (rn3 : inR (σ 3 0 0)) (hK : ∀ (A' : Nat → Nat → Nat) (ow' : Nat → Nat × Nat) (τ' : Nat → Nat → Int) (M' : hM) (s9 : Nat), HX X.2.2.2.2.2.2.2.2.2 h A' ow' σ τ' M' → SV σ → K (.inl (some (.int (iZ 1)))) M' s9) {A : Nat → Nat → Nat} {ow : Nat → Nat × Nat} {τ : Nat → Nat → Int} {M : hM} {sz cs ss : Nat} (hH : HX X.2.2.2.2.2.2.2.2.2 h A ow σ τ M) (hV : SV σ) (hc : cs + 380 ≤ 2700) (hs : ss + 9500 ≤ 67500) : G X 746 [.ref h, .int (iZ (σ 0 0 0)), .int (iZ (σ 1 0 0)), .int (iZ (σ 2 0 0)), .int (iZ (σ 3 0 0)), .int (iZ 2147483647), .int (iZ mt), .int (iZ 3), .int (iZ (-2147483648)), .int (iZ (-2147483648)), .int (iZ (-2147483648)), .int (iZ (-2147483648)), .int (iZ (-2147483648)), .int (iZ (-2147483648)), .int (iZ (-2147483648)), .int (iZ (-2147483648)), .int (iZ (-2147483648)), .int (iZ (-2147483648)), .int (iZ 1), .int (iZ 13)] [] M sz cs ss := by
  have hn := hV.n
  unfold SVn at hn
  refine g_iload hX dL_refuses_746 rfl ?_
  refine g_const hX dL_refuses_748 ?_
  refine yf_icmp_ge hX dL_refuses_750 (ya_in rfl) (ya_in rfl) (by decide) ?_
  refine g_iload hX dL_refuses_753 rfl ?_
  refine yf_if_eq hX dL_refuses_755 (ya_in rfl) (by decide) ?_
  refine g_iload hX dL_refuses_758 rfl ?_
  refine g_const hX dL_refuses_760 ?_
  refine yt_icmp_eq hX dL_refuses_762 (ya_in rfl) (ya_in rfl) (by decide) ?_
  refine g_aload hX dL_refuses_786 rfl rfl ?_
  refine g_iload hX dL_refuses_787 rfl ?_
  refine g_iload hX dL_refuses_789 rfl ?_
  refine g_const hX dL_refuses_791 ?_
  refine g_const hX dL_refuses_792 ?_
  refine g_const hX dL_refuses_793 ?_
  refine l_act hX hst dL_refuses_794 hH hV (ya_in rfl) (ya_in rfl) (ya_in rfl) (ya_in rfl) (ya_in rfl) (ra13a (by decide +kernel)) (show cs + 10 ≤ 2700 by omega) (show ss + 250 ≤ 67500 by omega) (by first | exact Nat.le_of_ble_eq_true rfl | simp [cat_rf, Value.category]) (fun A ow τ M sz hH hV => ?_)
  refine g_const hX dL_refuses_797 ?_
  refine yf_icmp_ne hX dL_refuses_799 (ya_in rfl) (ya_in rfl) (by decide) ?_
  refine g_aload hX dL_refuses_802 rfl rfl ?_
  refine g_iload hX dL_refuses_803 rfl ?_
  refine g_const hX dL_refuses_805 ?_
  refine g_iload hX dL_refuses_808 rfl ?_
  refine g_const hX dL_refuses_810 ?_
  refine g_const hX dL_refuses_811 ?_
  refine l_act hX hst dL_refuses_812 hH hV (ya_in rfl) (ya_in rfl) (ya_in rfl) (ya_in rfl) (ya_in rfl) (ra13a (by decide +kernel)) (show cs + 10 + 10 ≤ 2700 by omega) (show ss + 250 + 250 ≤ 67500 by omega) (by first | exact Nat.le_of_ble_eq_true rfl | simp [cat_rf, Value.category]) (fun A ow τ M sz hH hV => ?_)
  refine g_const hX dL_refuses_815 ?_
  refine yf_icmp_ne hX dL_refuses_817 (ya_in rfl) (ya_in rfl) (by decide) ?_
  refine g_aload hX dL_refuses_820 rfl rfl ?_
  refine g_iload hX dL_refuses_821 rfl ?_
  refine g_const hX dL_refuses_823 ?_
  refine g_const hX dL_refuses_826 ?_
  refine g_iload hX dL_refuses_827 rfl ?_
  refine g_const hX dL_refuses_829 ?_
  refine l_act hX hst dL_refuses_830 hH hV (ya_in rfl) (ya_in rfl) (ya_in rfl) (ya_in rfl) (ya_in rfl) (ra13a (by decide +kernel)) (show cs + 10 + 10 + 10 ≤ 2700 by omega) (show ss + 250 + 250 + 250 ≤ 67500 by omega) (by first | exact Nat.le_of_ble_eq_true rfl | simp [cat_rf, Value.category]) (fun A ow τ M sz hH hV => ?_)
  refine g_const hX dL_refuses_833 ?_
  refine yf_icmp_ne hX dL_refuses_835 (ya_in rfl) (ya_in rfl) (by decide) ?_
  refine g_aload hX dL_refuses_838 rfl rfl ?_
  refine g_iload hX dL_refuses_839 rfl ?_
  refine g_const hX dL_refuses_841 ?_
  refine g_const hX dL_refuses_844 ?_
  refine g_const hX dL_refuses_845 ?_
  refine g_const hX dL_refuses_847 ?_
  refine l_act hX hst dL_refuses_848 hH hV (ya_in rfl) (ya_in rfl) (ya_in rfl) (ya_in rfl) (ya_in rfl) (ra13a (by decide +kernel)) (show cs + 10 + 10 + 10 + 10 ≤ 2700 by omega) (show ss + 250 + 250 + 250 + 250 ≤ 67500 by omega) (by first | exact Nat.le_of_ble_eq_true rfl | simp [cat_rf, Value.category]) (fun A ow τ M sz hH hV => ?_)
  refine g_const hX dL_refuses_851 ?_
  refine yf_icmp_ne hX dL_refuses_853 (ya_in rfl) (ya_in rfl) (by decide) ?_
  refine g_aload hX dL_refuses_856 rfl rfl ?_
  refine g_iload hX dL_refuses_857 rfl ?_
  refine g_const hX dL_refuses_859 ?_
  refine g_const hX dL_refuses_862 ?_
  refine g_const hX dL_refuses_864 ?_
  refine g_const hX dL_refuses_866 ?_
  refine l_act hX hst dL_refuses_867 hH hV (ya_in rfl) (ya_in rfl) (ya_in rfl) (ya_in rfl) (ya_in rfl) (ra13a (by decide +kernel)) (show cs + 10 + 10 + 10 + 10 + 10 ≤ 2700 by omega) (show ss + 250 + 250 + 250 + 250 + 250 ≤ 67500 by omega) (by first | exact Nat.le_of_ble_eq_true rfl | simp [cat_rf, Value.category]) (fun A ow τ M sz hH hV => ?_)
  refine g_const hX dL_refuses_870 ?_
  refine yf_icmp_ne hX dL_refuses_872 (ya_in rfl) (ya_in rfl) (by decide) ?_
  refine g_const hX dL_refuses_875 ?_
  refine g_goto hX dL_refuses_876 ?_
  refine g_istore hX dL_refuses_880 ?_
  dsimp only [List.set]
  refine g_iload hX dL_refuses_882 rfl ?_
  refine g_const hX dL_refuses_884 ?_
  refine yf_icmp_eq hX dL_refuses_886 (ya_in rfl) (ya_in rfl) (by decide) ?_
  refine g_iload hX dL_refuses_889 rfl ?_
  refine g_const hX dL_refuses_891 ?_
  refine yt_icmp_ne hX dL_refuses_893 (ya_in rfl) (ya_in rfl) (by decide) ?_
  refine y_iinc (c := 14) hX dL_refuses_939 rfl (by decide) ?_
  dsimp only [List.set]
  refine g_goto hX dL_refuses_942 ?_
  refine g_iload hX dL_refuses_746 rfl ?_
  refine g_const hX dL_refuses_748 ?_
  refine yf_icmp_ge hX dL_refuses_750 (ya_in rfl) (ya_in rfl) (by decide) ?_
  refine g_iload hX dL_refuses_753 rfl ?_
  refine yf_if_eq hX dL_refuses_755 (ya_in rfl) (by decide) ?_
  exact rf_g54 hX hst hR hmt rm9 rn0 rn1 rn2 rn3 hK hH hV (by omega) (by omega)

set_option maxRecDepth 20000 in
theorem rf_g52 {X : hX} (hX : Cok X mL_refuses) (hst : X.1.2.1.stackTraces = false) {M0 : hM} {sz0 : Nat} {K : hK} (hR : Ret X mL_refuses M0 sz0 K) {h : Nat} {σ : SG} {mt : Int} (hmt : metK σ (σ 1 0 0).toNat = mt) (rm9 : inR mt) (rn0 : inR (σ 0 0 0)) (rn1 : inR (σ 1 0 0)) (rn2 : inR (σ 2 0 0)) (rn3 : inR (σ 3 0 0)) (hK : ∀ (A' : Nat → Nat → Nat) (ow' : Nat → Nat × Nat) (τ' : Nat → Nat → Int) (M' : hM) (s9 : Nat), HX X.2.2.2.2.2.2.2.2.2 h A' ow' σ τ' M' → SV σ → K (.inl (some (.int (iZ 1)))) M' s9) {A : Nat → Nat → Nat} {ow : Nat → Nat × Nat} {τ : Nat → Nat → Int} {M : hM} {sz cs ss : Nat} (hH : HX X.2.2.2.2.2.2.2.2.2 h A ow σ τ M) (hV : SV σ) (hc : cs + 440 ≤ 2700) (hs : ss + 11000 ≤ 67500) : G X 587 [.ref h, .int (iZ (σ 0 0 0)), .int (iZ (σ 1 0 0)), .int (iZ (σ 2 0 0)), .int (iZ (σ 3 0 0)), .int (iZ 2147483647), .int (iZ mt), .int (iZ 3), .int (iZ (-2147483648)), .int (iZ (-2147483648)), .int (iZ (-2147483648)), .int (iZ (-2147483648)), .int (iZ (-2147483648)), .int (iZ (-2147483648)), .int (iZ (-2147483648)), .int (iZ (-2147483648)), .int (iZ (-2147483648)), .int (iZ (-2147483648)), .int (iZ 1), .int (iZ 24)] [.int (iZ (-2147483648)), .int (iZ 15), .ref h] M sz cs ss := by
  have hn := hV.n
  unfold SVn at hn
  refine g_const hX dL_refuses_587 ?_
  refine g_const hX dL_refuses_588 ?_
  refine g_const hX dL_refuses_589 ?_
  refine l_act hX hst dL_refuses_590 hH hV (ya_in rfl) (ya_in rfl) (ya_in rfl) (ya_in rfl) (ya_in rfl) (ra15a (by decide +kernel)) (show cs + 10 ≤ 2700 by omega) (show ss + 250 ≤ 67500 by omega) (by first | exact Nat.le_of_ble_eq_true rfl | simp [cat_rf, Value.category]) (fun A ow τ M sz hH hV => ?_)
  refine g_const hX dL_refuses_593 ?_
  refine yf_icmp_ne hX dL_refuses_595 (ya_in rfl) (ya_in rfl) (by decide) ?_
  refine g_aload hX dL_refuses_598 rfl rfl ?_
  refine g_const hX dL_refuses_599 ?_
  refine g_const hX dL_refuses_601 ?_
  refine g_const hX dL_refuses_602 ?_
  refine g_iload hX dL_refuses_603 rfl ?_
  refine yt_if_ne hX dL_refuses_605 (ya_in rfl) (by decide) ?_
  refine g_iload hX dL_refuses_613 rfl ?_
  refine g_const hX dL_refuses_615 ?_
  refine yt_icmp_ne hX dL_refuses_616 (ya_in rfl) (ya_in rfl) (by decide) ?_
  refine g_iload hX dL_refuses_624 rfl ?_
  refine g_const hX dL_refuses_626 ?_
  refine l_act hX hst dL_refuses_627 hH hV (ya_in rfl) (ya_in rfl) (ya_in rfl) (ya_in rfl) (ya_in rfl) (ra15a (by decide +kernel)) (show cs + 10 + 10 ≤ 2700 by omega) (show ss + 250 + 250 ≤ 67500 by omega) (by first | exact Nat.le_of_ble_eq_true rfl | simp [cat_rf, Value.category]) (fun A ow τ M sz hH hV => ?_)
  refine g_const hX dL_refuses_630 ?_
  refine yf_icmp_ne hX dL_refuses_632 (ya_in rfl) (ya_in rfl) (by decide) ?_
  refine g_aload hX dL_refuses_635 rfl rfl ?_
  refine g_const hX dL_refuses_636 ?_
  refine g_iload hX dL_refuses_638 rfl ?_
  refine g_const hX dL_refuses_640 ?_
  refine yt_icmp_ne hX dL_refuses_641 (ya_in rfl) (ya_in rfl) (by decide) ?_
  refine g_iload hX dL_refuses_649 rfl ?_
  refine g_const hX dL_refuses_651 ?_
  refine g_const hX dL_refuses_652 ?_
  refine g_const hX dL_refuses_653 ?_
  refine l_act hX hst dL_refuses_654 hH hV (ya_in rfl) (ya_in rfl) (ya_in rfl) (ya_in rfl) (ya_in rfl) (ra16a (by decide +kernel)) (show cs + 10 + 10 + 10 ≤ 2700 by omega) (show ss + 250 + 250 + 250 ≤ 67500 by omega) (by first | exact Nat.le_of_ble_eq_true rfl | simp [cat_rf, Value.category]) (fun A ow τ M sz hH hV => ?_)
  refine g_const hX dL_refuses_657 ?_
  refine yf_icmp_ne hX dL_refuses_659 (ya_in rfl) (ya_in rfl) (by decide) ?_
  refine g_aload hX dL_refuses_662 rfl rfl ?_
  refine g_const hX dL_refuses_663 ?_
  refine g_iload hX dL_refuses_665 rfl ?_
  refine g_const hX dL_refuses_667 ?_
  refine g_const hX dL_refuses_669 ?_
  refine g_const hX dL_refuses_671 ?_
  refine l_act hX hst dL_refuses_672 hH hV (ya_in rfl) (ya_in rfl) (ya_in rfl) (ya_in rfl) (ya_in rfl) (ra17a (fun q => by
    rcases q with q | q
    · omega
    · have q1 := q.1
      have q2 := q.2
      omega)) (show cs + 10 + 10 + 10 + 10 ≤ 2700 by omega) (show ss + 250 + 250 + 250 + 250 ≤ 67500 by omega) (by first | exact Nat.le_of_ble_eq_true rfl | simp [cat_rf, Value.category]) (fun A ow τ M sz hH hV => ?_)
  refine g_const hX dL_refuses_675 ?_
  refine yf_icmp_ne hX dL_refuses_677 (ya_in rfl) (ya_in rfl) (by decide) ?_
  refine g_aload hX dL_refuses_680 rfl rfl ?_
  refine g_const hX dL_refuses_681 ?_
  refine g_const hX dL_refuses_683 ?_
  refine g_iload hX dL_refuses_685 rfl ?_
  refine g_const hX dL_refuses_687 ?_
  refine yt_icmp_ne hX dL_refuses_688 (ya_in rfl) (ya_in rfl) (by decide) ?_
  refine g_iload hX dL_refuses_695 rfl ?_
  refine g_const hX dL_refuses_697 ?_
  refine g_const hX dL_refuses_698 ?_
  refine l_act hX hst dL_refuses_699 hH hV (ya_in rfl) (ya_in rfl) (ya_in rfl) (ya_in rfl) (ya_in rfl) (ra17b (Or.inl rfl) (by decide +kernel)) (show cs + 10 + 10 + 10 + 10 + 10 ≤ 2700 by omega) (show ss + 250 + 250 + 250 + 250 + 250 ≤ 67500 by omega) (by first | exact Nat.le_of_ble_eq_true rfl | simp [cat_rf, Value.category]) (fun A ow τ M sz hH hV => ?_)
  refine g_const hX dL_refuses_702 ?_
  refine yf_icmp_ne hX dL_refuses_704 (ya_in rfl) (ya_in rfl) (by decide) ?_
  refine g_aload hX dL_refuses_707 rfl rfl ?_
  refine g_const hX dL_refuses_708 ?_
  refine g_const hX dL_refuses_710 ?_
  refine g_const hX dL_refuses_712 ?_
  refine g_iload hX dL_refuses_713 rfl ?_
  refine g_const hX dL_refuses_715 ?_
  refine yt_icmp_ne hX dL_refuses_716 (ya_in rfl) (ya_in rfl) (by decide) ?_
  refine g_iload hX dL_refuses_724 rfl ?_
  refine g_const hX dL_refuses_726 ?_
  refine l_act hX hst dL_refuses_727 hH hV (ya_in rfl) (ya_in rfl) (ya_in rfl) (ya_in rfl) (ya_in rfl) (ra17b (Or.inl rfl) (by decide +kernel)) (show cs + 10 + 10 + 10 + 10 + 10 + 10 ≤ 2700 by omega) (show ss + 250 + 250 + 250 + 250 + 250 + 250 ≤ 67500 by omega) (by first | exact Nat.le_of_ble_eq_true rfl | simp [cat_rf, Value.category]) (fun A ow τ M sz hH hV => ?_)
  refine g_const hX dL_refuses_730 ?_
  refine yf_icmp_ne hX dL_refuses_732 (ya_in rfl) (ya_in rfl) (by decide) ?_
  refine g_const hX dL_refuses_735 ?_
  refine g_goto hX dL_refuses_736 ?_
  refine g_istore hX dL_refuses_740 ?_
  dsimp only [List.set]
  refine g_const hX dL_refuses_742 ?_
  refine g_istore hX dL_refuses_744 ?_
  dsimp only [List.set]
  exact rf_g53 hX hst hR hmt rm9 rn0 rn1 rn2 rn3 hK hH hV (by omega) (by omega)

set_option maxRecDepth 20000 in
theorem rf_g51 {X : hX} (hX : Cok X mL_refuses) (hst : X.1.2.1.stackTraces = false) {M0 : hM} {sz0 : Nat} {K : hK} (hR : Ret X mL_refuses M0 sz0 K) {h : Nat} {σ : SG} {mt : Int} (hmt : metK σ (σ 1 0 0).toNat = mt) (rm9 : inR mt) (rn0 : inR (σ 0 0 0)) (rn1 : inR (σ 1 0 0)) (rn2 : inR (σ 2 0 0)) (rn3 : inR (σ 3 0 0)) (hK : ∀ (A' : Nat → Nat → Nat) (ow' : Nat → Nat × Nat) (τ' : Nat → Nat → Int) (M' : hM) (s9 : Nat), HX X.2.2.2.2.2.2.2.2.2 h A' ow' σ τ' M' → SV σ → K (.inl (some (.int (iZ 1)))) M' s9) {A : Nat → Nat → Nat} {ow : Nat → Nat × Nat} {τ : Nat → Nat → Int} {M : hM} {sz cs ss : Nat} (hH : HX X.2.2.2.2.2.2.2.2.2 h A ow σ τ M) (hV : SV σ) (hc : cs + 520 ≤ 2700) (hs : ss + 13000 ≤ 67500) : G X 459 [.ref h, .int (iZ (σ 0 0 0)), .int (iZ (σ 1 0 0)), .int (iZ (σ 2 0 0)), .int (iZ (σ 3 0 0)), .int (iZ 2147483647), .int (iZ mt), .int (iZ 3), .int (iZ (-2147483648)), .int (iZ (-2147483648)), .int (iZ (-2147483648)), .int (iZ (-2147483648)), .int (iZ (-2147483648)), .int (iZ (-2147483648)), .int (iZ (-2147483648)), .int (iZ (-2147483648)), .int (iZ (-2147483648)), .int (iZ (-2147483648)), .int (iZ 1), .int (iZ 24)] [.int (iZ 1), .int (iZ (-2147483648)), .int (iZ 8), .ref h] M sz cs ss := by
  have hn := hV.n
  unfold SVn at hn
  refine g_const hX dL_refuses_459 ?_
  refine g_const hX dL_refuses_460 ?_
  refine l_act hX hst dL_refuses_461 hH hV (ya_in rfl) (ya_in rfl) (ya_in rfl) (ya_in rfl) (ya_in rfl) (ra8a (fun q => by have q1 := q.1; have q2 := q.2; omega)) (show cs + 10 ≤ 2700 by omega) (show ss + 250 ≤ 67500 by omega) (by first | exact Nat.le_of_ble_eq_true rfl | simp [cat_rf, Value.category]) (fun A ow τ M sz hH hV => ?_)
  refine g_const hX dL_refuses_464 ?_
  refine yf_icmp_ne hX dL_refuses_466 (ya_in rfl) (ya_in rfl) (by decide) ?_
  refine g_aload hX dL_refuses_469 rfl rfl ?_
  refine g_const hX dL_refuses_470 ?_
  refine g_iload hX dL_refuses_472 rfl ?_
  refine g_const hX dL_refuses_474 ?_
  refine g_const hX dL_refuses_475 ?_
  refine g_const hX dL_refuses_476 ?_
  refine l_act hX hst dL_refuses_477 hH hV (ya_in rfl) (ya_in rfl) (ya_in rfl) (ya_in rfl) (ya_in rfl) (ra9a (fun q => by have q1 := q.1; have q2 := q.2; omega)) (show cs + 10 + 10 ≤ 2700 by omega) (show ss + 250 + 250 ≤ 67500 by omega) (by first | exact Nat.le_of_ble_eq_true rfl | simp [cat_rf, Value.category]) (fun A ow τ M sz hH hV => ?_)
  refine g_const hX dL_refuses_480 ?_
  refine yf_icmp_ne hX dL_refuses_482 (ya_in rfl) (ya_in rfl) (by decide) ?_
  refine g_aload hX dL_refuses_485 rfl rfl ?_
  refine g_const hX dL_refuses_486 ?_
  refine g_iload hX dL_refuses_488 rfl ?_
  refine g_const hX dL_refuses_490 ?_
  refine g_const hX dL_refuses_492 ?_
  refine g_const hX dL_refuses_493 ?_
  refine l_act hX hst dL_refuses_494 hH hV (ya_in rfl) (ya_in rfl) (ya_in rfl) (ya_in rfl) (ya_in rfl) (ra10a (fun q => by have q1 := q.1; have q2 := q.2; omega)) (show cs + 10 + 10 + 10 ≤ 2700 by omega) (show ss + 250 + 250 + 250 ≤ 67500 by omega) (by first | exact Nat.le_of_ble_eq_true rfl | simp [cat_rf, Value.category]) (fun A ow τ M sz hH hV => ?_)
  refine g_const hX dL_refuses_497 ?_
  refine yf_icmp_ne hX dL_refuses_499 (ya_in rfl) (ya_in rfl) (by decide) ?_
  refine g_aload hX dL_refuses_502 rfl rfl ?_
  refine g_const hX dL_refuses_503 ?_
  refine g_iload hX dL_refuses_505 rfl ?_
  refine g_const hX dL_refuses_507 ?_
  refine g_const hX dL_refuses_508 ?_
  refine g_const hX dL_refuses_509 ?_
  refine l_act hX hst dL_refuses_510 hH hV (ya_in rfl) (ya_in rfl) (ya_in rfl) (ya_in rfl) (ya_in rfl) (ra11a (by decide +kernel)) (show cs + 10 + 10 + 10 + 10 ≤ 2700 by omega) (show ss + 250 + 250 + 250 + 250 ≤ 67500 by omega) (by first | exact Nat.le_of_ble_eq_true rfl | simp [cat_rf, Value.category]) (fun A ow τ M sz hH hV => ?_)
  refine g_const hX dL_refuses_513 ?_
  refine yf_icmp_ne hX dL_refuses_515 (ya_in rfl) (ya_in rfl) (by decide) ?_
  refine g_aload hX dL_refuses_518 rfl rfl ?_
  refine g_const hX dL_refuses_519 ?_
  refine g_iload hX dL_refuses_521 rfl ?_
  refine g_const hX dL_refuses_523 ?_
  refine g_const hX dL_refuses_524 ?_
  refine g_const hX dL_refuses_525 ?_
  refine l_act hX hst dL_refuses_526 hH hV (ya_in rfl) (ya_in rfl) (ya_in rfl) (ya_in rfl) (ya_in rfl) (ra12a (by decide +kernel)) (show cs + 10 + 10 + 10 + 10 + 10 ≤ 2700 by omega) (show ss + 250 + 250 + 250 + 250 + 250 ≤ 67500 by omega) (by first | exact Nat.le_of_ble_eq_true rfl | simp [cat_rf, Value.category]) (fun A ow τ M sz hH hV => ?_)
  refine g_const hX dL_refuses_529 ?_
  refine yf_icmp_ne hX dL_refuses_531 (ya_in rfl) (ya_in rfl) (by decide) ?_
  refine g_aload hX dL_refuses_534 rfl rfl ?_
  refine g_const hX dL_refuses_535 ?_
  refine g_iload hX dL_refuses_537 rfl ?_
  refine g_const hX dL_refuses_539 ?_
  refine g_const hX dL_refuses_540 ?_
  refine g_const hX dL_refuses_541 ?_
  refine l_act hX hst dL_refuses_542 hH hV (ya_in rfl) (ya_in rfl) (ya_in rfl) (ya_in rfl) (ya_in rfl) (ra14a (by decide +kernel)) (show cs + 10 + 10 + 10 + 10 + 10 + 10 ≤ 2700 by omega) (show ss + 250 + 250 + 250 + 250 + 250 + 250 ≤ 67500 by omega) (by first | exact Nat.le_of_ble_eq_true rfl | simp [cat_rf, Value.category]) (fun A ow τ M sz hH hV => ?_)
  refine g_const hX dL_refuses_545 ?_
  refine yf_icmp_ne hX dL_refuses_547 (ya_in rfl) (ya_in rfl) (by decide) ?_
  refine g_aload hX dL_refuses_550 rfl rfl ?_
  refine g_const hX dL_refuses_551 ?_
  refine g_const hX dL_refuses_553 ?_
  refine g_const hX dL_refuses_554 ?_
  refine g_iload hX dL_refuses_555 rfl ?_
  refine g_const hX dL_refuses_557 ?_
  refine l_act hX hst dL_refuses_558 hH hV (ya_in rfl) (ya_in rfl) (ya_in rfl) (ya_in rfl) (ya_in rfl) (ra14a (by decide +kernel)) (show cs + 10 + 10 + 10 + 10 + 10 + 10 + 10 ≤ 2700 by omega) (show ss + 250 + 250 + 250 + 250 + 250 + 250 + 250 ≤ 67500 by omega) (by first | exact Nat.le_of_ble_eq_true rfl | simp [cat_rf, Value.category]) (fun A ow τ M sz hH hV => ?_)
  refine g_const hX dL_refuses_561 ?_
  refine yf_icmp_ne hX dL_refuses_563 (ya_in rfl) (ya_in rfl) (by decide) ?_
  refine g_aload hX dL_refuses_566 rfl rfl ?_
  refine g_const hX dL_refuses_567 ?_
  refine g_const hX dL_refuses_569 ?_
  refine g_const hX dL_refuses_570 ?_
  refine g_const hX dL_refuses_571 ?_
  refine g_iload hX dL_refuses_572 rfl ?_
  refine l_act hX hst dL_refuses_574 hH hV (ya_in rfl) (ya_in rfl) (ya_in rfl) (ya_in rfl) (ya_in rfl) (ra14a (by decide +kernel)) (show cs + 10 + 10 + 10 + 10 + 10 + 10 + 10 + 10 ≤ 2700 by omega) (show ss + 250 + 250 + 250 + 250 + 250 + 250 + 250 + 250 ≤ 67500 by omega) (by first | exact Nat.le_of_ble_eq_true rfl | simp [cat_rf, Value.category]) (fun A ow τ M sz hH hV => ?_)
  refine g_const hX dL_refuses_577 ?_
  refine yf_icmp_ne hX dL_refuses_579 (ya_in rfl) (ya_in rfl) (by decide) ?_
  refine g_aload hX dL_refuses_582 rfl rfl ?_
  refine g_const hX dL_refuses_583 ?_
  refine g_iload hX dL_refuses_585 rfl ?_
  exact rf_g52 hX hst hR hmt rm9 rn0 rn1 rn2 rn3 hK hH hV (by omega) (by omega)

set_option maxRecDepth 20000 in
theorem rf_g50 {X : hX} (hX : Cok X mL_refuses) (hst : X.1.2.1.stackTraces = false) {M0 : hM} {sz0 : Nat} {K : hK} (hR : Ret X mL_refuses M0 sz0 K) {h : Nat} {σ : SG} {mt : Int} (hmt : metK σ (σ 1 0 0).toNat = mt) (rm9 : inR mt) (rn0 : inR (σ 0 0 0)) (rn1 : inR (σ 1 0 0)) (rn2 : inR (σ 2 0 0)) (rn3 : inR (σ 3 0 0)) (hK : ∀ (A' : Nat → Nat → Nat) (ow' : Nat → Nat × Nat) (τ' : Nat → Nat → Int) (M' : hM) (s9 : Nat), HX X.2.2.2.2.2.2.2.2.2 h A' ow' σ τ' M' → SV σ → K (.inl (some (.int (iZ 1)))) M' s9) {A : Nat → Nat → Nat} {ow : Nat → Nat × Nat} {τ : Nat → Nat → Int} {M : hM} {sz cs ss : Nat} (hH : HX X.2.2.2.2.2.2.2.2.2 h A ow σ τ M) (hV : SV σ) (hc : cs + 600 ≤ 2700) (hs : ss + 15000 ≤ 67500) : G X 337 [.ref h, .int (iZ (σ 0 0 0)), .int (iZ (σ 1 0 0)), .int (iZ (σ 2 0 0)), .int (iZ (σ 3 0 0)), .int (iZ 2147483647), .int (iZ mt), .int (iZ 3), .int (iZ (-2147483648)), .int (iZ (-2147483648)), .int (iZ (-2147483648)), .int (iZ (-2147483648)), .int (iZ (-2147483648)), .int (iZ (-2147483648)), .int (iZ (-2147483648)), .int (iZ (-2147483648)), .int (iZ (-2147483648)), .int (iZ (-2147483648)), .int (iZ 1), .int (iZ 24)] [.int (iZ (-2147483648)), .int (iZ 5), .int (iZ 1500), .int (iZ 2), .ref h] M sz cs ss := by
  have hn := hV.n
  unfold SVn at hn
  refine g_const hX dL_refuses_337 ?_
  refine l_act hX hst dL_refuses_338 hH hV (ya_in rfl) (ya_in rfl) (ya_in rfl) (ya_in rfl) (ya_in rfl) (ra2a (by decide +kernel)) (show cs + 10 ≤ 2700 by omega) (show ss + 250 ≤ 67500 by omega) (by first | exact Nat.le_of_ble_eq_true rfl | simp [cat_rf, Value.category]) (fun A ow τ M sz hH hV => ?_)
  refine g_const hX dL_refuses_341 ?_
  refine yf_icmp_ne hX dL_refuses_343 (ya_in rfl) (ya_in rfl) (by decide) ?_
  refine g_aload hX dL_refuses_346 rfl rfl ?_
  refine g_const hX dL_refuses_347 ?_
  refine g_iload hX dL_refuses_348 rfl ?_
  refine g_const hX dL_refuses_350 ?_
  refine g_const hX dL_refuses_351 ?_
  refine g_const hX dL_refuses_352 ?_
  refine l_act hX hst dL_refuses_353 hH hV (ya_in rfl) (ya_in rfl) (ya_in rfl) (ya_in rfl) (ya_in rfl) (ra3a (fun q => by have q1 := q.1; have q2 := q.2; omega)) (show cs + 10 + 10 ≤ 2700 by omega) (show ss + 250 + 250 ≤ 67500 by omega) (by first | exact Nat.le_of_ble_eq_true rfl | simp [cat_rf, Value.category]) (fun A ow τ M sz hH hV => ?_)
  refine g_const hX dL_refuses_356 ?_
  refine yf_icmp_ne hX dL_refuses_358 (ya_in rfl) (ya_in rfl) (by decide) ?_
  refine g_aload hX dL_refuses_361 rfl rfl ?_
  refine g_const hX dL_refuses_362 ?_
  refine g_iload hX dL_refuses_363 rfl ?_
  refine g_const hX dL_refuses_365 ?_
  refine g_const hX dL_refuses_366 ?_
  refine g_const hX dL_refuses_367 ?_
  refine l_act hX hst dL_refuses_368 hH hV (ya_in rfl) (ya_in rfl) (ya_in rfl) (ya_in rfl) (ya_in rfl) (ra4a (fun q => by have q1 := q.1.1; have q2 := q.1.2; omega)) (show cs + 10 + 10 + 10 ≤ 2700 by omega) (show ss + 250 + 250 + 250 ≤ 67500 by omega) (by first | exact Nat.le_of_ble_eq_true rfl | simp [cat_rf, Value.category]) (fun A ow τ M sz hH hV => ?_)
  refine g_const hX dL_refuses_371 ?_
  refine yf_icmp_ne hX dL_refuses_373 (ya_in rfl) (ya_in rfl) (by decide) ?_
  refine g_aload hX dL_refuses_376 rfl rfl ?_
  refine g_const hX dL_refuses_377 ?_
  refine g_const hX dL_refuses_378 ?_
  refine g_iload hX dL_refuses_379 rfl ?_
  refine g_const hX dL_refuses_381 ?_
  refine g_const hX dL_refuses_382 ?_
  refine l_act hX hst dL_refuses_383 hH hV (ya_in rfl) (ya_in rfl) (ya_in rfl) (ya_in rfl) (ya_in rfl) (ra4a (fun q => by have q1 := q.2.1; have q2 := q.2.2; omega)) (show cs + 10 + 10 + 10 + 10 ≤ 2700 by omega) (show ss + 250 + 250 + 250 + 250 ≤ 67500 by omega) (by first | exact Nat.le_of_ble_eq_true rfl | simp [cat_rf, Value.category]) (fun A ow τ M sz hH hV => ?_)
  refine g_const hX dL_refuses_386 ?_
  refine yf_icmp_ne hX dL_refuses_388 (ya_in rfl) (ya_in rfl) (by decide) ?_
  refine g_aload hX dL_refuses_391 rfl rfl ?_
  refine g_const hX dL_refuses_392 ?_
  refine g_iload hX dL_refuses_393 rfl ?_
  refine g_const hX dL_refuses_395 ?_
  refine g_const hX dL_refuses_396 ?_
  refine g_const hX dL_refuses_397 ?_
  refine l_act hX hst dL_refuses_398 hH hV (ya_in rfl) (ya_in rfl) (ya_in rfl) (ya_in rfl) (ya_in rfl) (ra5a (fun q => by have q1 := q.1.1; have q2 := q.1.2; omega)) (show cs + 10 + 10 + 10 + 10 + 10 ≤ 2700 by omega) (show ss + 250 + 250 + 250 + 250 + 250 ≤ 67500 by omega) (by first | exact Nat.le_of_ble_eq_true rfl | simp [cat_rf, Value.category]) (fun A ow τ M sz hH hV => ?_)
  refine g_const hX dL_refuses_401 ?_
  refine yf_icmp_ne hX dL_refuses_403 (ya_in rfl) (ya_in rfl) (by decide) ?_
  refine g_aload hX dL_refuses_406 rfl rfl ?_
  refine g_const hX dL_refuses_407 ?_
  refine g_const hX dL_refuses_408 ?_
  refine g_iload hX dL_refuses_409 rfl ?_
  refine g_const hX dL_refuses_411 ?_
  refine g_const hX dL_refuses_412 ?_
  refine l_act hX hst dL_refuses_413 hH hV (ya_in rfl) (ya_in rfl) (ya_in rfl) (ya_in rfl) (ya_in rfl) (ra5a (fun q => by have q1 := q.2.1; have q2 := q.2.2; omega)) (show cs + 10 + 10 + 10 + 10 + 10 + 10 ≤ 2700 by omega) (show ss + 250 + 250 + 250 + 250 + 250 + 250 ≤ 67500 by omega) (by first | exact Nat.le_of_ble_eq_true rfl | simp [cat_rf, Value.category]) (fun A ow τ M sz hH hV => ?_)
  refine g_const hX dL_refuses_416 ?_
  refine yf_icmp_ne hX dL_refuses_418 (ya_in rfl) (ya_in rfl) (by decide) ?_
  refine g_aload hX dL_refuses_421 rfl rfl ?_
  refine g_const hX dL_refuses_422 ?_
  refine g_iload hX dL_refuses_424 rfl ?_
  refine g_const hX dL_refuses_426 ?_
  refine g_const hX dL_refuses_427 ?_
  refine g_const hX dL_refuses_428 ?_
  refine l_act hX hst dL_refuses_429 hH hV (ya_in rfl) (ya_in rfl) (ya_in rfl) (ya_in rfl) (ya_in rfl) (ra6a (fun q => by have q1 := q.1; have q2 := q.2; omega)) (show cs + 10 + 10 + 10 + 10 + 10 + 10 + 10 ≤ 2700 by omega) (show ss + 250 + 250 + 250 + 250 + 250 + 250 + 250 ≤ 67500 by omega) (by first | exact Nat.le_of_ble_eq_true rfl | simp [cat_rf, Value.category]) (fun A ow τ M sz hH hV => ?_)
  refine g_const hX dL_refuses_432 ?_
  refine yf_icmp_ne hX dL_refuses_434 (ya_in rfl) (ya_in rfl) (by decide) ?_
  refine g_aload hX dL_refuses_437 rfl rfl ?_
  refine g_const hX dL_refuses_438 ?_
  refine g_iload hX dL_refuses_440 rfl ?_
  refine g_const hX dL_refuses_442 ?_
  refine g_const hX dL_refuses_443 ?_
  refine g_const hX dL_refuses_444 ?_
  refine l_act hX hst dL_refuses_445 hH hV (ya_in rfl) (ya_in rfl) (ya_in rfl) (ya_in rfl) (ya_in rfl) (ra7a (fun q => by have q1 := q.1; have q2 := q.2; omega)) (show cs + 10 + 10 + 10 + 10 + 10 + 10 + 10 + 10 ≤ 2700 by omega) (show ss + 250 + 250 + 250 + 250 + 250 + 250 + 250 + 250 ≤ 67500 by omega) (by first | exact Nat.le_of_ble_eq_true rfl | simp [cat_rf, Value.category]) (fun A ow τ M sz hH hV => ?_)
  refine g_const hX dL_refuses_448 ?_
  refine yf_icmp_ne hX dL_refuses_450 (ya_in rfl) (ya_in rfl) (by decide) ?_
  refine g_aload hX dL_refuses_453 rfl rfl ?_
  refine g_const hX dL_refuses_454 ?_
  refine g_iload hX dL_refuses_456 rfl ?_
  refine g_const hX dL_refuses_458 ?_
  exact rf_g51 hX hst hR hmt rm9 rn0 rn1 rn2 rn3 hK hH hV (by omega) (by omega)

set_option maxRecDepth 20000 in
theorem rf_g49 {X : hX} (hX : Cok X mL_refuses) (hst : X.1.2.1.stackTraces = false) {M0 : hM} {sz0 : Nat} {K : hK} (hR : Ret X mL_refuses M0 sz0 K) {h : Nat} {σ : SG} {mt : Int} (hmt : metK σ (σ 1 0 0).toNat = mt) (rm9 : inR mt) (rn0 : inR (σ 0 0 0)) (rn1 : inR (σ 1 0 0)) (rn2 : inR (σ 2 0 0)) (rn3 : inR (σ 3 0 0)) (hK : ∀ (A' : Nat → Nat → Nat) (ow' : Nat → Nat × Nat) (τ' : Nat → Nat → Int) (M' : hM) (s9 : Nat), HX X.2.2.2.2.2.2.2.2.2 h A' ow' σ τ' M' → SV σ → K (.inl (some (.int (iZ 1)))) M' s9) {A : Nat → Nat → Nat} {ow : Nat → Nat × Nat} {τ : Nat → Nat → Int} {M : hM} {sz cs ss : Nat} (hH : HX X.2.2.2.2.2.2.2.2.2 h A ow σ τ M) (hV : SV σ) (hc : cs + 650 ≤ 2700) (hs : ss + 16250 ≤ 67500) : G X 181 [.ref h, .int (iZ (σ 0 0 0)), .int (iZ (σ 1 0 0)), .int (iZ (σ 2 0 0)), .int (iZ (σ 3 0 0)), .int (iZ 2147483647), .int (iZ mt), .int (iZ 3), .int (iZ (-2147483648)), .int (iZ (-2147483648)), .int (iZ (-2147483648)), .int (iZ (-2147483648)), .int (iZ (-2147483648)), .int (iZ (-2147483648)), .int (iZ (-2147483648)), .int (iZ (-2147483648)), .int (iZ 2147483647), .int (iZ 2147483647), .int (iZ 1), .int (iZ 24)] [] M sz cs ss := by
  have hn := hV.n
  unfold SVn at hn
  refine g_iload hX dL_refuses_181 rfl ?_
  refine yt_if_ne hX dL_refuses_183 (ya_in rfl) (by decide) ?_
  refine g_iload hX dL_refuses_190 rfl ?_
  refine g_const hX dL_refuses_192 ?_
  refine yt_icmp_ne hX dL_refuses_193 (ya_in rfl) (ya_in rfl) (by decide) ?_
  refine g_iload hX dL_refuses_201 rfl ?_
  refine g_istore hX dL_refuses_203 ?_
  dsimp only [List.set]
  refine g_iload hX dL_refuses_205 rfl ?_
  refine yt_if_ne hX dL_refuses_207 (ya_in rfl) (by decide) ?_
  refine g_iload hX dL_refuses_214 rfl ?_
  refine g_const hX dL_refuses_216 ?_
  refine yt_icmp_ne hX dL_refuses_217 (ya_in rfl) (ya_in rfl) (by decide) ?_
  refine g_iload hX dL_refuses_225 rfl ?_
  refine g_istore hX dL_refuses_227 ?_
  dsimp only [List.set]
  refine g_aload hX dL_refuses_229 rfl rfl ?_
  refine g_const hX dL_refuses_230 ?_
  refine g_iload hX dL_refuses_231 rfl ?_
  refine g_const hX dL_refuses_233 ?_
  refine g_const hX dL_refuses_234 ?_
  refine g_const hX dL_refuses_235 ?_
  refine l_act hX hst dL_refuses_236 hH hV (ya_in rfl) (ya_in rfl) (ya_in rfl) (ya_in rfl) (ya_in rfl) (ra0a (by decide +kernel)) (show cs + 10 ≤ 2700 by omega) (show ss + 250 ≤ 67500 by omega) (by first | exact Nat.le_of_ble_eq_true rfl | simp [cat_rf, Value.category]) (fun A ow τ M sz hH hV => ?_)
  refine g_const hX dL_refuses_239 ?_
  refine yf_icmp_ne hX dL_refuses_241 (ya_in rfl) (ya_in rfl) (by decide) ?_
  refine g_aload hX dL_refuses_244 rfl rfl ?_
  refine g_const hX dL_refuses_245 ?_
  refine g_const hX dL_refuses_246 ?_
  refine g_iload hX dL_refuses_249 rfl ?_
  refine g_const hX dL_refuses_251 ?_
  refine yt_icmp_ne hX dL_refuses_252 (ya_in rfl) (ya_in rfl) (by decide) ?_
  refine g_iload hX dL_refuses_260 rfl ?_
  refine g_const hX dL_refuses_262 ?_
  refine g_const hX dL_refuses_263 ?_
  refine l_act hX hst dL_refuses_264 hH hV (ya_in rfl) (ya_in rfl) (ya_in rfl) (ya_in rfl) (ya_in rfl) (ra0a (by decide +kernel)) (show cs + 10 + 10 ≤ 2700 by omega) (show ss + 250 + 250 ≤ 67500 by omega) (by first | exact Nat.le_of_ble_eq_true rfl | simp [cat_rf, Value.category]) (fun A ow τ M sz hH hV => ?_)
  refine g_const hX dL_refuses_267 ?_
  refine yf_icmp_ne hX dL_refuses_269 (ya_in rfl) (ya_in rfl) (by decide) ?_
  refine g_aload hX dL_refuses_272 rfl rfl ?_
  refine g_const hX dL_refuses_273 ?_
  refine g_iload hX dL_refuses_274 rfl ?_
  refine g_const hX dL_refuses_276 ?_
  refine g_const hX dL_refuses_277 ?_
  refine g_const hX dL_refuses_278 ?_
  refine l_act hX hst dL_refuses_279 hH hV (ya_in rfl) (ya_in rfl) (ya_in rfl) (ya_in rfl) (ya_in rfl) (ra1a (fun q => by have q1 := q.1; have q2 := q.2; omega)) (show cs + 10 + 10 + 10 ≤ 2700 by omega) (show ss + 250 + 250 + 250 ≤ 67500 by omega) (by first | exact Nat.le_of_ble_eq_true rfl | simp [cat_rf, Value.category]) (fun A ow τ M sz hH hV => ?_)
  refine g_const hX dL_refuses_282 ?_
  refine yf_icmp_ne hX dL_refuses_284 (ya_in rfl) (ya_in rfl) (by decide) ?_
  refine g_aload hX dL_refuses_287 rfl rfl ?_
  refine g_const hX dL_refuses_288 ?_
  refine g_iload hX dL_refuses_289 rfl ?_
  refine g_const hX dL_refuses_291 ?_
  refine g_const hX dL_refuses_292 ?_
  refine g_const hX dL_refuses_293 ?_
  refine l_act hX hst dL_refuses_294 hH hV (ya_in rfl) (ya_in rfl) (ya_in rfl) (ya_in rfl) (ya_in rfl) (ra2a (by decide +kernel)) (show cs + 10 + 10 + 10 + 10 ≤ 2700 by omega) (show ss + 250 + 250 + 250 + 250 ≤ 67500 by omega) (by first | exact Nat.le_of_ble_eq_true rfl | simp [cat_rf, Value.category]) (fun A ow τ M sz hH hV => ?_)
  refine g_const hX dL_refuses_297 ?_
  refine yf_icmp_ne hX dL_refuses_299 (ya_in rfl) (ya_in rfl) (by decide) ?_
  refine g_aload hX dL_refuses_302 rfl rfl ?_
  refine g_const hX dL_refuses_303 ?_
  refine g_const hX dL_refuses_304 ?_
  refine g_iload hX dL_refuses_307 rfl ?_
  refine g_const hX dL_refuses_309 ?_
  refine g_const hX dL_refuses_311 ?_
  refine l_act hX hst dL_refuses_312 hH hV (ya_in rfl) (ya_in rfl) (ya_in rfl) (ya_in rfl) (ya_in rfl) (ra2a (by decide +kernel)) (show cs + 10 + 10 + 10 + 10 + 10 ≤ 2700 by omega) (show ss + 250 + 250 + 250 + 250 + 250 ≤ 67500 by omega) (by first | exact Nat.le_of_ble_eq_true rfl | simp [cat_rf, Value.category]) (fun A ow τ M sz hH hV => ?_)
  refine g_const hX dL_refuses_315 ?_
  refine yf_icmp_ne hX dL_refuses_317 (ya_in rfl) (ya_in rfl) (by decide) ?_
  refine g_aload hX dL_refuses_320 rfl rfl ?_
  refine g_const hX dL_refuses_321 ?_
  refine g_const hX dL_refuses_322 ?_
  refine g_const hX dL_refuses_325 ?_
  refine g_iload hX dL_refuses_326 rfl ?_
  refine yt_if_ne hX dL_refuses_328 (ya_in rfl) (by decide) ?_
  refine g_iload hX dL_refuses_335 rfl ?_
  exact rf_g50 hX hst hR hmt rm9 rn0 rn1 rn2 rn3 hK hH hV (by omega) (by omega)

set_option maxRecDepth 20000 in
theorem rf_g48 {X : hX} (hX : Cok X mL_refuses) (hst : X.1.2.1.stackTraces = false) {M0 : hM} {sz0 : Nat} {K : hK} (hR : Ret X mL_refuses M0 sz0 K) {h : Nat} {σ : SG} {mt : Int} (hmt : metK σ (σ 1 0 0).toNat = mt) (rm9 : inR mt) (rn0 : inR (σ 0 0 0)) (rn1 : inR (σ 1 0 0)) (rn2 : inR (σ 2 0 0)) (rn3 : inR (σ 3 0 0)) (hK : ∀ (A' : Nat → Nat → Nat) (ow' : Nat → Nat × Nat) (τ' : Nat → Nat → Int) (M' : hM) (s9 : Nat), HX X.2.2.2.2.2.2.2.2.2 h A' ow' σ τ' M' → SV σ → K (.inl (some (.int (iZ 1)))) M' s9) {A : Nat → Nat → Nat} {ow : Nat → Nat × Nat} {τ : Nat → Nat → Int} {M : hM} {sz cs ss : Nat} (hH : HX X.2.2.2.2.2.2.2.2.2 h A ow σ τ M) (hV : SV σ) (hc : cs + 650 ≤ 2700) (hs : ss + 16250 ≤ 67500) : G X 1307 [.ref h, .int (iZ (σ 0 0 0)), .int (iZ (σ 1 0 0)), .int (iZ (σ 2 0 0)), .int (iZ (σ 3 0 0)), .int (iZ 2147483647), .int (iZ mt), .int (iZ 2), .int (iZ 2147483647), .int (iZ 2147483647), .int (iZ 2147483647), .int (iZ 2147483647), .int (iZ 2147483647), .int (iZ 2147483647), .int (iZ 2147483647), .int (iZ 2147483647), .int (iZ 2147483647), .int (iZ 2147483647), .int (iZ 1), .int (iZ 24)] [] M sz cs ss := by
  have hn := hV.n
  unfold SVn at hn
  refine g_const hX dL_refuses_1307 ?_
  refine g_goto hX dL_refuses_1308 ?_
  refine g_istore hX dL_refuses_1312 ?_
  dsimp only [List.set]
  refine g_iload hX dL_refuses_1314 rfl ?_
  refine yt_if_ne hX dL_refuses_1316 (ya_in rfl) (by decide) ?_
  refine y_iinc (c := 3) hX dL_refuses_1321 rfl (by decide) ?_
  dsimp only [List.set]
  refine g_goto hX dL_refuses_1324 ?_
  refine g_iload hX dL_refuses_13 rfl ?_
  refine g_const hX dL_refuses_15 ?_
  refine yf_icmp_ge hX dL_refuses_16 (ya_in rfl) (ya_in rfl) (by decide) ?_
  refine g_iload hX dL_refuses_19 rfl ?_
  refine yt_if_ne hX dL_refuses_21 (ya_in rfl) (by decide) ?_
  refine g_iload hX dL_refuses_28 rfl ?_
  refine g_const hX dL_refuses_30 ?_
  refine yt_icmp_ne hX dL_refuses_31 (ya_in rfl) (ya_in rfl) (by decide) ?_
  refine g_iload hX dL_refuses_39 rfl ?_
  refine y_ineg (c := (-2147483647)) hX dL_refuses_41 (by decide) ?_
  refine g_const hX dL_refuses_42 ?_
  refine y_isub (c := (-2147483648)) hX dL_refuses_43 (by decide) ?_
  refine g_istore hX dL_refuses_44 ?_
  dsimp only [List.set]
  refine g_iload hX dL_refuses_46 rfl ?_
  refine g_const hX dL_refuses_48 ?_
  refine yt_icmp_ne hX dL_refuses_49 (ya_in rfl) (ya_in rfl) (by decide) ?_
  refine g_iload hX dL_refuses_56 rfl ?_
  refine g_istore hX dL_refuses_58 ?_
  dsimp only [List.set]
  refine g_iload hX dL_refuses_60 rfl ?_
  refine g_const hX dL_refuses_62 ?_
  refine yt_icmp_ne hX dL_refuses_63 (ya_in rfl) (ya_in rfl) (by decide) ?_
  refine g_iload hX dL_refuses_70 rfl ?_
  refine g_istore hX dL_refuses_72 ?_
  dsimp only [List.set]
  refine g_iload hX dL_refuses_74 rfl ?_
  refine g_const hX dL_refuses_76 ?_
  refine yt_icmp_ne hX dL_refuses_77 (ya_in rfl) (ya_in rfl) (by decide) ?_
  refine g_iload hX dL_refuses_84 rfl ?_
  refine g_istore hX dL_refuses_86 ?_
  dsimp only [List.set]
  refine g_iload hX dL_refuses_88 rfl ?_
  refine yt_if_ne hX dL_refuses_90 (ya_in rfl) (by decide) ?_
  refine g_iload hX dL_refuses_99 rfl ?_
  refine g_const hX dL_refuses_101 ?_
  refine yt_icmp_ne hX dL_refuses_102 (ya_in rfl) (ya_in rfl) (by decide) ?_
  refine g_iload hX dL_refuses_111 rfl ?_
  refine g_istore hX dL_refuses_113 ?_
  dsimp only [List.set]
  refine g_iload hX dL_refuses_115 rfl ?_
  refine yt_if_ne hX dL_refuses_117 (ya_in rfl) (by decide) ?_
  refine g_iload hX dL_refuses_126 rfl ?_
  refine g_const hX dL_refuses_128 ?_
  refine yt_icmp_ne hX dL_refuses_129 (ya_in rfl) (ya_in rfl) (by decide) ?_
  refine g_iload hX dL_refuses_138 rfl ?_
  refine g_istore hX dL_refuses_140 ?_
  dsimp only [List.set]
  refine g_iload hX dL_refuses_142 rfl ?_
  refine yt_if_ne hX dL_refuses_144 (ya_in rfl) (by decide) ?_
  refine g_iload hX dL_refuses_151 rfl ?_
  refine g_const hX dL_refuses_153 ?_
  refine yt_icmp_ne hX dL_refuses_154 (ya_in rfl) (ya_in rfl) (by decide) ?_
  refine g_iload hX dL_refuses_162 rfl ?_
  refine g_istore hX dL_refuses_164 ?_
  dsimp only [List.set]
  refine g_iload hX dL_refuses_166 rfl ?_
  refine g_const hX dL_refuses_168 ?_
  refine yt_icmp_ne hX dL_refuses_169 (ya_in rfl) (ya_in rfl) (by decide) ?_
  refine g_iload hX dL_refuses_177 rfl ?_
  refine g_istore hX dL_refuses_179 ?_
  dsimp only [List.set]
  exact rf_g49 hX hst hR hmt rm9 rn0 rn1 rn2 rn3 hK hH hV (by omega) (by omega)

set_option maxRecDepth 20000 in
theorem rf_g47 {X : hX} (hX : Cok X mL_refuses) (hst : X.1.2.1.stackTraces = false) {M0 : hM} {sz0 : Nat} {K : hK} (hR : Ret X mL_refuses M0 sz0 K) {h : Nat} {σ : SG} {mt : Int} (hmt : metK σ (σ 1 0 0).toNat = mt) (rm9 : inR mt) (rn0 : inR (σ 0 0 0)) (rn1 : inR (σ 1 0 0)) (rn2 : inR (σ 2 0 0)) (rn3 : inR (σ 3 0 0)) (hK : ∀ (A' : Nat → Nat → Nat) (ow' : Nat → Nat × Nat) (τ' : Nat → Nat → Int) (M' : hM) (s9 : Nat), HX X.2.2.2.2.2.2.2.2.2 h A' ow' σ τ' M' → SV σ → K (.inl (some (.int (iZ 1)))) M' s9) {A : Nat → Nat → Nat} {ow : Nat → Nat × Nat} {τ : Nat → Nat → Int} {M : hM} {sz cs ss : Nat} (hH : HX X.2.2.2.2.2.2.2.2.2 h A ow σ τ M) (hV : SV σ) (hc : cs + 690 ≤ 2700) (hs : ss + 17250 ≤ 67500) : G X 1184 [.ref h, .int (iZ (σ 0 0 0)), .int (iZ (σ 1 0 0)), .int (iZ (σ 2 0 0)), .int (iZ (σ 3 0 0)), .int (iZ 2147483647), .int (iZ mt), .int (iZ 2), .int (iZ 2147483647), .int (iZ 2147483647), .int (iZ 2147483647), .int (iZ 2147483647), .int (iZ 2147483647), .int (iZ 2147483647), .int (iZ 2147483647), .int (iZ 2147483647), .int (iZ 2147483647), .int (iZ 2147483647), .int (iZ 1), .int (iZ 24)] [] M sz cs ss := by
  have hn := hV.n
  unfold SVn at hn
  refine g_const hX dL_refuses_1184 ?_
  refine g_goto hX dL_refuses_1185 ?_
  refine g_istore hX dL_refuses_1189 ?_
  dsimp only [List.set]
  refine g_iload hX dL_refuses_1191 rfl ?_
  refine yf_if_eq hX dL_refuses_1193 (ya_in rfl) (by decide) ?_
  refine g_iload hX dL_refuses_1196 rfl ?_
  refine z_if_eq hX dL_refuses_1197 rn1 (fun c9 => ?_) (fun c9 => ?_)
  · exact rf_g48 hX hst hR hmt rm9 rn0 rn1 rn2 rn3 hK hH hV (by omega) (by omega)
  refine g_aload hX dL_refuses_1200 rfl rfl ?_
  refine g_const hX dL_refuses_1201 ?_
  refine g_const hX dL_refuses_1202 ?_
  refine g_iload hX dL_refuses_1203 rfl ?_
  refine yt_if_ne hX dL_refuses_1205 (ya_in rfl) (by decide) ?_
  refine g_iload hX dL_refuses_1212 rfl ?_
  refine g_const hX dL_refuses_1214 ?_
  refine yt_icmp_ne hX dL_refuses_1215 (ya_in rfl) (ya_in rfl) (by decide) ?_
  refine g_iload hX dL_refuses_1223 rfl ?_
  refine g_const hX dL_refuses_1225 ?_
  refine g_const hX dL_refuses_1226 ?_
  refine l_act hX hst dL_refuses_1227 hH hV (ya_in rfl) (ya_in rfl) (ya_in rfl) (ya_in rfl) (ya_in rfl) (ra3b ⟨by omega, by omega⟩ (by decide +kernel)) (show cs + 10 ≤ 2700 by omega) (show ss + 250 ≤ 67500 by omega) (by first | exact Nat.le_of_ble_eq_true rfl | simp [cat_rf, Value.category]) (fun A ow τ M sz hH hV => ?_)
  refine g_const hX dL_refuses_1230 ?_
  refine yf_icmp_ne hX dL_refuses_1232 (ya_in rfl) (ya_in rfl) (by decide) ?_
  refine g_aload hX dL_refuses_1235 rfl rfl ?_
  refine g_const hX dL_refuses_1236 ?_
  refine g_const hX dL_refuses_1237 ?_
  refine g_const hX dL_refuses_1238 ?_
  refine g_iload hX dL_refuses_1240 rfl ?_
  refine g_const hX dL_refuses_1242 ?_
  refine yt_icmp_ne hX dL_refuses_1243 (ya_in rfl) (ya_in rfl) (by decide) ?_
  refine g_iload hX dL_refuses_1252 rfl ?_
  refine g_const hX dL_refuses_1254 ?_
  refine l_act hX hst dL_refuses_1255 hH hV (ya_in rfl) (ya_in rfl) (ya_in rfl) (ya_in rfl) (ya_in rfl) (ra3b ⟨by omega, by omega⟩ (by decide +kernel)) (show cs + 10 + 10 ≤ 2700 by omega) (show ss + 250 + 250 ≤ 67500 by omega) (by first | exact Nat.le_of_ble_eq_true rfl | simp [cat_rf, Value.category]) (fun A ow τ M sz hH hV => ?_)
  refine g_const hX dL_refuses_1258 ?_
  refine yf_icmp_ne hX dL_refuses_1260 (ya_in rfl) (ya_in rfl) (by decide) ?_
  refine g_aload hX dL_refuses_1263 rfl rfl ?_
  refine g_const hX dL_refuses_1264 ?_
  refine g_const hX dL_refuses_1266 ?_
  refine g_iload hX dL_refuses_1267 rfl ?_
  refine g_const hX dL_refuses_1269 ?_
  refine g_const hX dL_refuses_1271 ?_
  refine l_act hX hst dL_refuses_1272 hH hV (ya_in rfl) (ya_in rfl) (ya_in rfl) (ya_in rfl) (ya_in rfl) (ra10b ⟨by omega, by omega⟩ (by decide +kernel)) (show cs + 10 + 10 + 10 ≤ 2700 by omega) (show ss + 250 + 250 + 250 ≤ 67500 by omega) (by first | exact Nat.le_of_ble_eq_true rfl | simp [cat_rf, Value.category]) (fun A ow τ M sz hH hV => ?_)
  refine g_const hX dL_refuses_1275 ?_
  refine yf_icmp_ne hX dL_refuses_1277 (ya_in rfl) (ya_in rfl) (by decide) ?_
  refine g_aload hX dL_refuses_1280 rfl rfl ?_
  refine g_const hX dL_refuses_1281 ?_
  refine g_const hX dL_refuses_1283 ?_
  refine g_const hX dL_refuses_1284 ?_
  refine g_iload hX dL_refuses_1286 rfl ?_
  refine yt_if_ne hX dL_refuses_1288 (ya_in rfl) (by decide) ?_
  refine g_iload hX dL_refuses_1296 rfl ?_
  refine g_const hX dL_refuses_1298 ?_
  refine l_act hX hst dL_refuses_1299 hH hV (ya_in rfl) (ya_in rfl) (ya_in rfl) (ya_in rfl) (ya_in rfl) (ra10b ⟨by omega, by omega⟩ (by decide +kernel)) (show cs + 10 + 10 + 10 + 10 ≤ 2700 by omega) (show ss + 250 + 250 + 250 + 250 ≤ 67500 by omega) (by first | exact Nat.le_of_ble_eq_true rfl | simp [cat_rf, Value.category]) (fun A ow τ M sz hH hV => ?_)
  refine g_const hX dL_refuses_1302 ?_
  refine yf_icmp_ne hX dL_refuses_1304 (ya_in rfl) (ya_in rfl) (by decide) ?_
  exact rf_g48 hX hst hR hmt rm9 rn0 rn1 rn2 rn3 hK hH hV (by omega) (by omega)

set_option maxRecDepth 20000 in
theorem rf_g46 {X : hX} (hX : Cok X mL_refuses) (hst : X.1.2.1.stackTraces = false) {M0 : hM} {sz0 : Nat} {K : hK} (hR : Ret X mL_refuses M0 sz0 K) {h : Nat} {σ : SG} {mt : Int} (hmt : metK σ (σ 1 0 0).toNat = mt) (rm9 : inR mt) (rn0 : inR (σ 0 0 0)) (rn1 : inR (σ 1 0 0)) (rn2 : inR (σ 2 0 0)) (rn3 : inR (σ 3 0 0)) (hK : ∀ (A' : Nat → Nat → Nat) (ow' : Nat → Nat × Nat) (τ' : Nat → Nat → Int) (M' : hM) (s9 : Nat), HX X.2.2.2.2.2.2.2.2.2 h A' ow' σ τ' M' → SV σ → K (.inl (some (.int (iZ 1)))) M' s9) {A : Nat → Nat → Nat} {ow : Nat → Nat × Nat} {τ : Nat → Nat → Int} {M : hM} {sz cs ss : Nat} (hH : HX X.2.2.2.2.2.2.2.2.2 h A ow σ τ M) (hV : SV σ) (hc : cs + 730 ≤ 2700) (hs : ss + 18250 ≤ 67500) : G X 1073 [.ref h, .int (iZ (σ 0 0 0)), .int (iZ (σ 1 0 0)), .int (iZ (σ 2 0 0)), .int (iZ (σ 3 0 0)), .int (iZ 2147483647), .int (iZ mt), .int (iZ 2), .int (iZ 2147483647), .int (iZ 2147483647), .int (iZ 2147483647), .int (iZ 2147483647), .int (iZ 2147483647), .int (iZ 2147483647), .int (iZ 2147483647), .int (iZ 2147483647), .int (iZ 2147483647), .int (iZ 2147483647), .int (iZ 1), .int (iZ 24)] [] M sz cs ss := by
  have hn := hV.n
  unfold SVn at hn
  refine g_const hX dL_refuses_1073 ?_
  refine g_goto hX dL_refuses_1074 ?_
  refine g_istore hX dL_refuses_1078 ?_
  dsimp only [List.set]
  refine g_iload hX dL_refuses_1080 rfl ?_
  refine yf_if_eq hX dL_refuses_1082 (ya_in rfl) (by decide) ?_
  refine g_iload hX dL_refuses_1085 rfl ?_
  refine z_if_eq hX dL_refuses_1086 rn0 (fun c9 => ?_) (fun c9 => ?_)
  · exact rf_g47 hX hst hR hmt rm9 rn0 rn1 rn2 rn3 hK hH hV (by omega) (by omega)
  refine g_aload hX dL_refuses_1089 rfl rfl ?_
  refine g_const hX dL_refuses_1090 ?_
  refine g_const hX dL_refuses_1091 ?_
  refine g_iload hX dL_refuses_1092 rfl ?_
  refine yt_if_ne hX dL_refuses_1094 (ya_in rfl) (by decide) ?_
  refine g_iload hX dL_refuses_1101 rfl ?_
  refine g_const hX dL_refuses_1103 ?_
  refine yt_icmp_ne hX dL_refuses_1104 (ya_in rfl) (ya_in rfl) (by decide) ?_
  refine g_iload hX dL_refuses_1112 rfl ?_
  refine g_const hX dL_refuses_1114 ?_
  refine g_const hX dL_refuses_1115 ?_
  refine l_act hX hst dL_refuses_1116 hH hV (ya_in rfl) (ya_in rfl) (ya_in rfl) (ya_in rfl) (ya_in rfl) (ra1b ⟨by omega, by omega⟩ (by decide +kernel)) (show cs + 10 ≤ 2700 by omega) (show ss + 250 ≤ 67500 by omega) (by first | exact Nat.le_of_ble_eq_true rfl | simp [cat_rf, Value.category]) (fun A ow τ M sz hH hV => ?_)
  refine g_const hX dL_refuses_1119 ?_
  refine yf_icmp_ne hX dL_refuses_1121 (ya_in rfl) (ya_in rfl) (by decide) ?_
  refine g_aload hX dL_refuses_1124 rfl rfl ?_
  refine g_const hX dL_refuses_1125 ?_
  refine g_const hX dL_refuses_1126 ?_
  refine g_const hX dL_refuses_1127 ?_
  refine g_iload hX dL_refuses_1128 rfl ?_
  refine g_const hX dL_refuses_1130 ?_
  refine yt_icmp_ne hX dL_refuses_1131 (ya_in rfl) (ya_in rfl) (by decide) ?_
  refine g_iload hX dL_refuses_1139 rfl ?_
  refine g_const hX dL_refuses_1141 ?_
  refine l_act hX hst dL_refuses_1142 hH hV (ya_in rfl) (ya_in rfl) (ya_in rfl) (ya_in rfl) (ya_in rfl) (ra1b ⟨by omega, by omega⟩ (by decide +kernel)) (show cs + 10 + 10 ≤ 2700 by omega) (show ss + 250 + 250 ≤ 67500 by omega) (by first | exact Nat.le_of_ble_eq_true rfl | simp [cat_rf, Value.category]) (fun A ow τ M sz hH hV => ?_)
  refine g_const hX dL_refuses_1145 ?_
  refine yf_icmp_ne hX dL_refuses_1147 (ya_in rfl) (ya_in rfl) (by decide) ?_
  refine g_aload hX dL_refuses_1150 rfl rfl ?_
  refine g_const hX dL_refuses_1151 ?_
  refine g_const hX dL_refuses_1153 ?_
  refine g_iload hX dL_refuses_1154 rfl ?_
  refine g_const hX dL_refuses_1156 ?_
  refine g_const hX dL_refuses_1157 ?_
  refine l_act hX hst dL_refuses_1158 hH hV (ya_in rfl) (ya_in rfl) (ya_in rfl) (ya_in rfl) (ya_in rfl) (ra22b ⟨by omega, by omega⟩ (by decide +kernel)) (show cs + 10 + 10 + 10 ≤ 2700 by omega) (show ss + 250 + 250 + 250 ≤ 67500 by omega) (by first | exact Nat.le_of_ble_eq_true rfl | simp [cat_rf, Value.category]) (fun A ow τ M sz hH hV => ?_)
  refine g_const hX dL_refuses_1161 ?_
  refine yf_icmp_ne hX dL_refuses_1163 (ya_in rfl) (ya_in rfl) (by decide) ?_
  refine g_aload hX dL_refuses_1166 rfl rfl ?_
  refine g_const hX dL_refuses_1167 ?_
  refine g_const hX dL_refuses_1169 ?_
  refine g_const hX dL_refuses_1170 ?_
  refine g_const hX dL_refuses_1173 ?_
  refine g_const hX dL_refuses_1174 ?_
  refine l_act hX hst dL_refuses_1176 hH hV (ya_in rfl) (ya_in rfl) (ya_in rfl) (ya_in rfl) (ya_in rfl) (ra22b ⟨by omega, by omega⟩ (by decide +kernel)) (show cs + 10 + 10 + 10 + 10 ≤ 2700 by omega) (show ss + 250 + 250 + 250 + 250 ≤ 67500 by omega) (by first | exact Nat.le_of_ble_eq_true rfl | simp [cat_rf, Value.category]) (fun A ow τ M sz hH hV => ?_)
  refine g_const hX dL_refuses_1179 ?_
  refine yf_icmp_ne hX dL_refuses_1181 (ya_in rfl) (ya_in rfl) (by decide) ?_
  exact rf_g47 hX hst hR hmt rm9 rn0 rn1 rn2 rn3 hK hH hV (by omega) (by omega)

set_option maxRecDepth 20000 in
theorem rf_g45 {X : hX} (hX : Cok X mL_refuses) (hst : X.1.2.1.stackTraces = false) {M0 : hM} {sz0 : Nat} {K : hK} (hR : Ret X mL_refuses M0 sz0 K) {h : Nat} {σ : SG} {mt : Int} (hmt : metK σ (σ 1 0 0).toNat = mt) (rm9 : inR mt) (rn0 : inR (σ 0 0 0)) (rn1 : inR (σ 1 0 0)) (rn2 : inR (σ 2 0 0)) (rn3 : inR (σ 3 0 0)) (hK : ∀ (A' : Nat → Nat → Nat) (ow' : Nat → Nat × Nat) (τ' : Nat → Nat → Int) (M' : hM) (s9 : Nat), HX X.2.2.2.2.2.2.2.2.2 h A' ow' σ τ' M' → SV σ → K (.inl (some (.int (iZ 1)))) M' s9) {A : Nat → Nat → Nat} {ow : Nat → Nat × Nat} {τ : Nat → Nat → Int} {M : hM} {sz cs ss : Nat} (hH : HX X.2.2.2.2.2.2.2.2.2 h A ow σ τ M) (hV : SV σ) (hc : cs + 760 ≤ 2700) (hs : ss + 19000 ≤ 67500) : G X 999 [.ref h, .int (iZ (σ 0 0 0)), .int (iZ (σ 1 0 0)), .int (iZ (σ 2 0 0)), .int (iZ (σ 3 0 0)), .int (iZ 2147483647), .int (iZ mt), .int (iZ 2), .int (iZ 2147483647), .int (iZ 2147483647), .int (iZ 2147483647), .int (iZ 2147483647), .int (iZ 2147483647), .int (iZ 2147483647), .int (iZ 2147483647), .int (iZ 2147483647), .int (iZ 2147483647), .int (iZ 2147483647), .int (iZ 1), .int (iZ 24)] [.ref h] M sz cs ss := by
  have hn := hV.n
  unfold SVn at hn
  refine g_const hX dL_refuses_999 ?_
  refine g_iload hX dL_refuses_1001 rfl ?_
  refine g_const hX dL_refuses_1003 ?_
  refine yt_icmp_ne hX dL_refuses_1004 (ya_in rfl) (ya_in rfl) (by decide) ?_
  refine g_iload hX dL_refuses_1012 rfl ?_
  refine g_const hX dL_refuses_1014 ?_
  refine g_const hX dL_refuses_1016 ?_
  refine g_const hX dL_refuses_1017 ?_
  refine l_act hX hst dL_refuses_1018 hH hV (ya_in rfl) (ya_in rfl) (ya_in rfl) (ya_in rfl) (ya_in rfl) (ra24a (fun q => by have q1 := q.1; have q2 := q.2; omega)) (show cs + 10 ≤ 2700 by omega) (show ss + 250 ≤ 67500 by omega) (by first | exact Nat.le_of_ble_eq_true rfl | simp [cat_rf, Value.category]) (fun A ow τ M sz hH hV => ?_)
  refine g_const hX dL_refuses_1021 ?_
  refine yf_icmp_ne hX dL_refuses_1023 (ya_in rfl) (ya_in rfl) (by decide) ?_
  refine g_aload hX dL_refuses_1026 rfl rfl ?_
  refine g_const hX dL_refuses_1027 ?_
  refine g_iload hX dL_refuses_1029 rfl ?_
  refine g_const hX dL_refuses_1031 ?_
  refine g_const hX dL_refuses_1032 ?_
  refine g_const hX dL_refuses_1033 ?_
  refine l_act hX hst dL_refuses_1034 hH hV (ya_in rfl) (ya_in rfl) (ya_in rfl) (ya_in rfl) (ya_in rfl) (ra25a (fun q => by have q1 := q.1; have q2 := q.2; omega)) (show cs + 10 + 10 ≤ 2700 by omega) (show ss + 250 + 250 ≤ 67500 by omega) (by first | exact Nat.le_of_ble_eq_true rfl | simp [cat_rf, Value.category]) (fun A ow τ M sz hH hV => ?_)
  refine g_const hX dL_refuses_1037 ?_
  refine yf_icmp_ne hX dL_refuses_1039 (ya_in rfl) (ya_in rfl) (by decide) ?_
  refine g_iload hX dL_refuses_1042 rfl ?_
  refine z_if_eq hX dL_refuses_1044 rn3 (fun c9 => ?_) (fun c9 => ?_)
  · exact rf_g46 hX hst hR hmt rm9 rn0 rn1 rn2 rn3 hK hH hV (by omega) (by omega)
  refine g_aload hX dL_refuses_1047 rfl rfl ?_
  refine g_const hX dL_refuses_1048 ?_
  refine g_const hX dL_refuses_1050 ?_
  refine g_iload hX dL_refuses_1051 rfl ?_
  refine g_const hX dL_refuses_1053 ?_
  refine yt_icmp_ne hX dL_refuses_1054 (ya_in rfl) (ya_in rfl) (by decide) ?_
  refine g_iload hX dL_refuses_1061 rfl ?_
  refine g_const hX dL_refuses_1063 ?_
  refine g_const hX dL_refuses_1064 ?_
  refine l_act hX hst dL_refuses_1065 hH hV (ya_in rfl) (ya_in rfl) (ya_in rfl) (ya_in rfl) (ya_in rfl) (ra24b ⟨by omega, by omega⟩ (by decide +kernel)) (show cs + 10 + 10 + 10 ≤ 2700 by omega) (show ss + 250 + 250 + 250 ≤ 67500 by omega) (by first | exact Nat.le_of_ble_eq_true rfl | simp [cat_rf, Value.category]) (fun A ow τ M sz hH hV => ?_)
  refine g_const hX dL_refuses_1068 ?_
  refine yf_icmp_ne hX dL_refuses_1070 (ya_in rfl) (ya_in rfl) (by decide) ?_
  exact rf_g46 hX hst hR hmt rm9 rn0 rn1 rn2 rn3 hK hH hV (by omega) (by omega)

set_option maxRecDepth 20000 in
theorem rf_g44 {X : hX} (hX : Cok X mL_refuses) (hst : X.1.2.1.stackTraces = false) {M0 : hM} {sz0 : Nat} {K : hK} (hR : Ret X mL_refuses M0 sz0 K) {h : Nat} {σ : SG} {mt : Int} (hmt : metK σ (σ 1 0 0).toNat = mt) (rm9 : inR mt) (rn0 : inR (σ 0 0 0)) (rn1 : inR (σ 1 0 0)) (rn2 : inR (σ 2 0 0)) (rn3 : inR (σ 3 0 0)) (hK : ∀ (A' : Nat → Nat → Nat) (ow' : Nat → Nat × Nat) (τ' : Nat → Nat → Int) (M' : hM) (s9 : Nat), HX X.2.2.2.2.2.2.2.2.2 h A' ow' σ τ' M' → SV σ → K (.inl (some (.int (iZ 1)))) M' s9) {A : Nat → Nat → Nat} {ow : Nat → Nat × Nat} {τ : Nat → Nat → Int} {M : hM} {sz cs ss : Nat} (hH : HX X.2.2.2.2.2.2.2.2.2 h A ow σ τ M) (hV : SV σ) (hc : cs + 820 ≤ 2700) (hs : ss + 20500 ≤ 67500) : G X 823 [.ref h, .int (iZ (σ 0 0 0)), .int (iZ (σ 1 0 0)), .int (iZ (σ 2 0 0)), .int (iZ (σ 3 0 0)), .int (iZ 2147483647), .int (iZ mt), .int (iZ 2), .int (iZ 2147483647), .int (iZ 2147483647), .int (iZ 2147483647), .int (iZ 2147483647), .int (iZ 2147483647), .int (iZ 2147483647), .int (iZ 2147483647), .int (iZ 2147483647), .int (iZ 2147483647), .int (iZ 2147483647), .int (iZ 1), .int (iZ 23)] [.int (iZ 23), .ref h] M sz cs ss := by
  have hn := hV.n
  unfold SVn at hn
  refine g_const hX dL_refuses_823 ?_
  refine g_const hX dL_refuses_826 ?_
  refine g_iload hX dL_refuses_827 rfl ?_
  refine g_const hX dL_refuses_829 ?_
  refine l_act hX hst dL_refuses_830 hH hV (ya_in rfl) (ya_in rfl) (ya_in rfl) (ya_in rfl) (ya_in rfl) (ra23a (by decide +kernel)) (show cs + 10 ≤ 2700 by omega) (show ss + 250 ≤ 67500 by omega) (by first | exact Nat.le_of_ble_eq_true rfl | simp [cat_rf, Value.category]) (fun A ow τ M sz hH hV => ?_)
  refine g_const hX dL_refuses_833 ?_
  refine yf_icmp_ne hX dL_refuses_835 (ya_in rfl) (ya_in rfl) (by decide) ?_
  refine g_aload hX dL_refuses_838 rfl rfl ?_
  refine g_iload hX dL_refuses_839 rfl ?_
  refine g_const hX dL_refuses_841 ?_
  refine g_const hX dL_refuses_844 ?_
  refine g_const hX dL_refuses_845 ?_
  refine g_const hX dL_refuses_847 ?_
  refine l_act hX hst dL_refuses_848 hH hV (ya_in rfl) (ya_in rfl) (ya_in rfl) (ya_in rfl) (ya_in rfl) (ra23a (by decide +kernel)) (show cs + 10 + 10 ≤ 2700 by omega) (show ss + 250 + 250 ≤ 67500 by omega) (by first | exact Nat.le_of_ble_eq_true rfl | simp [cat_rf, Value.category]) (fun A ow τ M sz hH hV => ?_)
  refine g_const hX dL_refuses_851 ?_
  refine yf_icmp_ne hX dL_refuses_853 (ya_in rfl) (ya_in rfl) (by decide) ?_
  refine g_aload hX dL_refuses_856 rfl rfl ?_
  refine g_iload hX dL_refuses_857 rfl ?_
  refine g_const hX dL_refuses_859 ?_
  refine g_const hX dL_refuses_862 ?_
  refine g_const hX dL_refuses_864 ?_
  refine g_const hX dL_refuses_866 ?_
  refine l_act hX hst dL_refuses_867 hH hV (ya_in rfl) (ya_in rfl) (ya_in rfl) (ya_in rfl) (ya_in rfl) (ra23a (by decide +kernel)) (show cs + 10 + 10 + 10 ≤ 2700 by omega) (show ss + 250 + 250 + 250 ≤ 67500 by omega) (by first | exact Nat.le_of_ble_eq_true rfl | simp [cat_rf, Value.category]) (fun A ow τ M sz hH hV => ?_)
  refine g_const hX dL_refuses_870 ?_
  refine yf_icmp_ne hX dL_refuses_872 (ya_in rfl) (ya_in rfl) (by decide) ?_
  refine g_const hX dL_refuses_875 ?_
  refine g_goto hX dL_refuses_876 ?_
  refine g_istore hX dL_refuses_880 ?_
  dsimp only [List.set]
  refine g_iload hX dL_refuses_882 rfl ?_
  refine g_const hX dL_refuses_884 ?_
  refine yf_icmp_eq hX dL_refuses_886 (ya_in rfl) (ya_in rfl) (by decide) ?_
  refine g_iload hX dL_refuses_889 rfl ?_
  refine g_const hX dL_refuses_891 ?_
  refine yt_icmp_ne hX dL_refuses_893 (ya_in rfl) (ya_in rfl) (by decide) ?_
  refine y_iinc (c := 24) hX dL_refuses_939 rfl (by decide) ?_
  dsimp only [List.set]
  refine g_goto hX dL_refuses_942 ?_
  refine g_iload hX dL_refuses_746 rfl ?_
  refine g_const hX dL_refuses_748 ?_
  refine yt_icmp_ge hX dL_refuses_750 (ya_in rfl) (ya_in rfl) (by decide) ?_
  refine g_iload hX dL_refuses_945 rfl ?_
  refine yf_if_eq hX dL_refuses_947 (ya_in rfl) (by decide) ?_
  refine g_aload hX dL_refuses_950 rfl rfl ?_
  refine g_const hX dL_refuses_951 ?_
  refine g_const hX dL_refuses_953 ?_
  refine g_const hX dL_refuses_954 ?_
  refine g_const hX dL_refuses_955 ?_
  refine g_const hX dL_refuses_956 ?_
  refine l_act hX hst dL_refuses_958 hH hV (ya_in rfl) (ya_in rfl) (ya_in rfl) (ya_in rfl) (ya_in rfl) (ra14a (by decide +kernel)) (show cs + 10 + 10 + 10 + 10 ≤ 2700 by omega) (show ss + 250 + 250 + 250 + 250 ≤ 67500 by omega) (by first | exact Nat.le_of_ble_eq_true rfl | simp [cat_rf, Value.category]) (fun A ow τ M sz hH hV => ?_)
  refine g_const hX dL_refuses_961 ?_
  refine yf_icmp_ne hX dL_refuses_963 (ya_in rfl) (ya_in rfl) (by decide) ?_
  refine g_aload hX dL_refuses_966 rfl rfl ?_
  refine g_const hX dL_refuses_967 ?_
  refine g_const hX dL_refuses_969 ?_
  refine g_const hX dL_refuses_970 ?_
  refine g_const hX dL_refuses_971 ?_
  refine g_const hX dL_refuses_972 ?_
  refine l_act hX hst dL_refuses_974 hH hV (ya_in rfl) (ya_in rfl) (ya_in rfl) (ya_in rfl) (ya_in rfl) (ra14a (by decide +kernel)) (show cs + 10 + 10 + 10 + 10 + 10 ≤ 2700 by omega) (show ss + 250 + 250 + 250 + 250 + 250 ≤ 67500 by omega) (by first | exact Nat.le_of_ble_eq_true rfl | simp [cat_rf, Value.category]) (fun A ow τ M sz hH hV => ?_)
  refine g_const hX dL_refuses_977 ?_
  refine yf_icmp_ne hX dL_refuses_979 (ya_in rfl) (ya_in rfl) (by decide) ?_
  refine g_aload hX dL_refuses_982 rfl rfl ?_
  refine g_const hX dL_refuses_983 ?_
  refine g_iload hX dL_refuses_985 rfl ?_
  refine g_const hX dL_refuses_987 ?_
  refine g_const hX dL_refuses_988 ?_
  refine g_const hX dL_refuses_989 ?_
  refine l_act hX hst dL_refuses_990 hH hV (ya_in rfl) (ya_in rfl) (ya_in rfl) (ya_in rfl) (ya_in rfl) (ra22a (fun q => by have q1 := q.1; have q2 := q.2; omega)) (show cs + 10 + 10 + 10 + 10 + 10 + 10 ≤ 2700 by omega) (show ss + 250 + 250 + 250 + 250 + 250 + 250 ≤ 67500 by omega) (by first | exact Nat.le_of_ble_eq_true rfl | simp [cat_rf, Value.category]) (fun A ow τ M sz hH hV => ?_)
  refine g_const hX dL_refuses_993 ?_
  refine yf_icmp_ne hX dL_refuses_995 (ya_in rfl) (ya_in rfl) (by decide) ?_
  refine g_aload hX dL_refuses_998 rfl rfl ?_
  exact rf_g45 hX hst hR hmt rm9 rn0 rn1 rn2 rn3 hK hH hV (by omega) (by omega)

set_option maxRecDepth 20000 in
theorem rf_g43 {X : hX} (hX : Cok X mL_refuses) (hst : X.1.2.1.stackTraces = false) {M0 : hM} {sz0 : Nat} {K : hK} (hR : Ret X mL_refuses M0 sz0 K) {h : Nat} {σ : SG} {mt : Int} (hmt : metK σ (σ 1 0 0).toNat = mt) (rm9 : inR mt) (rn0 : inR (σ 0 0 0)) (rn1 : inR (σ 1 0 0)) (rn2 : inR (σ 2 0 0)) (rn3 : inR (σ 3 0 0)) (hK : ∀ (A' : Nat → Nat → Nat) (ow' : Nat → Nat × Nat) (τ' : Nat → Nat → Int) (M' : hM) (s9 : Nat), HX X.2.2.2.2.2.2.2.2.2 h A' ow' σ τ' M' → SV σ → K (.inl (some (.int (iZ 1)))) M' s9) {A : Nat → Nat → Nat} {ow : Nat → Nat × Nat} {τ : Nat → Nat → Int} {M : hM} {sz cs ss : Nat} (hH : HX X.2.2.2.2.2.2.2.2.2 h A ow σ τ M) (hV : SV σ) (hc : cs + 840 ≤ 2700) (hs : ss + 21000 ≤ 67500) : G X 884 [.ref h, .int (iZ (σ 0 0 0)), .int (iZ (σ 1 0 0)), .int (iZ (σ 2 0 0)), .int (iZ (σ 3 0 0)), .int (iZ 2147483647), .int (iZ mt), .int (iZ 2), .int (iZ 2147483647), .int (iZ 2147483647), .int (iZ 2147483647), .int (iZ 2147483647), .int (iZ 2147483647), .int (iZ 2147483647), .int (iZ 2147483647), .int (iZ 2147483647), .int (iZ 2147483647), .int (iZ 2147483647), .int (iZ 1), .int (iZ 21)] [.int (iZ 21)] M sz cs ss := by
  have hn := hV.n
  unfold SVn at hn
  refine g_const hX dL_refuses_884 ?_
  refine yf_icmp_eq hX dL_refuses_886 (ya_in rfl) (ya_in rfl) (by decide) ?_
  refine g_iload hX dL_refuses_889 rfl ?_
  refine g_const hX dL_refuses_891 ?_
  refine yt_icmp_ne hX dL_refuses_893 (ya_in rfl) (ya_in rfl) (by decide) ?_
  refine y_iinc (c := 22) hX dL_refuses_939 rfl (by decide) ?_
  dsimp only [List.set]
  refine g_goto hX dL_refuses_942 ?_
  refine g_iload hX dL_refuses_746 rfl ?_
  refine g_const hX dL_refuses_748 ?_
  refine yf_icmp_ge hX dL_refuses_750 (ya_in rfl) (ya_in rfl) (by decide) ?_
  refine g_iload hX dL_refuses_753 rfl ?_
  refine yf_if_eq hX dL_refuses_755 (ya_in rfl) (by decide) ?_
  refine g_iload hX dL_refuses_758 rfl ?_
  refine g_const hX dL_refuses_760 ?_
  refine yf_icmp_eq hX dL_refuses_762 (ya_in rfl) (ya_in rfl) (by decide) ?_
  refine g_iload hX dL_refuses_765 rfl ?_
  refine g_const hX dL_refuses_767 ?_
  refine yf_icmp_eq hX dL_refuses_769 (ya_in rfl) (ya_in rfl) (by decide) ?_
  refine g_iload hX dL_refuses_772 rfl ?_
  refine g_const hX dL_refuses_774 ?_
  refine yf_icmp_eq hX dL_refuses_776 (ya_in rfl) (ya_in rfl) (by decide) ?_
  refine g_iload hX dL_refuses_779 rfl ?_
  refine g_const hX dL_refuses_781 ?_
  refine yt_icmp_ne hX dL_refuses_783 (ya_in rfl) (ya_in rfl) (by decide) ?_
  refine g_iload hX dL_refuses_882 rfl ?_
  refine g_const hX dL_refuses_884 ?_
  refine yf_icmp_eq hX dL_refuses_886 (ya_in rfl) (ya_in rfl) (by decide) ?_
  refine g_iload hX dL_refuses_889 rfl ?_
  refine g_const hX dL_refuses_891 ?_
  refine yt_icmp_ne hX dL_refuses_893 (ya_in rfl) (ya_in rfl) (by decide) ?_
  refine y_iinc (c := 23) hX dL_refuses_939 rfl (by decide) ?_
  dsimp only [List.set]
  refine g_goto hX dL_refuses_942 ?_
  refine g_iload hX dL_refuses_746 rfl ?_
  refine g_const hX dL_refuses_748 ?_
  refine yf_icmp_ge hX dL_refuses_750 (ya_in rfl) (ya_in rfl) (by decide) ?_
  refine g_iload hX dL_refuses_753 rfl ?_
  refine yf_if_eq hX dL_refuses_755 (ya_in rfl) (by decide) ?_
  refine g_iload hX dL_refuses_758 rfl ?_
  refine g_const hX dL_refuses_760 ?_
  refine yf_icmp_eq hX dL_refuses_762 (ya_in rfl) (ya_in rfl) (by decide) ?_
  refine g_iload hX dL_refuses_765 rfl ?_
  refine g_const hX dL_refuses_767 ?_
  refine yf_icmp_eq hX dL_refuses_769 (ya_in rfl) (ya_in rfl) (by decide) ?_
  refine g_iload hX dL_refuses_772 rfl ?_
  refine g_const hX dL_refuses_774 ?_
  refine yf_icmp_eq hX dL_refuses_776 (ya_in rfl) (ya_in rfl) (by decide) ?_
  refine g_iload hX dL_refuses_779 rfl ?_
  refine g_const hX dL_refuses_781 ?_
  refine yf_icmp_ne hX dL_refuses_783 (ya_in rfl) (ya_in rfl) (by decide) ?_
  refine g_aload hX dL_refuses_786 rfl rfl ?_
  refine g_iload hX dL_refuses_787 rfl ?_
  refine g_iload hX dL_refuses_789 rfl ?_
  refine g_const hX dL_refuses_791 ?_
  refine g_const hX dL_refuses_792 ?_
  refine g_const hX dL_refuses_793 ?_
  refine l_act hX hst dL_refuses_794 hH hV (ya_in rfl) (ya_in rfl) (ya_in rfl) (ya_in rfl) (ya_in rfl) (ra23a (by decide +kernel)) (show cs + 10 ≤ 2700 by omega) (show ss + 250 ≤ 67500 by omega) (by first | exact Nat.le_of_ble_eq_true rfl | simp [cat_rf, Value.category]) (fun A ow τ M sz hH hV => ?_)
  refine g_const hX dL_refuses_797 ?_
  refine yf_icmp_ne hX dL_refuses_799 (ya_in rfl) (ya_in rfl) (by decide) ?_
  refine g_aload hX dL_refuses_802 rfl rfl ?_
  refine g_iload hX dL_refuses_803 rfl ?_
  refine g_const hX dL_refuses_805 ?_
  refine g_iload hX dL_refuses_808 rfl ?_
  refine g_const hX dL_refuses_810 ?_
  refine g_const hX dL_refuses_811 ?_
  refine l_act hX hst dL_refuses_812 hH hV (ya_in rfl) (ya_in rfl) (ya_in rfl) (ya_in rfl) (ya_in rfl) (ra23a (by decide +kernel)) (show cs + 10 + 10 ≤ 2700 by omega) (show ss + 250 + 250 ≤ 67500 by omega) (by first | exact Nat.le_of_ble_eq_true rfl | simp [cat_rf, Value.category]) (fun A ow τ M sz hH hV => ?_)
  refine g_const hX dL_refuses_815 ?_
  refine yf_icmp_ne hX dL_refuses_817 (ya_in rfl) (ya_in rfl) (by decide) ?_
  refine g_aload hX dL_refuses_820 rfl rfl ?_
  refine g_iload hX dL_refuses_821 rfl ?_
  exact rf_g44 hX hst hR hmt rm9 rn0 rn1 rn2 rn3 hK hH hV (by omega) (by omega)

set_option maxRecDepth 20000 in
theorem rf_g42 {X : hX} (hX : Cok X mL_refuses) (hst : X.1.2.1.stackTraces = false) {M0 : hM} {sz0 : Nat} {K : hK} (hR : Ret X mL_refuses M0 sz0 K) {h : Nat} {σ : SG} {mt : Int} (hmt : metK σ (σ 1 0 0).toNat = mt) (rm9 : inR mt) (rn0 : inR (σ 0 0 0)) (rn1 : inR (σ 1 0 0)) (rn2 : inR (σ 2 0 0)) (rn3 : inR (σ 3 0 0)) (hK : ∀ (A' : Nat → Nat → Nat) (ow' : Nat → Nat × Nat) (τ' : Nat → Nat → Int) (M' : hM) (s9 : Nat), HX X.2.2.2.2.2.2.2.2.2 h A' ow' σ τ' M' → SV σ → K (.inl (some (.int (iZ 1)))) M' s9) {A : Nat → Nat → Nat} {ow : Nat → Nat × Nat} {τ : Nat → Nat → Int} {M : hM} {sz cs ss : Nat} (hH : HX X.2.2.2.2.2.2.2.2.2 h A ow σ τ M) (hV : SV σ) (hc : cs + 890 ≤ 2700) (hs : ss + 22250 ≤ 67500) : G X 932 [.ref h, .int (iZ (σ 0 0 0)), .int (iZ (σ 1 0 0)), .int (iZ (σ 2 0 0)), .int (iZ (σ 3 0 0)), .int (iZ 2147483647), .int (iZ mt), .int (iZ 2), .int (iZ 2147483647), .int (iZ 2147483647), .int (iZ 2147483647), .int (iZ 2147483647), .int (iZ 2147483647), .int (iZ 2147483647), .int (iZ 2147483647), .int (iZ 2147483647), .int (iZ 2147483647), .int (iZ 2147483647), .int (iZ 1), .int (iZ 20)] [] M sz cs ss := by
  have hn := hV.n
  unfold SVn at hn
  refine g_const hX dL_refuses_932 ?_
  refine g_goto hX dL_refuses_933 ?_
  refine g_istore hX dL_refuses_937 ?_
  dsimp only [List.set]
  refine y_iinc (c := 21) hX dL_refuses_939 rfl (by decide) ?_
  dsimp only [List.set]
  refine g_goto hX dL_refuses_942 ?_
  refine g_iload hX dL_refuses_746 rfl ?_
  refine g_const hX dL_refuses_748 ?_
  refine yf_icmp_ge hX dL_refuses_750 (ya_in rfl) (ya_in rfl) (by decide) ?_
  refine g_iload hX dL_refuses_753 rfl ?_
  refine yf_if_eq hX dL_refuses_755 (ya_in rfl) (by decide) ?_
  refine g_iload hX dL_refuses_758 rfl ?_
  refine g_const hX dL_refuses_760 ?_
  refine yf_icmp_eq hX dL_refuses_762 (ya_in rfl) (ya_in rfl) (by decide) ?_
  refine g_iload hX dL_refuses_765 rfl ?_
  refine g_const hX dL_refuses_767 ?_
  refine yf_icmp_eq hX dL_refuses_769 (ya_in rfl) (ya_in rfl) (by decide) ?_
  refine g_iload hX dL_refuses_772 rfl ?_
  refine g_const hX dL_refuses_774 ?_
  refine yt_icmp_eq hX dL_refuses_776 (ya_in rfl) (ya_in rfl) (by decide) ?_
  refine g_aload hX dL_refuses_786 rfl rfl ?_
  refine g_iload hX dL_refuses_787 rfl ?_
  refine g_iload hX dL_refuses_789 rfl ?_
  refine g_const hX dL_refuses_791 ?_
  refine g_const hX dL_refuses_792 ?_
  refine g_const hX dL_refuses_793 ?_
  refine l_act hX hst dL_refuses_794 hH hV (ya_in rfl) (ya_in rfl) (ya_in rfl) (ya_in rfl) (ya_in rfl) (ra21a (by decide +kernel)) (show cs + 10 ≤ 2700 by omega) (show ss + 250 ≤ 67500 by omega) (by first | exact Nat.le_of_ble_eq_true rfl | simp [cat_rf, Value.category]) (fun A ow τ M sz hH hV => ?_)
  refine g_const hX dL_refuses_797 ?_
  refine yf_icmp_ne hX dL_refuses_799 (ya_in rfl) (ya_in rfl) (by decide) ?_
  refine g_aload hX dL_refuses_802 rfl rfl ?_
  refine g_iload hX dL_refuses_803 rfl ?_
  refine g_const hX dL_refuses_805 ?_
  refine g_iload hX dL_refuses_808 rfl ?_
  refine g_const hX dL_refuses_810 ?_
  refine g_const hX dL_refuses_811 ?_
  refine l_act hX hst dL_refuses_812 hH hV (ya_in rfl) (ya_in rfl) (ya_in rfl) (ya_in rfl) (ya_in rfl) (ra21a (by decide +kernel)) (show cs + 10 + 10 ≤ 2700 by omega) (show ss + 250 + 250 ≤ 67500 by omega) (by first | exact Nat.le_of_ble_eq_true rfl | simp [cat_rf, Value.category]) (fun A ow τ M sz hH hV => ?_)
  refine g_const hX dL_refuses_815 ?_
  refine yf_icmp_ne hX dL_refuses_817 (ya_in rfl) (ya_in rfl) (by decide) ?_
  refine g_aload hX dL_refuses_820 rfl rfl ?_
  refine g_iload hX dL_refuses_821 rfl ?_
  refine g_const hX dL_refuses_823 ?_
  refine g_const hX dL_refuses_826 ?_
  refine g_iload hX dL_refuses_827 rfl ?_
  refine g_const hX dL_refuses_829 ?_
  refine l_act hX hst dL_refuses_830 hH hV (ya_in rfl) (ya_in rfl) (ya_in rfl) (ya_in rfl) (ya_in rfl) (ra21a (by decide +kernel)) (show cs + 10 + 10 + 10 ≤ 2700 by omega) (show ss + 250 + 250 + 250 ≤ 67500 by omega) (by first | exact Nat.le_of_ble_eq_true rfl | simp [cat_rf, Value.category]) (fun A ow τ M sz hH hV => ?_)
  refine g_const hX dL_refuses_833 ?_
  refine yf_icmp_ne hX dL_refuses_835 (ya_in rfl) (ya_in rfl) (by decide) ?_
  refine g_aload hX dL_refuses_838 rfl rfl ?_
  refine g_iload hX dL_refuses_839 rfl ?_
  refine g_const hX dL_refuses_841 ?_
  refine g_const hX dL_refuses_844 ?_
  refine g_const hX dL_refuses_845 ?_
  refine g_const hX dL_refuses_847 ?_
  refine l_act hX hst dL_refuses_848 hH hV (ya_in rfl) (ya_in rfl) (ya_in rfl) (ya_in rfl) (ya_in rfl) (ra21a (by decide +kernel)) (show cs + 10 + 10 + 10 + 10 ≤ 2700 by omega) (show ss + 250 + 250 + 250 + 250 ≤ 67500 by omega) (by first | exact Nat.le_of_ble_eq_true rfl | simp [cat_rf, Value.category]) (fun A ow τ M sz hH hV => ?_)
  refine g_const hX dL_refuses_851 ?_
  refine yf_icmp_ne hX dL_refuses_853 (ya_in rfl) (ya_in rfl) (by decide) ?_
  refine g_aload hX dL_refuses_856 rfl rfl ?_
  refine g_iload hX dL_refuses_857 rfl ?_
  refine g_const hX dL_refuses_859 ?_
  refine g_const hX dL_refuses_862 ?_
  refine g_const hX dL_refuses_864 ?_
  refine g_const hX dL_refuses_866 ?_
  refine l_act hX hst dL_refuses_867 hH hV (ya_in rfl) (ya_in rfl) (ya_in rfl) (ya_in rfl) (ya_in rfl) (ra21a (by decide +kernel)) (show cs + 10 + 10 + 10 + 10 + 10 ≤ 2700 by omega) (show ss + 250 + 250 + 250 + 250 + 250 ≤ 67500 by omega) (by first | exact Nat.le_of_ble_eq_true rfl | simp [cat_rf, Value.category]) (fun A ow τ M sz hH hV => ?_)
  refine g_const hX dL_refuses_870 ?_
  refine yf_icmp_ne hX dL_refuses_872 (ya_in rfl) (ya_in rfl) (by decide) ?_
  refine g_const hX dL_refuses_875 ?_
  refine g_goto hX dL_refuses_876 ?_
  refine g_istore hX dL_refuses_880 ?_
  dsimp only [List.set]
  refine g_iload hX dL_refuses_882 rfl ?_
  exact rf_g43 hX hst hR hmt rm9 rn0 rn1 rn2 rn3 hK hH hV (by omega) (by omega)

set_option maxRecDepth 20000 in
theorem rf_g41 {X : hX} (hX : Cok X mL_refuses) (hst : X.1.2.1.stackTraces = false) {M0 : hM} {sz0 : Nat} {K : hK} (hR : Ret X mL_refuses M0 sz0 K) {h : Nat} {σ : SG} {mt : Int} (hmt : metK σ (σ 1 0 0).toNat = mt) (rm9 : inR mt) (rn0 : inR (σ 0 0 0)) (rn1 : inR (σ 1 0 0)) (rn2 : inR (σ 2 0 0)) (rn3 : inR (σ 3 0 0)) (hK : ∀ (A' : Nat → Nat → Nat) (ow' : Nat → Nat × Nat) (τ' : Nat → Nat → Int) (M' : hM) (s9 : Nat), HX X.2.2.2.2.2.2.2.2.2 h A' ow' σ τ' M' → SV σ → K (.inl (some (.int (iZ 1)))) M' s9) {A : Nat → Nat → Nat} {ow : Nat → Nat × Nat} {τ : Nat → Nat → Int} {M : hM} {sz cs ss : Nat} (hH : HX X.2.2.2.2.2.2.2.2.2 h A ow σ τ M) (hV : SV σ) (hc : cs + 910 ≤ 2700) (hs : ss + 22750 ≤ 67500) : G X 932 [.ref h, .int (iZ (σ 0 0 0)), .int (iZ (σ 1 0 0)), .int (iZ (σ 2 0 0)), .int (iZ (σ 3 0 0)), .int (iZ 2147483647), .int (iZ mt), .int (iZ 2), .int (iZ 2147483647), .int (iZ 2147483647), .int (iZ 2147483647), .int (iZ 2147483647), .int (iZ 2147483647), .int (iZ 2147483647), .int (iZ 2147483647), .int (iZ 2147483647), .int (iZ 2147483647), .int (iZ 2147483647), .int (iZ 1), .int (iZ 19)] [] M sz cs ss := by
  have hn := hV.n
  unfold SVn at hn
  refine g_const hX dL_refuses_932 ?_
  refine g_goto hX dL_refuses_933 ?_
  refine g_istore hX dL_refuses_937 ?_
  dsimp only [List.set]
  refine y_iinc (c := 20) hX dL_refuses_939 rfl (by decide) ?_
  dsimp only [List.set]
  refine g_goto hX dL_refuses_942 ?_
  refine g_iload hX dL_refuses_746 rfl ?_
  refine g_const hX dL_refuses_748 ?_
  refine yf_icmp_ge hX dL_refuses_750 (ya_in rfl) (ya_in rfl) (by decide) ?_
  refine g_iload hX dL_refuses_753 rfl ?_
  refine yf_if_eq hX dL_refuses_755 (ya_in rfl) (by decide) ?_
  refine g_iload hX dL_refuses_758 rfl ?_
  refine g_const hX dL_refuses_760 ?_
  refine yf_icmp_eq hX dL_refuses_762 (ya_in rfl) (ya_in rfl) (by decide) ?_
  refine g_iload hX dL_refuses_765 rfl ?_
  refine g_const hX dL_refuses_767 ?_
  refine yf_icmp_eq hX dL_refuses_769 (ya_in rfl) (ya_in rfl) (by decide) ?_
  refine g_iload hX dL_refuses_772 rfl ?_
  refine g_const hX dL_refuses_774 ?_
  refine yf_icmp_eq hX dL_refuses_776 (ya_in rfl) (ya_in rfl) (by decide) ?_
  refine g_iload hX dL_refuses_779 rfl ?_
  refine g_const hX dL_refuses_781 ?_
  refine yt_icmp_ne hX dL_refuses_783 (ya_in rfl) (ya_in rfl) (by decide) ?_
  refine g_iload hX dL_refuses_882 rfl ?_
  refine g_const hX dL_refuses_884 ?_
  refine yf_icmp_eq hX dL_refuses_886 (ya_in rfl) (ya_in rfl) (by decide) ?_
  refine g_iload hX dL_refuses_889 rfl ?_
  refine g_const hX dL_refuses_891 ?_
  refine yf_icmp_ne hX dL_refuses_893 (ya_in rfl) (ya_in rfl) (by decide) ?_
  refine g_aload hX dL_refuses_896 rfl rfl ?_
  refine g_iload hX dL_refuses_897 rfl ?_
  refine g_iload hX dL_refuses_899 rfl ?_
  refine g_const hX dL_refuses_901 ?_
  refine g_const hX dL_refuses_902 ?_
  refine g_const hX dL_refuses_903 ?_
  refine l_act hX hst dL_refuses_904 hH hV (ya_in rfl) (ya_in rfl) (ya_in rfl) (ya_in rfl) (ya_in rfl) (ra20a (fun q => by have q1 := q.1; have q2 := q.2; omega)) (show cs + 10 ≤ 2700 by omega) (show ss + 250 ≤ 67500 by omega) (by first | exact Nat.le_of_ble_eq_true rfl | simp [cat_rf, Value.category]) (fun A ow τ M sz hH hV => ?_)
  refine g_const hX dL_refuses_907 ?_
  refine yf_icmp_ne hX dL_refuses_909 (ya_in rfl) (ya_in rfl) (by decide) ?_
  refine g_iload hX dL_refuses_912 rfl ?_
  refine z_if_eq hX dL_refuses_913 rn2 (fun c9 => ?_) (fun c9 => ?_)
  · exact rf_g42 hX hst hR hmt rm9 rn0 rn1 rn2 rn3 hK hH hV (by omega) (by omega)
  refine g_aload hX dL_refuses_916 rfl rfl ?_
  refine g_iload hX dL_refuses_917 rfl ?_
  refine g_const hX dL_refuses_919 ?_
  refine g_iload hX dL_refuses_920 rfl ?_
  refine g_const hX dL_refuses_922 ?_
  refine g_const hX dL_refuses_923 ?_
  refine l_act hX hst dL_refuses_924 hH hV (ya_in rfl) (ya_in rfl) (ya_in rfl) (ya_in rfl) (ya_in rfl) (ra20b ⟨by omega, by omega⟩ (by decide +kernel)) (show cs + 10 + 10 ≤ 2700 by omega) (show ss + 250 + 250 ≤ 67500 by omega) (by first | exact Nat.le_of_ble_eq_true rfl | simp [cat_rf, Value.category]) (fun A ow τ M sz hH hV => ?_)
  refine g_const hX dL_refuses_927 ?_
  refine yf_icmp_ne hX dL_refuses_929 (ya_in rfl) (ya_in rfl) (by decide) ?_
  exact rf_g42 hX hst hR hmt rm9 rn0 rn1 rn2 rn3 hK hH hV (by omega) (by omega)

set_option maxRecDepth 20000 in
theorem rf_g40 {X : hX} (hX : Cok X mL_refuses) (hst : X.1.2.1.stackTraces = false) {M0 : hM} {sz0 : Nat} {K : hK} (hR : Ret X mL_refuses M0 sz0 K) {h : Nat} {σ : SG} {mt : Int} (hmt : metK σ (σ 1 0 0).toNat = mt) (rm9 : inR mt) (rn0 : inR (σ 0 0 0)) (rn1 : inR (σ 1 0 0)) (rn2 : inR (σ 2 0 0)) (rn3 : inR (σ 3 0 0)) (hK : ∀ (A' : Nat → Nat → Nat) (ow' : Nat → Nat × Nat) (τ' : Nat → Nat → Int) (M' : hM) (s9 : Nat), HX X.2.2.2.2.2.2.2.2.2 h A' ow' σ τ' M' → SV σ → K (.inl (some (.int (iZ 1)))) M' s9) {A : Nat → Nat → Nat} {ow : Nat → Nat × Nat} {τ : Nat → Nat → Int} {M : hM} {sz cs ss : Nat} (hH : HX X.2.2.2.2.2.2.2.2.2 h A ow σ τ M) (hV : SV σ) (hc : cs + 950 ≤ 2700) (hs : ss + 23750 ≤ 67500) : G X 848 [.ref h, .int (iZ (σ 0 0 0)), .int (iZ (σ 1 0 0)), .int (iZ (σ 2 0 0)), .int (iZ (σ 3 0 0)), .int (iZ 2147483647), .int (iZ mt), .int (iZ 2), .int (iZ 2147483647), .int (iZ 2147483647), .int (iZ 2147483647), .int (iZ 2147483647), .int (iZ 2147483647), .int (iZ 2147483647), .int (iZ 2147483647), .int (iZ 2147483647), .int (iZ 2147483647), .int (iZ 2147483647), .int (iZ 1), .int (iZ 18)] [.int (iZ 0), .int (iZ 29), .int (iZ 2), .int (iZ 2100), .int (iZ 18), .ref h] M sz cs ss := by
  have hn := hV.n
  unfold SVn at hn
  refine l_act hX hst dL_refuses_848 hH hV (ya_in rfl) (ya_in rfl) (ya_in rfl) (ya_in rfl) (ya_in rfl) (ra18a (by decide +kernel)) (show cs + 10 ≤ 2700 by omega) (show ss + 250 ≤ 67500 by omega) (by first | exact Nat.le_of_ble_eq_true rfl | simp [cat_rf, Value.category]) (fun A ow τ M sz hH hV => ?_)
  refine g_const hX dL_refuses_851 ?_
  refine yf_icmp_ne hX dL_refuses_853 (ya_in rfl) (ya_in rfl) (by decide) ?_
  refine g_aload hX dL_refuses_856 rfl rfl ?_
  refine g_iload hX dL_refuses_857 rfl ?_
  refine g_const hX dL_refuses_859 ?_
  refine g_const hX dL_refuses_862 ?_
  refine g_const hX dL_refuses_864 ?_
  refine g_const hX dL_refuses_866 ?_
  refine l_act hX hst dL_refuses_867 hH hV (ya_in rfl) (ya_in rfl) (ya_in rfl) (ya_in rfl) (ya_in rfl) (ra18a (by decide +kernel)) (show cs + 10 + 10 ≤ 2700 by omega) (show ss + 250 + 250 ≤ 67500 by omega) (by first | exact Nat.le_of_ble_eq_true rfl | simp [cat_rf, Value.category]) (fun A ow τ M sz hH hV => ?_)
  refine g_const hX dL_refuses_870 ?_
  refine yf_icmp_ne hX dL_refuses_872 (ya_in rfl) (ya_in rfl) (by decide) ?_
  refine g_const hX dL_refuses_875 ?_
  refine g_goto hX dL_refuses_876 ?_
  refine g_istore hX dL_refuses_880 ?_
  dsimp only [List.set]
  refine g_iload hX dL_refuses_882 rfl ?_
  refine g_const hX dL_refuses_884 ?_
  refine yf_icmp_eq hX dL_refuses_886 (ya_in rfl) (ya_in rfl) (by decide) ?_
  refine g_iload hX dL_refuses_889 rfl ?_
  refine g_const hX dL_refuses_891 ?_
  refine yt_icmp_ne hX dL_refuses_893 (ya_in rfl) (ya_in rfl) (by decide) ?_
  refine y_iinc (c := 19) hX dL_refuses_939 rfl (by decide) ?_
  dsimp only [List.set]
  refine g_goto hX dL_refuses_942 ?_
  refine g_iload hX dL_refuses_746 rfl ?_
  refine g_const hX dL_refuses_748 ?_
  refine yf_icmp_ge hX dL_refuses_750 (ya_in rfl) (ya_in rfl) (by decide) ?_
  refine g_iload hX dL_refuses_753 rfl ?_
  refine yf_if_eq hX dL_refuses_755 (ya_in rfl) (by decide) ?_
  refine g_iload hX dL_refuses_758 rfl ?_
  refine g_const hX dL_refuses_760 ?_
  refine yf_icmp_eq hX dL_refuses_762 (ya_in rfl) (ya_in rfl) (by decide) ?_
  refine g_iload hX dL_refuses_765 rfl ?_
  refine g_const hX dL_refuses_767 ?_
  refine yf_icmp_eq hX dL_refuses_769 (ya_in rfl) (ya_in rfl) (by decide) ?_
  refine g_iload hX dL_refuses_772 rfl ?_
  refine g_const hX dL_refuses_774 ?_
  refine yf_icmp_eq hX dL_refuses_776 (ya_in rfl) (ya_in rfl) (by decide) ?_
  refine g_iload hX dL_refuses_779 rfl ?_
  refine g_const hX dL_refuses_781 ?_
  refine yt_icmp_ne hX dL_refuses_783 (ya_in rfl) (ya_in rfl) (by decide) ?_
  refine g_iload hX dL_refuses_882 rfl ?_
  refine g_const hX dL_refuses_884 ?_
  refine yt_icmp_eq hX dL_refuses_886 (ya_in rfl) (ya_in rfl) (by decide) ?_
  refine g_aload hX dL_refuses_896 rfl rfl ?_
  refine g_iload hX dL_refuses_897 rfl ?_
  refine g_iload hX dL_refuses_899 rfl ?_
  refine g_const hX dL_refuses_901 ?_
  refine g_const hX dL_refuses_902 ?_
  refine g_const hX dL_refuses_903 ?_
  refine l_act hX hst dL_refuses_904 hH hV (ya_in rfl) (ya_in rfl) (ya_in rfl) (ya_in rfl) (ya_in rfl) (ra19a (fun q => by have q1 := q.1; have q2 := q.2; omega)) (show cs + 10 + 10 + 10 ≤ 2700 by omega) (show ss + 250 + 250 + 250 ≤ 67500 by omega) (by first | exact Nat.le_of_ble_eq_true rfl | simp [cat_rf, Value.category]) (fun A ow τ M sz hH hV => ?_)
  refine g_const hX dL_refuses_907 ?_
  refine yf_icmp_ne hX dL_refuses_909 (ya_in rfl) (ya_in rfl) (by decide) ?_
  refine g_iload hX dL_refuses_912 rfl ?_
  refine z_if_eq hX dL_refuses_913 rn2 (fun c9 => ?_) (fun c9 => ?_)
  · exact rf_g41 hX hst hR hmt rm9 rn0 rn1 rn2 rn3 hK hH hV (by omega) (by omega)
  refine g_aload hX dL_refuses_916 rfl rfl ?_
  refine g_iload hX dL_refuses_917 rfl ?_
  refine g_const hX dL_refuses_919 ?_
  refine g_iload hX dL_refuses_920 rfl ?_
  refine g_const hX dL_refuses_922 ?_
  refine g_const hX dL_refuses_923 ?_
  refine l_act hX hst dL_refuses_924 hH hV (ya_in rfl) (ya_in rfl) (ya_in rfl) (ya_in rfl) (ya_in rfl) (ra19b ⟨by omega, by omega⟩ (by decide +kernel)) (show cs + 10 + 10 + 10 + 10 ≤ 2700 by omega) (show ss + 250 + 250 + 250 + 250 ≤ 67500 by omega) (by first | exact Nat.le_of_ble_eq_true rfl | simp [cat_rf, Value.category]) (fun A ow τ M sz hH hV => ?_)
  refine g_const hX dL_refuses_927 ?_
  refine yf_icmp_ne hX dL_refuses_929 (ya_in rfl) (ya_in rfl) (by decide) ?_
  exact rf_g41 hX hst hR hmt rm9 rn0 rn1 rn2 rn3 hK hH hV (by omega) (by omega)

set_option maxRecDepth 20000 in
theorem rf_g39 {X : hX} (hX : Cok X mL_refuses) (hst : X.1.2.1.stackTraces = false) {M0 : hM} {sz0 : Nat} {K : hK} (hR : Ret X mL_refuses M0 sz0 K) {h : Nat} {σ : SG} {mt : Int} (hmt : metK σ (σ 1 0 0).toNat = mt) (rm9 : inR mt) (rn0 : inR (σ 0 0 0)) (rn1 : inR (σ 1 0 0)) (rn2 : inR (σ 2 0 0)) (rn3 : inR (σ 3 0 0)) (hK : ∀ (A' : Nat → Nat → Nat) (ow' : Nat → Nat × Nat) (τ' : Nat → Nat → Int) (M' : hM) (s9 : Nat), HX X.2.2.2.2.2.2.2.2.2 h A' ow' σ τ' M' → SV σ → K (.inl (some (.int (iZ 1)))) M' s9) {A : Nat → Nat → Nat} {ow : Nat → Nat × Nat} {τ : Nat → Nat → Int} {M : hM} {sz cs ss : Nat} (hH : HX X.2.2.2.2.2.2.2.2.2 h A ow σ τ M) (hV : SV σ) (hc : cs + 980 ≤ 2700) (hs : ss + 24500 ≤ 67500) : G X 942 [.ref h, .int (iZ (σ 0 0 0)), .int (iZ (σ 1 0 0)), .int (iZ (σ 2 0 0)), .int (iZ (σ 3 0 0)), .int (iZ 2147483647), .int (iZ mt), .int (iZ 2), .int (iZ 2147483647), .int (iZ 2147483647), .int (iZ 2147483647), .int (iZ 2147483647), .int (iZ 2147483647), .int (iZ 2147483647), .int (iZ 2147483647), .int (iZ 2147483647), .int (iZ 2147483647), .int (iZ 2147483647), .int (iZ 1), .int (iZ 17)] [] M sz cs ss := by
  have hn := hV.n
  unfold SVn at hn
  refine g_goto hX dL_refuses_942 ?_
  refine g_iload hX dL_refuses_746 rfl ?_
  refine g_const hX dL_refuses_748 ?_
  refine yf_icmp_ge hX dL_refuses_750 (ya_in rfl) (ya_in rfl) (by decide) ?_
  refine g_iload hX dL_refuses_753 rfl ?_
  refine yf_if_eq hX dL_refuses_755 (ya_in rfl) (by decide) ?_
  refine g_iload hX dL_refuses_758 rfl ?_
  refine g_const hX dL_refuses_760 ?_
  refine yf_icmp_eq hX dL_refuses_762 (ya_in rfl) (ya_in rfl) (by decide) ?_
  refine g_iload hX dL_refuses_765 rfl ?_
  refine g_const hX dL_refuses_767 ?_
  refine yf_icmp_eq hX dL_refuses_769 (ya_in rfl) (ya_in rfl) (by decide) ?_
  refine g_iload hX dL_refuses_772 rfl ?_
  refine g_const hX dL_refuses_774 ?_
  refine yf_icmp_eq hX dL_refuses_776 (ya_in rfl) (ya_in rfl) (by decide) ?_
  refine g_iload hX dL_refuses_779 rfl ?_
  refine g_const hX dL_refuses_781 ?_
  refine yt_icmp_ne hX dL_refuses_783 (ya_in rfl) (ya_in rfl) (by decide) ?_
  refine g_iload hX dL_refuses_882 rfl ?_
  refine g_const hX dL_refuses_884 ?_
  refine yf_icmp_eq hX dL_refuses_886 (ya_in rfl) (ya_in rfl) (by decide) ?_
  refine g_iload hX dL_refuses_889 rfl ?_
  refine g_const hX dL_refuses_891 ?_
  refine yt_icmp_ne hX dL_refuses_893 (ya_in rfl) (ya_in rfl) (by decide) ?_
  refine y_iinc (c := 18) hX dL_refuses_939 rfl (by decide) ?_
  dsimp only [List.set]
  refine g_goto hX dL_refuses_942 ?_
  refine g_iload hX dL_refuses_746 rfl ?_
  refine g_const hX dL_refuses_748 ?_
  refine yf_icmp_ge hX dL_refuses_750 (ya_in rfl) (ya_in rfl) (by decide) ?_
  refine g_iload hX dL_refuses_753 rfl ?_
  refine yf_if_eq hX dL_refuses_755 (ya_in rfl) (by decide) ?_
  refine g_iload hX dL_refuses_758 rfl ?_
  refine g_const hX dL_refuses_760 ?_
  refine yf_icmp_eq hX dL_refuses_762 (ya_in rfl) (ya_in rfl) (by decide) ?_
  refine g_iload hX dL_refuses_765 rfl ?_
  refine g_const hX dL_refuses_767 ?_
  refine yt_icmp_eq hX dL_refuses_769 (ya_in rfl) (ya_in rfl) (by decide) ?_
  refine g_aload hX dL_refuses_786 rfl rfl ?_
  refine g_iload hX dL_refuses_787 rfl ?_
  refine g_iload hX dL_refuses_789 rfl ?_
  refine g_const hX dL_refuses_791 ?_
  refine g_const hX dL_refuses_792 ?_
  refine g_const hX dL_refuses_793 ?_
  refine l_act hX hst dL_refuses_794 hH hV (ya_in rfl) (ya_in rfl) (ya_in rfl) (ya_in rfl) (ya_in rfl) (ra18a (by decide +kernel)) (show cs + 10 ≤ 2700 by omega) (show ss + 250 ≤ 67500 by omega) (by first | exact Nat.le_of_ble_eq_true rfl | simp [cat_rf, Value.category]) (fun A ow τ M sz hH hV => ?_)
  refine g_const hX dL_refuses_797 ?_
  refine yf_icmp_ne hX dL_refuses_799 (ya_in rfl) (ya_in rfl) (by decide) ?_
  refine g_aload hX dL_refuses_802 rfl rfl ?_
  refine g_iload hX dL_refuses_803 rfl ?_
  refine g_const hX dL_refuses_805 ?_
  refine g_iload hX dL_refuses_808 rfl ?_
  refine g_const hX dL_refuses_810 ?_
  refine g_const hX dL_refuses_811 ?_
  refine l_act hX hst dL_refuses_812 hH hV (ya_in rfl) (ya_in rfl) (ya_in rfl) (ya_in rfl) (ya_in rfl) (ra18a (by decide +kernel)) (show cs + 10 + 10 ≤ 2700 by omega) (show ss + 250 + 250 ≤ 67500 by omega) (by first | exact Nat.le_of_ble_eq_true rfl | simp [cat_rf, Value.category]) (fun A ow τ M sz hH hV => ?_)
  refine g_const hX dL_refuses_815 ?_
  refine yf_icmp_ne hX dL_refuses_817 (ya_in rfl) (ya_in rfl) (by decide) ?_
  refine g_aload hX dL_refuses_820 rfl rfl ?_
  refine g_iload hX dL_refuses_821 rfl ?_
  refine g_const hX dL_refuses_823 ?_
  refine g_const hX dL_refuses_826 ?_
  refine g_iload hX dL_refuses_827 rfl ?_
  refine g_const hX dL_refuses_829 ?_
  refine l_act hX hst dL_refuses_830 hH hV (ya_in rfl) (ya_in rfl) (ya_in rfl) (ya_in rfl) (ya_in rfl) (ra18a (by decide +kernel)) (show cs + 10 + 10 + 10 ≤ 2700 by omega) (show ss + 250 + 250 + 250 ≤ 67500 by omega) (by first | exact Nat.le_of_ble_eq_true rfl | simp [cat_rf, Value.category]) (fun A ow τ M sz hH hV => ?_)
  refine g_const hX dL_refuses_833 ?_
  refine yf_icmp_ne hX dL_refuses_835 (ya_in rfl) (ya_in rfl) (by decide) ?_
  refine g_aload hX dL_refuses_838 rfl rfl ?_
  refine g_iload hX dL_refuses_839 rfl ?_
  refine g_const hX dL_refuses_841 ?_
  refine g_const hX dL_refuses_844 ?_
  refine g_const hX dL_refuses_845 ?_
  refine g_const hX dL_refuses_847 ?_
  exact rf_g40 hX hst hR hmt rm9 rn0 rn1 rn2 rn3 hK hH hV (by omega) (by omega)

set_option maxRecDepth 20000 in
theorem rf_g38 {X : hX} (hX : Cok X mL_refuses) (hst : X.1.2.1.stackTraces = false) {M0 : hM} {sz0 : Nat} {K : hK} (hR : Ret X mL_refuses M0 sz0 K) {h : Nat} {σ : SG} {mt : Int} (hmt : metK σ (σ 1 0 0).toNat = mt) (rm9 : inR mt) (rn0 : inR (σ 0 0 0)) (rn1 : inR (σ 1 0 0)) (rn2 : inR (σ 2 0 0)) (rn3 : inR (σ 3 0 0)) (hK : ∀ (A' : Nat → Nat → Nat) (ow' : Nat → Nat × Nat) (τ' : Nat → Nat → Int) (M' : hM) (s9 : Nat), HX X.2.2.2.2.2.2.2.2.2 h A' ow' σ τ' M' → SV σ → K (.inl (some (.int (iZ 1)))) M' s9) {A : Nat → Nat → Nat} {ow : Nat → Nat × Nat} {τ : Nat → Nat → Int} {M : hM} {sz cs ss : Nat} (hH : HX X.2.2.2.2.2.2.2.2.2 h A ow σ τ M) (hV : SV σ) (hc : cs + 980 ≤ 2700) (hs : ss + 24500 ≤ 67500) : G X 760 [.ref h, .int (iZ (σ 0 0 0)), .int (iZ (σ 1 0 0)), .int (iZ (σ 2 0 0)), .int (iZ (σ 3 0 0)), .int (iZ 2147483647), .int (iZ mt), .int (iZ 2), .int (iZ 2147483647), .int (iZ 2147483647), .int (iZ 2147483647), .int (iZ 2147483647), .int (iZ 2147483647), .int (iZ 2147483647), .int (iZ 2147483647), .int (iZ 2147483647), .int (iZ 2147483647), .int (iZ 2147483647), .int (iZ 1), .int (iZ 14)] [.int (iZ 14)] M sz cs ss := by
  have hn := hV.n
  unfold SVn at hn
  refine g_const hX dL_refuses_760 ?_
  refine yf_icmp_eq hX dL_refuses_762 (ya_in rfl) (ya_in rfl) (by decide) ?_
  refine g_iload hX dL_refuses_765 rfl ?_
  refine g_const hX dL_refuses_767 ?_
  refine yf_icmp_eq hX dL_refuses_769 (ya_in rfl) (ya_in rfl) (by decide) ?_
  refine g_iload hX dL_refuses_772 rfl ?_
  refine g_const hX dL_refuses_774 ?_
  refine yf_icmp_eq hX dL_refuses_776 (ya_in rfl) (ya_in rfl) (by decide) ?_
  refine g_iload hX dL_refuses_779 rfl ?_
  refine g_const hX dL_refuses_781 ?_
  refine yt_icmp_ne hX dL_refuses_783 (ya_in rfl) (ya_in rfl) (by decide) ?_
  refine g_iload hX dL_refuses_882 rfl ?_
  refine g_const hX dL_refuses_884 ?_
  refine yf_icmp_eq hX dL_refuses_886 (ya_in rfl) (ya_in rfl) (by decide) ?_
  refine g_iload hX dL_refuses_889 rfl ?_
  refine g_const hX dL_refuses_891 ?_
  refine yt_icmp_ne hX dL_refuses_893 (ya_in rfl) (ya_in rfl) (by decide) ?_
  refine y_iinc (c := 15) hX dL_refuses_939 rfl (by decide) ?_
  dsimp only [List.set]
  refine g_goto hX dL_refuses_942 ?_
  refine g_iload hX dL_refuses_746 rfl ?_
  refine g_const hX dL_refuses_748 ?_
  refine yf_icmp_ge hX dL_refuses_750 (ya_in rfl) (ya_in rfl) (by decide) ?_
  refine g_iload hX dL_refuses_753 rfl ?_
  refine yf_if_eq hX dL_refuses_755 (ya_in rfl) (by decide) ?_
  refine g_iload hX dL_refuses_758 rfl ?_
  refine g_const hX dL_refuses_760 ?_
  refine yf_icmp_eq hX dL_refuses_762 (ya_in rfl) (ya_in rfl) (by decide) ?_
  refine g_iload hX dL_refuses_765 rfl ?_
  refine g_const hX dL_refuses_767 ?_
  refine yf_icmp_eq hX dL_refuses_769 (ya_in rfl) (ya_in rfl) (by decide) ?_
  refine g_iload hX dL_refuses_772 rfl ?_
  refine g_const hX dL_refuses_774 ?_
  refine yf_icmp_eq hX dL_refuses_776 (ya_in rfl) (ya_in rfl) (by decide) ?_
  refine g_iload hX dL_refuses_779 rfl ?_
  refine g_const hX dL_refuses_781 ?_
  refine yt_icmp_ne hX dL_refuses_783 (ya_in rfl) (ya_in rfl) (by decide) ?_
  refine g_iload hX dL_refuses_882 rfl ?_
  refine g_const hX dL_refuses_884 ?_
  refine yf_icmp_eq hX dL_refuses_886 (ya_in rfl) (ya_in rfl) (by decide) ?_
  refine g_iload hX dL_refuses_889 rfl ?_
  refine g_const hX dL_refuses_891 ?_
  refine yt_icmp_ne hX dL_refuses_893 (ya_in rfl) (ya_in rfl) (by decide) ?_
  refine y_iinc (c := 16) hX dL_refuses_939 rfl (by decide) ?_
  dsimp only [List.set]
  refine g_goto hX dL_refuses_942 ?_
  refine g_iload hX dL_refuses_746 rfl ?_
  refine g_const hX dL_refuses_748 ?_
  refine yf_icmp_ge hX dL_refuses_750 (ya_in rfl) (ya_in rfl) (by decide) ?_
  refine g_iload hX dL_refuses_753 rfl ?_
  refine yf_if_eq hX dL_refuses_755 (ya_in rfl) (by decide) ?_
  refine g_iload hX dL_refuses_758 rfl ?_
  refine g_const hX dL_refuses_760 ?_
  refine yf_icmp_eq hX dL_refuses_762 (ya_in rfl) (ya_in rfl) (by decide) ?_
  refine g_iload hX dL_refuses_765 rfl ?_
  refine g_const hX dL_refuses_767 ?_
  refine yf_icmp_eq hX dL_refuses_769 (ya_in rfl) (ya_in rfl) (by decide) ?_
  refine g_iload hX dL_refuses_772 rfl ?_
  refine g_const hX dL_refuses_774 ?_
  refine yf_icmp_eq hX dL_refuses_776 (ya_in rfl) (ya_in rfl) (by decide) ?_
  refine g_iload hX dL_refuses_779 rfl ?_
  refine g_const hX dL_refuses_781 ?_
  refine yt_icmp_ne hX dL_refuses_783 (ya_in rfl) (ya_in rfl) (by decide) ?_
  refine g_iload hX dL_refuses_882 rfl ?_
  refine g_const hX dL_refuses_884 ?_
  refine yf_icmp_eq hX dL_refuses_886 (ya_in rfl) (ya_in rfl) (by decide) ?_
  refine g_iload hX dL_refuses_889 rfl ?_
  refine g_const hX dL_refuses_891 ?_
  refine yt_icmp_ne hX dL_refuses_893 (ya_in rfl) (ya_in rfl) (by decide) ?_
  refine y_iinc (c := 17) hX dL_refuses_939 rfl (by decide) ?_
  dsimp only [List.set]
  exact rf_g39 hX hst hR hmt rm9 rn0 rn1 rn2 rn3 hK hH hV (by omega) (by omega)

set_option maxRecDepth 20000 in
theorem rf_g37 {X : hX} (hX : Cok X mL_refuses) (hst : X.1.2.1.stackTraces = false) {M0 : hM} {sz0 : Nat} {K : hK} (hR : Ret X mL_refuses M0 sz0 K) {h : Nat} {σ : SG} {mt : Int} (hmt : metK σ (σ 1 0 0).toNat = mt) (rm9 : inR mt) (rn0 : inR (σ 0 0 0)) (rn1 : inR (σ 1 0 0)) (rn2 : inR (σ 2 0 0)) (rn3 : inR (σ 3 0 0)) (hK : ∀ (A' : Nat → Nat → Nat) (ow' : Nat → Nat × Nat) (τ' : Nat → Nat → Int) (M' : hM) (s9 : Nat), HX X.2.2.2.2.2.2.2.2.2 h A' ow' σ τ' M' → SV σ → K (.inl (some (.int (iZ 1)))) M' s9) {A : Nat → Nat → Nat} {ow : Nat → Nat × Nat} {τ : Nat → Nat → Int} {M : hM} {sz cs ss : Nat} (hH : HX X.2.2.2.2.2.2.2.2.2 h A ow σ τ M) (hV : SV σ) (hc : cs + 1030 ≤ 2700) (hs : ss + 25750 ≤ 67500) : G X 748 [.ref h, .int (iZ (σ 0 0 0)), .int (iZ (σ 1 0 0)), .int (iZ (σ 2 0 0)), .int (iZ (σ 3 0 0)), .int (iZ 2147483647), .int (iZ mt), .int (iZ 2), .int (iZ 2147483647), .int (iZ 2147483647), .int (iZ 2147483647), .int (iZ 2147483647), .int (iZ 2147483647), .int (iZ 2147483647), .int (iZ 2147483647), .int (iZ 2147483647), .int (iZ 2147483647), .int (iZ 2147483647), .int (iZ 1), .int (iZ 13)] [.int (iZ 13)] M sz cs ss := by
  have hn := hV.n
  unfold SVn at hn
  refine g_const hX dL_refuses_748 ?_
  refine yf_icmp_ge hX dL_refuses_750 (ya_in rfl) (ya_in rfl) (by decide) ?_
  refine g_iload hX dL_refuses_753 rfl ?_
  refine yf_if_eq hX dL_refuses_755 (ya_in rfl) (by decide) ?_
  refine g_iload hX dL_refuses_758 rfl ?_
  refine g_const hX dL_refuses_760 ?_
  refine yt_icmp_eq hX dL_refuses_762 (ya_in rfl) (ya_in rfl) (by decide) ?_
  refine g_aload hX dL_refuses_786 rfl rfl ?_
  refine g_iload hX dL_refuses_787 rfl ?_
  refine g_iload hX dL_refuses_789 rfl ?_
  refine g_const hX dL_refuses_791 ?_
  refine g_const hX dL_refuses_792 ?_
  refine g_const hX dL_refuses_793 ?_
  refine l_act hX hst dL_refuses_794 hH hV (ya_in rfl) (ya_in rfl) (ya_in rfl) (ya_in rfl) (ya_in rfl) (ra13a (by decide +kernel)) (show cs + 10 ≤ 2700 by omega) (show ss + 250 ≤ 67500 by omega) (by first | exact Nat.le_of_ble_eq_true rfl | simp [cat_rf, Value.category]) (fun A ow τ M sz hH hV => ?_)
  refine g_const hX dL_refuses_797 ?_
  refine yf_icmp_ne hX dL_refuses_799 (ya_in rfl) (ya_in rfl) (by decide) ?_
  refine g_aload hX dL_refuses_802 rfl rfl ?_
  refine g_iload hX dL_refuses_803 rfl ?_
  refine g_const hX dL_refuses_805 ?_
  refine g_iload hX dL_refuses_808 rfl ?_
  refine g_const hX dL_refuses_810 ?_
  refine g_const hX dL_refuses_811 ?_
  refine l_act hX hst dL_refuses_812 hH hV (ya_in rfl) (ya_in rfl) (ya_in rfl) (ya_in rfl) (ya_in rfl) (ra13a (by decide +kernel)) (show cs + 10 + 10 ≤ 2700 by omega) (show ss + 250 + 250 ≤ 67500 by omega) (by first | exact Nat.le_of_ble_eq_true rfl | simp [cat_rf, Value.category]) (fun A ow τ M sz hH hV => ?_)
  refine g_const hX dL_refuses_815 ?_
  refine yf_icmp_ne hX dL_refuses_817 (ya_in rfl) (ya_in rfl) (by decide) ?_
  refine g_aload hX dL_refuses_820 rfl rfl ?_
  refine g_iload hX dL_refuses_821 rfl ?_
  refine g_const hX dL_refuses_823 ?_
  refine g_const hX dL_refuses_826 ?_
  refine g_iload hX dL_refuses_827 rfl ?_
  refine g_const hX dL_refuses_829 ?_
  refine l_act hX hst dL_refuses_830 hH hV (ya_in rfl) (ya_in rfl) (ya_in rfl) (ya_in rfl) (ya_in rfl) (ra13a (by decide +kernel)) (show cs + 10 + 10 + 10 ≤ 2700 by omega) (show ss + 250 + 250 + 250 ≤ 67500 by omega) (by first | exact Nat.le_of_ble_eq_true rfl | simp [cat_rf, Value.category]) (fun A ow τ M sz hH hV => ?_)
  refine g_const hX dL_refuses_833 ?_
  refine yf_icmp_ne hX dL_refuses_835 (ya_in rfl) (ya_in rfl) (by decide) ?_
  refine g_aload hX dL_refuses_838 rfl rfl ?_
  refine g_iload hX dL_refuses_839 rfl ?_
  refine g_const hX dL_refuses_841 ?_
  refine g_const hX dL_refuses_844 ?_
  refine g_const hX dL_refuses_845 ?_
  refine g_const hX dL_refuses_847 ?_
  refine l_act hX hst dL_refuses_848 hH hV (ya_in rfl) (ya_in rfl) (ya_in rfl) (ya_in rfl) (ya_in rfl) (ra13a (by decide +kernel)) (show cs + 10 + 10 + 10 + 10 ≤ 2700 by omega) (show ss + 250 + 250 + 250 + 250 ≤ 67500 by omega) (by first | exact Nat.le_of_ble_eq_true rfl | simp [cat_rf, Value.category]) (fun A ow τ M sz hH hV => ?_)
  refine g_const hX dL_refuses_851 ?_
  refine yf_icmp_ne hX dL_refuses_853 (ya_in rfl) (ya_in rfl) (by decide) ?_
  refine g_aload hX dL_refuses_856 rfl rfl ?_
  refine g_iload hX dL_refuses_857 rfl ?_
  refine g_const hX dL_refuses_859 ?_
  refine g_const hX dL_refuses_862 ?_
  refine g_const hX dL_refuses_864 ?_
  refine g_const hX dL_refuses_866 ?_
  refine l_act hX hst dL_refuses_867 hH hV (ya_in rfl) (ya_in rfl) (ya_in rfl) (ya_in rfl) (ya_in rfl) (ra13a (by decide +kernel)) (show cs + 10 + 10 + 10 + 10 + 10 ≤ 2700 by omega) (show ss + 250 + 250 + 250 + 250 + 250 ≤ 67500 by omega) (by first | exact Nat.le_of_ble_eq_true rfl | simp [cat_rf, Value.category]) (fun A ow τ M sz hH hV => ?_)
  refine g_const hX dL_refuses_870 ?_
  refine yf_icmp_ne hX dL_refuses_872 (ya_in rfl) (ya_in rfl) (by decide) ?_
  refine g_const hX dL_refuses_875 ?_
  refine g_goto hX dL_refuses_876 ?_
  refine g_istore hX dL_refuses_880 ?_
  dsimp only [List.set]
  refine g_iload hX dL_refuses_882 rfl ?_
  refine g_const hX dL_refuses_884 ?_
  refine yf_icmp_eq hX dL_refuses_886 (ya_in rfl) (ya_in rfl) (by decide) ?_
  refine g_iload hX dL_refuses_889 rfl ?_
  refine g_const hX dL_refuses_891 ?_
  refine yt_icmp_ne hX dL_refuses_893 (ya_in rfl) (ya_in rfl) (by decide) ?_
  refine y_iinc (c := 14) hX dL_refuses_939 rfl (by decide) ?_
  dsimp only [List.set]
  refine g_goto hX dL_refuses_942 ?_
  refine g_iload hX dL_refuses_746 rfl ?_
  refine g_const hX dL_refuses_748 ?_
  refine yf_icmp_ge hX dL_refuses_750 (ya_in rfl) (ya_in rfl) (by decide) ?_
  refine g_iload hX dL_refuses_753 rfl ?_
  refine yf_if_eq hX dL_refuses_755 (ya_in rfl) (by decide) ?_
  refine g_iload hX dL_refuses_758 rfl ?_
  exact rf_g38 hX hst hR hmt rm9 rn0 rn1 rn2 rn3 hK hH hV (by omega) (by omega)

set_option maxRecDepth 20000 in
theorem rf_g36 {X : hX} (hX : Cok X mL_refuses) (hst : X.1.2.1.stackTraces = false) {M0 : hM} {sz0 : Nat} {K : hK} (hR : Ret X mL_refuses M0 sz0 K) {h : Nat} {σ : SG} {mt : Int} (hmt : metK σ (σ 1 0 0).toNat = mt) (rm9 : inR mt) (rn0 : inR (σ 0 0 0)) (rn1 : inR (σ 1 0 0)) (rn2 : inR (σ 2 0 0)) (rn3 : inR (σ 3 0 0)) (hK : ∀ (A' : Nat → Nat → Nat) (ow' : Nat → Nat × Nat) (τ' : Nat → Nat → Int) (M' : hM) (s9 : Nat), HX X.2.2.2.2.2.2.2.2.2 h A' ow' σ τ' M' → SV σ → K (.inl (some (.int (iZ 1)))) M' s9) {A : Nat → Nat → Nat} {ow : Nat → Nat × Nat} {τ : Nat → Nat → Int} {M : hM} {sz cs ss : Nat} (hH : HX X.2.2.2.2.2.2.2.2.2 h A ow σ τ M) (hV : SV σ) (hc : cs + 1090 ≤ 2700) (hs : ss + 27250 ≤ 67500) : G X 589 [.ref h, .int (iZ (σ 0 0 0)), .int (iZ (σ 1 0 0)), .int (iZ (σ 2 0 0)), .int (iZ (σ 3 0 0)), .int (iZ 2147483647), .int (iZ mt), .int (iZ 2), .int (iZ 2147483647), .int (iZ 2147483647), .int (iZ 2147483647), .int (iZ 2147483647), .int (iZ 2147483647), .int (iZ 2147483647), .int (iZ 2147483647), .int (iZ 2147483647), .int (iZ 2147483647), .int (iZ 2147483647), .int (iZ 1), .int (iZ 24)] [.int (iZ 0), .int (iZ 1), .int (iZ 2147483647), .int (iZ 15), .ref h] M sz cs ss := by
  have hn := hV.n
  unfold SVn at hn
  refine g_const hX dL_refuses_589 ?_
  refine l_act hX hst dL_refuses_590 hH hV (ya_in rfl) (ya_in rfl) (ya_in rfl) (ya_in rfl) (ya_in rfl) (ra15a (by decide +kernel)) (show cs + 10 ≤ 2700 by omega) (show ss + 250 ≤ 67500 by omega) (by first | exact Nat.le_of_ble_eq_true rfl | simp [cat_rf, Value.category]) (fun A ow τ M sz hH hV => ?_)
  refine g_const hX dL_refuses_593 ?_
  refine yf_icmp_ne hX dL_refuses_595 (ya_in rfl) (ya_in rfl) (by decide) ?_
  refine g_aload hX dL_refuses_598 rfl rfl ?_
  refine g_const hX dL_refuses_599 ?_
  refine g_const hX dL_refuses_601 ?_
  refine g_const hX dL_refuses_602 ?_
  refine g_iload hX dL_refuses_603 rfl ?_
  refine yt_if_ne hX dL_refuses_605 (ya_in rfl) (by decide) ?_
  refine g_iload hX dL_refuses_613 rfl ?_
  refine g_const hX dL_refuses_615 ?_
  refine yt_icmp_ne hX dL_refuses_616 (ya_in rfl) (ya_in rfl) (by decide) ?_
  refine g_iload hX dL_refuses_624 rfl ?_
  refine g_const hX dL_refuses_626 ?_
  refine l_act hX hst dL_refuses_627 hH hV (ya_in rfl) (ya_in rfl) (ya_in rfl) (ya_in rfl) (ya_in rfl) (ra15a (by decide +kernel)) (show cs + 10 + 10 ≤ 2700 by omega) (show ss + 250 + 250 ≤ 67500 by omega) (by first | exact Nat.le_of_ble_eq_true rfl | simp [cat_rf, Value.category]) (fun A ow τ M sz hH hV => ?_)
  refine g_const hX dL_refuses_630 ?_
  refine yf_icmp_ne hX dL_refuses_632 (ya_in rfl) (ya_in rfl) (by decide) ?_
  refine g_aload hX dL_refuses_635 rfl rfl ?_
  refine g_const hX dL_refuses_636 ?_
  refine g_iload hX dL_refuses_638 rfl ?_
  refine g_const hX dL_refuses_640 ?_
  refine yt_icmp_ne hX dL_refuses_641 (ya_in rfl) (ya_in rfl) (by decide) ?_
  refine g_iload hX dL_refuses_649 rfl ?_
  refine g_const hX dL_refuses_651 ?_
  refine g_const hX dL_refuses_652 ?_
  refine g_const hX dL_refuses_653 ?_
  refine l_act hX hst dL_refuses_654 hH hV (ya_in rfl) (ya_in rfl) (ya_in rfl) (ya_in rfl) (ya_in rfl) (ra16a (by decide +kernel)) (show cs + 10 + 10 + 10 ≤ 2700 by omega) (show ss + 250 + 250 + 250 ≤ 67500 by omega) (by first | exact Nat.le_of_ble_eq_true rfl | simp [cat_rf, Value.category]) (fun A ow τ M sz hH hV => ?_)
  refine g_const hX dL_refuses_657 ?_
  refine yf_icmp_ne hX dL_refuses_659 (ya_in rfl) (ya_in rfl) (by decide) ?_
  refine g_aload hX dL_refuses_662 rfl rfl ?_
  refine g_const hX dL_refuses_663 ?_
  refine g_iload hX dL_refuses_665 rfl ?_
  refine g_const hX dL_refuses_667 ?_
  refine g_const hX dL_refuses_669 ?_
  refine g_const hX dL_refuses_671 ?_
  refine l_act hX hst dL_refuses_672 hH hV (ya_in rfl) (ya_in rfl) (ya_in rfl) (ya_in rfl) (ya_in rfl) (ra17a (fun q => by
    rcases q with q | q
    · omega
    · have q1 := q.1
      have q2 := q.2
      omega)) (show cs + 10 + 10 + 10 + 10 ≤ 2700 by omega) (show ss + 250 + 250 + 250 + 250 ≤ 67500 by omega) (by first | exact Nat.le_of_ble_eq_true rfl | simp [cat_rf, Value.category]) (fun A ow τ M sz hH hV => ?_)
  refine g_const hX dL_refuses_675 ?_
  refine yf_icmp_ne hX dL_refuses_677 (ya_in rfl) (ya_in rfl) (by decide) ?_
  refine g_aload hX dL_refuses_680 rfl rfl ?_
  refine g_const hX dL_refuses_681 ?_
  refine g_const hX dL_refuses_683 ?_
  refine g_iload hX dL_refuses_685 rfl ?_
  refine g_const hX dL_refuses_687 ?_
  refine yt_icmp_ne hX dL_refuses_688 (ya_in rfl) (ya_in rfl) (by decide) ?_
  refine g_iload hX dL_refuses_695 rfl ?_
  refine g_const hX dL_refuses_697 ?_
  refine g_const hX dL_refuses_698 ?_
  refine l_act hX hst dL_refuses_699 hH hV (ya_in rfl) (ya_in rfl) (ya_in rfl) (ya_in rfl) (ya_in rfl) (ra17b (Or.inl rfl) (by decide +kernel)) (show cs + 10 + 10 + 10 + 10 + 10 ≤ 2700 by omega) (show ss + 250 + 250 + 250 + 250 + 250 ≤ 67500 by omega) (by first | exact Nat.le_of_ble_eq_true rfl | simp [cat_rf, Value.category]) (fun A ow τ M sz hH hV => ?_)
  refine g_const hX dL_refuses_702 ?_
  refine yf_icmp_ne hX dL_refuses_704 (ya_in rfl) (ya_in rfl) (by decide) ?_
  refine g_aload hX dL_refuses_707 rfl rfl ?_
  refine g_const hX dL_refuses_708 ?_
  refine g_const hX dL_refuses_710 ?_
  refine g_const hX dL_refuses_712 ?_
  refine g_iload hX dL_refuses_713 rfl ?_
  refine g_const hX dL_refuses_715 ?_
  refine yt_icmp_ne hX dL_refuses_716 (ya_in rfl) (ya_in rfl) (by decide) ?_
  refine g_iload hX dL_refuses_724 rfl ?_
  refine g_const hX dL_refuses_726 ?_
  refine l_act hX hst dL_refuses_727 hH hV (ya_in rfl) (ya_in rfl) (ya_in rfl) (ya_in rfl) (ya_in rfl) (ra17b (Or.inl rfl) (by decide +kernel)) (show cs + 10 + 10 + 10 + 10 + 10 + 10 ≤ 2700 by omega) (show ss + 250 + 250 + 250 + 250 + 250 + 250 ≤ 67500 by omega) (by first | exact Nat.le_of_ble_eq_true rfl | simp [cat_rf, Value.category]) (fun A ow τ M sz hH hV => ?_)
  refine g_const hX dL_refuses_730 ?_
  refine yf_icmp_ne hX dL_refuses_732 (ya_in rfl) (ya_in rfl) (by decide) ?_
  refine g_const hX dL_refuses_735 ?_
  refine g_goto hX dL_refuses_736 ?_
  refine g_istore hX dL_refuses_740 ?_
  dsimp only [List.set]
  refine g_const hX dL_refuses_742 ?_
  refine g_istore hX dL_refuses_744 ?_
  dsimp only [List.set]
  refine g_iload hX dL_refuses_746 rfl ?_
  exact rf_g37 hX hst hR hmt rm9 rn0 rn1 rn2 rn3 hK hH hV (by omega) (by omega)

set_option maxRecDepth 20000 in
theorem rf_g35 {X : hX} (hX : Cok X mL_refuses) (hst : X.1.2.1.stackTraces = false) {M0 : hM} {sz0 : Nat} {K : hK} (hR : Ret X mL_refuses M0 sz0 K) {h : Nat} {σ : SG} {mt : Int} (hmt : metK σ (σ 1 0 0).toNat = mt) (rm9 : inR mt) (rn0 : inR (σ 0 0 0)) (rn1 : inR (σ 1 0 0)) (rn2 : inR (σ 2 0 0)) (rn3 : inR (σ 3 0 0)) (hK : ∀ (A' : Nat → Nat → Nat) (ow' : Nat → Nat × Nat) (τ' : Nat → Nat → Int) (M' : hM) (s9 : Nat), HX X.2.2.2.2.2.2.2.2.2 h A' ow' σ τ' M' → SV σ → K (.inl (some (.int (iZ 1)))) M' s9) {A : Nat → Nat → Nat} {ow : Nat → Nat × Nat} {τ : Nat → Nat → Int} {M : hM} {sz cs ss : Nat} (hH : HX X.2.2.2.2.2.2.2.2.2 h A ow σ τ M) (hV : SV σ) (hc : cs + 1170 ≤ 2700) (hs : ss + 29250 ≤ 67500) : G X 461 [.ref h, .int (iZ (σ 0 0 0)), .int (iZ (σ 1 0 0)), .int (iZ (σ 2 0 0)), .int (iZ (σ 3 0 0)), .int (iZ 2147483647), .int (iZ mt), .int (iZ 2), .int (iZ 2147483647), .int (iZ 2147483647), .int (iZ 2147483647), .int (iZ 2147483647), .int (iZ 2147483647), .int (iZ 2147483647), .int (iZ 2147483647), .int (iZ 2147483647), .int (iZ 2147483647), .int (iZ 2147483647), .int (iZ 1), .int (iZ 24)] [.int (iZ 0), .int (iZ 0), .int (iZ 1), .int (iZ 2147483647), .int (iZ 8), .ref h] M sz cs ss := by
  have hn := hV.n
  unfold SVn at hn
  refine l_act hX hst dL_refuses_461 hH hV (ya_in rfl) (ya_in rfl) (ya_in rfl) (ya_in rfl) (ya_in rfl) (ra8a (fun q => by have q1 := q.1; have q2 := q.2; omega)) (show cs + 10 ≤ 2700 by omega) (show ss + 250 ≤ 67500 by omega) (by first | exact Nat.le_of_ble_eq_true rfl | simp [cat_rf, Value.category]) (fun A ow τ M sz hH hV => ?_)
  refine g_const hX dL_refuses_464 ?_
  refine yf_icmp_ne hX dL_refuses_466 (ya_in rfl) (ya_in rfl) (by decide) ?_
  refine g_aload hX dL_refuses_469 rfl rfl ?_
  refine g_const hX dL_refuses_470 ?_
  refine g_iload hX dL_refuses_472 rfl ?_
  refine g_const hX dL_refuses_474 ?_
  refine g_const hX dL_refuses_475 ?_
  refine g_const hX dL_refuses_476 ?_
  refine l_act hX hst dL_refuses_477 hH hV (ya_in rfl) (ya_in rfl) (ya_in rfl) (ya_in rfl) (ya_in rfl) (ra9a (fun q => by have q1 := q.1; have q2 := q.2; omega)) (show cs + 10 + 10 ≤ 2700 by omega) (show ss + 250 + 250 ≤ 67500 by omega) (by first | exact Nat.le_of_ble_eq_true rfl | simp [cat_rf, Value.category]) (fun A ow τ M sz hH hV => ?_)
  refine g_const hX dL_refuses_480 ?_
  refine yf_icmp_ne hX dL_refuses_482 (ya_in rfl) (ya_in rfl) (by decide) ?_
  refine g_aload hX dL_refuses_485 rfl rfl ?_
  refine g_const hX dL_refuses_486 ?_
  refine g_iload hX dL_refuses_488 rfl ?_
  refine g_const hX dL_refuses_490 ?_
  refine g_const hX dL_refuses_492 ?_
  refine g_const hX dL_refuses_493 ?_
  refine l_act hX hst dL_refuses_494 hH hV (ya_in rfl) (ya_in rfl) (ya_in rfl) (ya_in rfl) (ya_in rfl) (ra10a (fun q => by have q1 := q.1; have q2 := q.2; omega)) (show cs + 10 + 10 + 10 ≤ 2700 by omega) (show ss + 250 + 250 + 250 ≤ 67500 by omega) (by first | exact Nat.le_of_ble_eq_true rfl | simp [cat_rf, Value.category]) (fun A ow τ M sz hH hV => ?_)
  refine g_const hX dL_refuses_497 ?_
  refine yf_icmp_ne hX dL_refuses_499 (ya_in rfl) (ya_in rfl) (by decide) ?_
  refine g_aload hX dL_refuses_502 rfl rfl ?_
  refine g_const hX dL_refuses_503 ?_
  refine g_iload hX dL_refuses_505 rfl ?_
  refine g_const hX dL_refuses_507 ?_
  refine g_const hX dL_refuses_508 ?_
  refine g_const hX dL_refuses_509 ?_
  refine l_act hX hst dL_refuses_510 hH hV (ya_in rfl) (ya_in rfl) (ya_in rfl) (ya_in rfl) (ya_in rfl) (ra11a (by decide +kernel)) (show cs + 10 + 10 + 10 + 10 ≤ 2700 by omega) (show ss + 250 + 250 + 250 + 250 ≤ 67500 by omega) (by first | exact Nat.le_of_ble_eq_true rfl | simp [cat_rf, Value.category]) (fun A ow τ M sz hH hV => ?_)
  refine g_const hX dL_refuses_513 ?_
  refine yf_icmp_ne hX dL_refuses_515 (ya_in rfl) (ya_in rfl) (by decide) ?_
  refine g_aload hX dL_refuses_518 rfl rfl ?_
  refine g_const hX dL_refuses_519 ?_
  refine g_iload hX dL_refuses_521 rfl ?_
  refine g_const hX dL_refuses_523 ?_
  refine g_const hX dL_refuses_524 ?_
  refine g_const hX dL_refuses_525 ?_
  refine l_act hX hst dL_refuses_526 hH hV (ya_in rfl) (ya_in rfl) (ya_in rfl) (ya_in rfl) (ya_in rfl) (ra12a (by decide +kernel)) (show cs + 10 + 10 + 10 + 10 + 10 ≤ 2700 by omega) (show ss + 250 + 250 + 250 + 250 + 250 ≤ 67500 by omega) (by first | exact Nat.le_of_ble_eq_true rfl | simp [cat_rf, Value.category]) (fun A ow τ M sz hH hV => ?_)
  refine g_const hX dL_refuses_529 ?_
  refine yf_icmp_ne hX dL_refuses_531 (ya_in rfl) (ya_in rfl) (by decide) ?_
  refine g_aload hX dL_refuses_534 rfl rfl ?_
  refine g_const hX dL_refuses_535 ?_
  refine g_iload hX dL_refuses_537 rfl ?_
  refine g_const hX dL_refuses_539 ?_
  refine g_const hX dL_refuses_540 ?_
  refine g_const hX dL_refuses_541 ?_
  refine l_act hX hst dL_refuses_542 hH hV (ya_in rfl) (ya_in rfl) (ya_in rfl) (ya_in rfl) (ya_in rfl) (ra14a (by decide +kernel)) (show cs + 10 + 10 + 10 + 10 + 10 + 10 ≤ 2700 by omega) (show ss + 250 + 250 + 250 + 250 + 250 + 250 ≤ 67500 by omega) (by first | exact Nat.le_of_ble_eq_true rfl | simp [cat_rf, Value.category]) (fun A ow τ M sz hH hV => ?_)
  refine g_const hX dL_refuses_545 ?_
  refine yf_icmp_ne hX dL_refuses_547 (ya_in rfl) (ya_in rfl) (by decide) ?_
  refine g_aload hX dL_refuses_550 rfl rfl ?_
  refine g_const hX dL_refuses_551 ?_
  refine g_const hX dL_refuses_553 ?_
  refine g_const hX dL_refuses_554 ?_
  refine g_iload hX dL_refuses_555 rfl ?_
  refine g_const hX dL_refuses_557 ?_
  refine l_act hX hst dL_refuses_558 hH hV (ya_in rfl) (ya_in rfl) (ya_in rfl) (ya_in rfl) (ya_in rfl) (ra14a (by decide +kernel)) (show cs + 10 + 10 + 10 + 10 + 10 + 10 + 10 ≤ 2700 by omega) (show ss + 250 + 250 + 250 + 250 + 250 + 250 + 250 ≤ 67500 by omega) (by first | exact Nat.le_of_ble_eq_true rfl | simp [cat_rf, Value.category]) (fun A ow τ M sz hH hV => ?_)
  refine g_const hX dL_refuses_561 ?_
  refine yf_icmp_ne hX dL_refuses_563 (ya_in rfl) (ya_in rfl) (by decide) ?_
  refine g_aload hX dL_refuses_566 rfl rfl ?_
  refine g_const hX dL_refuses_567 ?_
  refine g_const hX dL_refuses_569 ?_
  refine g_const hX dL_refuses_570 ?_
  refine g_const hX dL_refuses_571 ?_
  refine g_iload hX dL_refuses_572 rfl ?_
  refine l_act hX hst dL_refuses_574 hH hV (ya_in rfl) (ya_in rfl) (ya_in rfl) (ya_in rfl) (ya_in rfl) (ra14a (by decide +kernel)) (show cs + 10 + 10 + 10 + 10 + 10 + 10 + 10 + 10 ≤ 2700 by omega) (show ss + 250 + 250 + 250 + 250 + 250 + 250 + 250 + 250 ≤ 67500 by omega) (by first | exact Nat.le_of_ble_eq_true rfl | simp [cat_rf, Value.category]) (fun A ow τ M sz hH hV => ?_)
  refine g_const hX dL_refuses_577 ?_
  refine yf_icmp_ne hX dL_refuses_579 (ya_in rfl) (ya_in rfl) (by decide) ?_
  refine g_aload hX dL_refuses_582 rfl rfl ?_
  refine g_const hX dL_refuses_583 ?_
  refine g_iload hX dL_refuses_585 rfl ?_
  refine g_const hX dL_refuses_587 ?_
  refine g_const hX dL_refuses_588 ?_
  exact rf_g36 hX hst hR hmt rm9 rn0 rn1 rn2 rn3 hK hH hV (by omega) (by omega)

set_option maxRecDepth 20000 in
theorem rf_g34 {X : hX} (hX : Cok X mL_refuses) (hst : X.1.2.1.stackTraces = false) {M0 : hM} {sz0 : Nat} {K : hK} (hR : Ret X mL_refuses M0 sz0 K) {h : Nat} {σ : SG} {mt : Int} (hmt : metK σ (σ 1 0 0).toNat = mt) (rm9 : inR mt) (rn0 : inR (σ 0 0 0)) (rn1 : inR (σ 1 0 0)) (rn2 : inR (σ 2 0 0)) (rn3 : inR (σ 3 0 0)) (hK : ∀ (A' : Nat → Nat → Nat) (ow' : Nat → Nat × Nat) (τ' : Nat → Nat → Int) (M' : hM) (s9 : Nat), HX X.2.2.2.2.2.2.2.2.2 h A' ow' σ τ' M' → SV σ → K (.inl (some (.int (iZ 1)))) M' s9) {A : Nat → Nat → Nat} {ow : Nat → Nat × Nat} {τ : Nat → Nat → Int} {M : hM} {sz cs ss : Nat} (hH : HX X.2.2.2.2.2.2.2.2.2 h A ow σ τ M) (hV : SV σ) (hc : cs + 1240 ≤ 2700) (hs : ss + 31000 ≤ 67500) : G X 341 [.ref h, .int (iZ (σ 0 0 0)), .int (iZ (σ 1 0 0)), .int (iZ (σ 2 0 0)), .int (iZ (σ 3 0 0)), .int (iZ 2147483647), .int (iZ mt), .int (iZ 2), .int (iZ 2147483647), .int (iZ 2147483647), .int (iZ 2147483647), .int (iZ 2147483647), .int (iZ 2147483647), .int (iZ 2147483647), .int (iZ 2147483647), .int (iZ 2147483647), .int (iZ 2147483647), .int (iZ 2147483647), .int (iZ 1), .int (iZ 24)] [.int (iZ (-7000002))] M sz cs ss := by
  have hn := hV.n
  unfold SVn at hn
  refine g_const hX dL_refuses_341 ?_
  refine yf_icmp_ne hX dL_refuses_343 (ya_in rfl) (ya_in rfl) (by decide) ?_
  refine g_aload hX dL_refuses_346 rfl rfl ?_
  refine g_const hX dL_refuses_347 ?_
  refine g_iload hX dL_refuses_348 rfl ?_
  refine g_const hX dL_refuses_350 ?_
  refine g_const hX dL_refuses_351 ?_
  refine g_const hX dL_refuses_352 ?_
  refine l_act hX hst dL_refuses_353 hH hV (ya_in rfl) (ya_in rfl) (ya_in rfl) (ya_in rfl) (ya_in rfl) (ra3a (fun q => by have q1 := q.1; have q2 := q.2; omega)) (show cs + 10 ≤ 2700 by omega) (show ss + 250 ≤ 67500 by omega) (by first | exact Nat.le_of_ble_eq_true rfl | simp [cat_rf, Value.category]) (fun A ow τ M sz hH hV => ?_)
  refine g_const hX dL_refuses_356 ?_
  refine yf_icmp_ne hX dL_refuses_358 (ya_in rfl) (ya_in rfl) (by decide) ?_
  refine g_aload hX dL_refuses_361 rfl rfl ?_
  refine g_const hX dL_refuses_362 ?_
  refine g_iload hX dL_refuses_363 rfl ?_
  refine g_const hX dL_refuses_365 ?_
  refine g_const hX dL_refuses_366 ?_
  refine g_const hX dL_refuses_367 ?_
  refine l_act hX hst dL_refuses_368 hH hV (ya_in rfl) (ya_in rfl) (ya_in rfl) (ya_in rfl) (ya_in rfl) (ra4a (fun q => by have q1 := q.1.1; have q2 := q.1.2; omega)) (show cs + 10 + 10 ≤ 2700 by omega) (show ss + 250 + 250 ≤ 67500 by omega) (by first | exact Nat.le_of_ble_eq_true rfl | simp [cat_rf, Value.category]) (fun A ow τ M sz hH hV => ?_)
  refine g_const hX dL_refuses_371 ?_
  refine yf_icmp_ne hX dL_refuses_373 (ya_in rfl) (ya_in rfl) (by decide) ?_
  refine g_aload hX dL_refuses_376 rfl rfl ?_
  refine g_const hX dL_refuses_377 ?_
  refine g_const hX dL_refuses_378 ?_
  refine g_iload hX dL_refuses_379 rfl ?_
  refine g_const hX dL_refuses_381 ?_
  refine g_const hX dL_refuses_382 ?_
  refine l_act hX hst dL_refuses_383 hH hV (ya_in rfl) (ya_in rfl) (ya_in rfl) (ya_in rfl) (ya_in rfl) (ra4a (fun q => by have q1 := q.2.1; have q2 := q.2.2; omega)) (show cs + 10 + 10 + 10 ≤ 2700 by omega) (show ss + 250 + 250 + 250 ≤ 67500 by omega) (by first | exact Nat.le_of_ble_eq_true rfl | simp [cat_rf, Value.category]) (fun A ow τ M sz hH hV => ?_)
  refine g_const hX dL_refuses_386 ?_
  refine yf_icmp_ne hX dL_refuses_388 (ya_in rfl) (ya_in rfl) (by decide) ?_
  refine g_aload hX dL_refuses_391 rfl rfl ?_
  refine g_const hX dL_refuses_392 ?_
  refine g_iload hX dL_refuses_393 rfl ?_
  refine g_const hX dL_refuses_395 ?_
  refine g_const hX dL_refuses_396 ?_
  refine g_const hX dL_refuses_397 ?_
  refine l_act hX hst dL_refuses_398 hH hV (ya_in rfl) (ya_in rfl) (ya_in rfl) (ya_in rfl) (ya_in rfl) (ra5a (fun q => by have q1 := q.1.1; have q2 := q.1.2; omega)) (show cs + 10 + 10 + 10 + 10 ≤ 2700 by omega) (show ss + 250 + 250 + 250 + 250 ≤ 67500 by omega) (by first | exact Nat.le_of_ble_eq_true rfl | simp [cat_rf, Value.category]) (fun A ow τ M sz hH hV => ?_)
  refine g_const hX dL_refuses_401 ?_
  refine yf_icmp_ne hX dL_refuses_403 (ya_in rfl) (ya_in rfl) (by decide) ?_
  refine g_aload hX dL_refuses_406 rfl rfl ?_
  refine g_const hX dL_refuses_407 ?_
  refine g_const hX dL_refuses_408 ?_
  refine g_iload hX dL_refuses_409 rfl ?_
  refine g_const hX dL_refuses_411 ?_
  refine g_const hX dL_refuses_412 ?_
  refine l_act hX hst dL_refuses_413 hH hV (ya_in rfl) (ya_in rfl) (ya_in rfl) (ya_in rfl) (ya_in rfl) (ra5a (fun q => by have q1 := q.2.1; have q2 := q.2.2; omega)) (show cs + 10 + 10 + 10 + 10 + 10 ≤ 2700 by omega) (show ss + 250 + 250 + 250 + 250 + 250 ≤ 67500 by omega) (by first | exact Nat.le_of_ble_eq_true rfl | simp [cat_rf, Value.category]) (fun A ow τ M sz hH hV => ?_)
  refine g_const hX dL_refuses_416 ?_
  refine yf_icmp_ne hX dL_refuses_418 (ya_in rfl) (ya_in rfl) (by decide) ?_
  refine g_aload hX dL_refuses_421 rfl rfl ?_
  refine g_const hX dL_refuses_422 ?_
  refine g_iload hX dL_refuses_424 rfl ?_
  refine g_const hX dL_refuses_426 ?_
  refine g_const hX dL_refuses_427 ?_
  refine g_const hX dL_refuses_428 ?_
  refine l_act hX hst dL_refuses_429 hH hV (ya_in rfl) (ya_in rfl) (ya_in rfl) (ya_in rfl) (ya_in rfl) (ra6a (fun q => by have q1 := q.1; have q2 := q.2; omega)) (show cs + 10 + 10 + 10 + 10 + 10 + 10 ≤ 2700 by omega) (show ss + 250 + 250 + 250 + 250 + 250 + 250 ≤ 67500 by omega) (by first | exact Nat.le_of_ble_eq_true rfl | simp [cat_rf, Value.category]) (fun A ow τ M sz hH hV => ?_)
  refine g_const hX dL_refuses_432 ?_
  refine yf_icmp_ne hX dL_refuses_434 (ya_in rfl) (ya_in rfl) (by decide) ?_
  refine g_aload hX dL_refuses_437 rfl rfl ?_
  refine g_const hX dL_refuses_438 ?_
  refine g_iload hX dL_refuses_440 rfl ?_
  refine g_const hX dL_refuses_442 ?_
  refine g_const hX dL_refuses_443 ?_
  refine g_const hX dL_refuses_444 ?_
  refine l_act hX hst dL_refuses_445 hH hV (ya_in rfl) (ya_in rfl) (ya_in rfl) (ya_in rfl) (ya_in rfl) (ra7a (fun q => by have q1 := q.1; have q2 := q.2; omega)) (show cs + 10 + 10 + 10 + 10 + 10 + 10 + 10 ≤ 2700 by omega) (show ss + 250 + 250 + 250 + 250 + 250 + 250 + 250 ≤ 67500 by omega) (by first | exact Nat.le_of_ble_eq_true rfl | simp [cat_rf, Value.category]) (fun A ow τ M sz hH hV => ?_)
  refine g_const hX dL_refuses_448 ?_
  refine yf_icmp_ne hX dL_refuses_450 (ya_in rfl) (ya_in rfl) (by decide) ?_
  refine g_aload hX dL_refuses_453 rfl rfl ?_
  refine g_const hX dL_refuses_454 ?_
  refine g_iload hX dL_refuses_456 rfl ?_
  refine g_const hX dL_refuses_458 ?_
  refine g_const hX dL_refuses_459 ?_
  refine g_const hX dL_refuses_460 ?_
  exact rf_g35 hX hst hR hmt rm9 rn0 rn1 rn2 rn3 hK hH hV (by omega) (by omega)

set_option maxRecDepth 20000 in
theorem rf_g33 {X : hX} (hX : Cok X mL_refuses) (hst : X.1.2.1.stackTraces = false) {M0 : hM} {sz0 : Nat} {K : hK} (hR : Ret X mL_refuses M0 sz0 K) {h : Nat} {σ : SG} {mt : Int} (hmt : metK σ (σ 1 0 0).toNat = mt) (rm9 : inR mt) (rn0 : inR (σ 0 0 0)) (rn1 : inR (σ 1 0 0)) (rn2 : inR (σ 2 0 0)) (rn3 : inR (σ 3 0 0)) (hK : ∀ (A' : Nat → Nat → Nat) (ow' : Nat → Nat × Nat) (τ' : Nat → Nat → Int) (M' : hM) (s9 : Nat), HX X.2.2.2.2.2.2.2.2.2 h A' ow' σ τ' M' → SV σ → K (.inl (some (.int (iZ 1)))) M' s9) {A : Nat → Nat → Nat} {ow : Nat → Nat × Nat} {τ : Nat → Nat → Int} {M : hM} {sz cs ss : Nat} (hH : HX X.2.2.2.2.2.2.2.2.2 h A ow σ τ M) (hV : SV σ) (hc : cs + 1300 ≤ 2700) (hs : ss + 32500 ≤ 67500) : G X 190 [.ref h, .int (iZ (σ 0 0 0)), .int (iZ (σ 1 0 0)), .int (iZ (σ 2 0 0)), .int (iZ (σ 3 0 0)), .int (iZ 2147483647), .int (iZ mt), .int (iZ 2), .int (iZ 2147483647), .int (iZ 2147483647), .int (iZ 2147483647), .int (iZ 2147483647), .int (iZ 2147483647), .int (iZ 2147483647), .int (iZ 2147483647), .int (iZ 2147483647), .int (iZ 32), .int (iZ 13), .int (iZ 1), .int (iZ 24)] [] M sz cs ss := by
  have hn := hV.n
  unfold SVn at hn
  refine g_iload hX dL_refuses_190 rfl ?_
  refine g_const hX dL_refuses_192 ?_
  refine yt_icmp_ne hX dL_refuses_193 (ya_in rfl) (ya_in rfl) (by decide) ?_
  refine g_iload hX dL_refuses_201 rfl ?_
  refine g_istore hX dL_refuses_203 ?_
  dsimp only [List.set]
  refine g_iload hX dL_refuses_205 rfl ?_
  refine yt_if_ne hX dL_refuses_207 (ya_in rfl) (by decide) ?_
  refine g_iload hX dL_refuses_214 rfl ?_
  refine g_const hX dL_refuses_216 ?_
  refine yt_icmp_ne hX dL_refuses_217 (ya_in rfl) (ya_in rfl) (by decide) ?_
  refine g_iload hX dL_refuses_225 rfl ?_
  refine g_istore hX dL_refuses_227 ?_
  dsimp only [List.set]
  refine g_aload hX dL_refuses_229 rfl rfl ?_
  refine g_const hX dL_refuses_230 ?_
  refine g_iload hX dL_refuses_231 rfl ?_
  refine g_const hX dL_refuses_233 ?_
  refine g_const hX dL_refuses_234 ?_
  refine g_const hX dL_refuses_235 ?_
  refine l_act hX hst dL_refuses_236 hH hV (ya_in rfl) (ya_in rfl) (ya_in rfl) (ya_in rfl) (ya_in rfl) (ra0a (by decide +kernel)) (show cs + 10 ≤ 2700 by omega) (show ss + 250 ≤ 67500 by omega) (by first | exact Nat.le_of_ble_eq_true rfl | simp [cat_rf, Value.category]) (fun A ow τ M sz hH hV => ?_)
  refine g_const hX dL_refuses_239 ?_
  refine yf_icmp_ne hX dL_refuses_241 (ya_in rfl) (ya_in rfl) (by decide) ?_
  refine g_aload hX dL_refuses_244 rfl rfl ?_
  refine g_const hX dL_refuses_245 ?_
  refine g_const hX dL_refuses_246 ?_
  refine g_iload hX dL_refuses_249 rfl ?_
  refine g_const hX dL_refuses_251 ?_
  refine yt_icmp_ne hX dL_refuses_252 (ya_in rfl) (ya_in rfl) (by decide) ?_
  refine g_iload hX dL_refuses_260 rfl ?_
  refine g_const hX dL_refuses_262 ?_
  refine g_const hX dL_refuses_263 ?_
  refine l_act hX hst dL_refuses_264 hH hV (ya_in rfl) (ya_in rfl) (ya_in rfl) (ya_in rfl) (ya_in rfl) (ra0a (by decide +kernel)) (show cs + 10 + 10 ≤ 2700 by omega) (show ss + 250 + 250 ≤ 67500 by omega) (by first | exact Nat.le_of_ble_eq_true rfl | simp [cat_rf, Value.category]) (fun A ow τ M sz hH hV => ?_)
  refine g_const hX dL_refuses_267 ?_
  refine yf_icmp_ne hX dL_refuses_269 (ya_in rfl) (ya_in rfl) (by decide) ?_
  refine g_aload hX dL_refuses_272 rfl rfl ?_
  refine g_const hX dL_refuses_273 ?_
  refine g_iload hX dL_refuses_274 rfl ?_
  refine g_const hX dL_refuses_276 ?_
  refine g_const hX dL_refuses_277 ?_
  refine g_const hX dL_refuses_278 ?_
  refine l_act hX hst dL_refuses_279 hH hV (ya_in rfl) (ya_in rfl) (ya_in rfl) (ya_in rfl) (ya_in rfl) (ra1a (fun q => by have q1 := q.1; have q2 := q.2; omega)) (show cs + 10 + 10 + 10 ≤ 2700 by omega) (show ss + 250 + 250 + 250 ≤ 67500 by omega) (by first | exact Nat.le_of_ble_eq_true rfl | simp [cat_rf, Value.category]) (fun A ow τ M sz hH hV => ?_)
  refine g_const hX dL_refuses_282 ?_
  refine yf_icmp_ne hX dL_refuses_284 (ya_in rfl) (ya_in rfl) (by decide) ?_
  refine g_aload hX dL_refuses_287 rfl rfl ?_
  refine g_const hX dL_refuses_288 ?_
  refine g_iload hX dL_refuses_289 rfl ?_
  refine g_const hX dL_refuses_291 ?_
  refine g_const hX dL_refuses_292 ?_
  refine g_const hX dL_refuses_293 ?_
  refine l_act hX hst dL_refuses_294 hH hV (ya_in rfl) (ya_in rfl) (ya_in rfl) (ya_in rfl) (ya_in rfl) (ra2a (by decide +kernel)) (show cs + 10 + 10 + 10 + 10 ≤ 2700 by omega) (show ss + 250 + 250 + 250 + 250 ≤ 67500 by omega) (by first | exact Nat.le_of_ble_eq_true rfl | simp [cat_rf, Value.category]) (fun A ow τ M sz hH hV => ?_)
  refine g_const hX dL_refuses_297 ?_
  refine yf_icmp_ne hX dL_refuses_299 (ya_in rfl) (ya_in rfl) (by decide) ?_
  refine g_aload hX dL_refuses_302 rfl rfl ?_
  refine g_const hX dL_refuses_303 ?_
  refine g_const hX dL_refuses_304 ?_
  refine g_iload hX dL_refuses_307 rfl ?_
  refine g_const hX dL_refuses_309 ?_
  refine g_const hX dL_refuses_311 ?_
  refine l_act hX hst dL_refuses_312 hH hV (ya_in rfl) (ya_in rfl) (ya_in rfl) (ya_in rfl) (ya_in rfl) (ra2a (by decide +kernel)) (show cs + 10 + 10 + 10 + 10 + 10 ≤ 2700 by omega) (show ss + 250 + 250 + 250 + 250 + 250 ≤ 67500 by omega) (by first | exact Nat.le_of_ble_eq_true rfl | simp [cat_rf, Value.category]) (fun A ow τ M sz hH hV => ?_)
  refine g_const hX dL_refuses_315 ?_
  refine yf_icmp_ne hX dL_refuses_317 (ya_in rfl) (ya_in rfl) (by decide) ?_
  refine g_aload hX dL_refuses_320 rfl rfl ?_
  refine g_const hX dL_refuses_321 ?_
  refine g_const hX dL_refuses_322 ?_
  refine g_const hX dL_refuses_325 ?_
  refine g_iload hX dL_refuses_326 rfl ?_
  refine yt_if_ne hX dL_refuses_328 (ya_in rfl) (by decide) ?_
  refine g_iload hX dL_refuses_335 rfl ?_
  refine g_const hX dL_refuses_337 ?_
  refine l_act hX hst dL_refuses_338 hH hV (ya_in rfl) (ya_in rfl) (ya_in rfl) (ya_in rfl) (ya_in rfl) (ra2a (by decide +kernel)) (show cs + 10 + 10 + 10 + 10 + 10 + 10 ≤ 2700 by omega) (show ss + 250 + 250 + 250 + 250 + 250 + 250 ≤ 67500 by omega) (by first | exact Nat.le_of_ble_eq_true rfl | simp [cat_rf, Value.category]) (fun A ow τ M sz hH hV => ?_)
  exact rf_g34 hX hst hR hmt rm9 rn0 rn1 rn2 rn3 hK hH hV (by omega) (by omega)

set_option maxRecDepth 20000 in
theorem rf_g32 {X : hX} (hX : Cok X mL_refuses) (hst : X.1.2.1.stackTraces = false) {M0 : hM} {sz0 : Nat} {K : hK} (hR : Ret X mL_refuses M0 sz0 K) {h : Nat} {σ : SG} {mt : Int} (hmt : metK σ (σ 1 0 0).toNat = mt) (rm9 : inR mt) (rn0 : inR (σ 0 0 0)) (rn1 : inR (σ 1 0 0)) (rn2 : inR (σ 2 0 0)) (rn3 : inR (σ 3 0 0)) (hK : ∀ (A' : Nat → Nat → Nat) (ow' : Nat → Nat × Nat) (τ' : Nat → Nat → Int) (M' : hM) (s9 : Nat), HX X.2.2.2.2.2.2.2.2.2 h A' ow' σ τ' M' → SV σ → K (.inl (some (.int (iZ 1)))) M' s9) {A : Nat → Nat → Nat} {ow : Nat → Nat × Nat} {τ : Nat → Nat → Int} {M : hM} {sz cs ss : Nat} (hH : HX X.2.2.2.2.2.2.2.2.2 h A ow σ τ M) (hV : SV σ) (hc : cs + 1300 ≤ 2700) (hs : ss + 32500 ≤ 67500) : G X 1307 [.ref h, .int (iZ (σ 0 0 0)), .int (iZ (σ 1 0 0)), .int (iZ (σ 2 0 0)), .int (iZ (σ 3 0 0)), .int (iZ 2147483647), .int (iZ mt), .int (iZ 1), .int (iZ (-2147483648)), .int (iZ (σ 0 0 0)), .int (iZ (σ 1 0 0)), .int (iZ (σ 2 0 0)), .int (iZ 2400), .int (iZ 2400), .int (iZ 10), .int (iZ 41), .int (iZ 32), .int (iZ 13), .int (iZ 1), .int (iZ 24)] [] M sz cs ss := by
  have hn := hV.n
  unfold SVn at hn
  refine g_const hX dL_refuses_1307 ?_
  refine g_goto hX dL_refuses_1308 ?_
  refine g_istore hX dL_refuses_1312 ?_
  dsimp only [List.set]
  refine g_iload hX dL_refuses_1314 rfl ?_
  refine yt_if_ne hX dL_refuses_1316 (ya_in rfl) (by decide) ?_
  refine y_iinc (c := 2) hX dL_refuses_1321 rfl (by decide) ?_
  dsimp only [List.set]
  refine g_goto hX dL_refuses_1324 ?_
  refine g_iload hX dL_refuses_13 rfl ?_
  refine g_const hX dL_refuses_15 ?_
  refine yf_icmp_ge hX dL_refuses_16 (ya_in rfl) (ya_in rfl) (by decide) ?_
  refine g_iload hX dL_refuses_19 rfl ?_
  refine yt_if_ne hX dL_refuses_21 (ya_in rfl) (by decide) ?_
  refine g_iload hX dL_refuses_28 rfl ?_
  refine g_const hX dL_refuses_30 ?_
  refine yf_icmp_ne hX dL_refuses_31 (ya_in rfl) (ya_in rfl) (by decide) ?_
  refine g_iload hX dL_refuses_34 rfl ?_
  refine g_goto hX dL_refuses_36 ?_
  refine g_istore hX dL_refuses_44 ?_
  dsimp only [List.set]
  refine g_iload hX dL_refuses_46 rfl ?_
  refine g_const hX dL_refuses_48 ?_
  refine yt_icmp_ne hX dL_refuses_49 (ya_in rfl) (ya_in rfl) (by decide) ?_
  refine g_iload hX dL_refuses_56 rfl ?_
  refine g_istore hX dL_refuses_58 ?_
  dsimp only [List.set]
  refine g_iload hX dL_refuses_60 rfl ?_
  refine g_const hX dL_refuses_62 ?_
  refine yt_icmp_ne hX dL_refuses_63 (ya_in rfl) (ya_in rfl) (by decide) ?_
  refine g_iload hX dL_refuses_70 rfl ?_
  refine g_istore hX dL_refuses_72 ?_
  dsimp only [List.set]
  refine g_iload hX dL_refuses_74 rfl ?_
  refine g_const hX dL_refuses_76 ?_
  refine yt_icmp_ne hX dL_refuses_77 (ya_in rfl) (ya_in rfl) (by decide) ?_
  refine g_iload hX dL_refuses_84 rfl ?_
  refine g_istore hX dL_refuses_86 ?_
  dsimp only [List.set]
  refine g_iload hX dL_refuses_88 rfl ?_
  refine yt_if_ne hX dL_refuses_90 (ya_in rfl) (by decide) ?_
  refine g_iload hX dL_refuses_99 rfl ?_
  refine g_const hX dL_refuses_101 ?_
  refine yt_icmp_ne hX dL_refuses_102 (ya_in rfl) (ya_in rfl) (by decide) ?_
  refine g_iload hX dL_refuses_111 rfl ?_
  refine g_istore hX dL_refuses_113 ?_
  dsimp only [List.set]
  refine g_iload hX dL_refuses_115 rfl ?_
  refine yt_if_ne hX dL_refuses_117 (ya_in rfl) (by decide) ?_
  refine g_iload hX dL_refuses_126 rfl ?_
  refine g_const hX dL_refuses_128 ?_
  refine yt_icmp_ne hX dL_refuses_129 (ya_in rfl) (ya_in rfl) (by decide) ?_
  refine g_iload hX dL_refuses_138 rfl ?_
  refine g_istore hX dL_refuses_140 ?_
  dsimp only [List.set]
  refine g_iload hX dL_refuses_142 rfl ?_
  refine yt_if_ne hX dL_refuses_144 (ya_in rfl) (by decide) ?_
  refine g_iload hX dL_refuses_151 rfl ?_
  refine g_const hX dL_refuses_153 ?_
  refine yt_icmp_ne hX dL_refuses_154 (ya_in rfl) (ya_in rfl) (by decide) ?_
  refine g_iload hX dL_refuses_162 rfl ?_
  refine g_istore hX dL_refuses_164 ?_
  dsimp only [List.set]
  refine g_iload hX dL_refuses_166 rfl ?_
  refine g_const hX dL_refuses_168 ?_
  refine yt_icmp_ne hX dL_refuses_169 (ya_in rfl) (ya_in rfl) (by decide) ?_
  refine g_iload hX dL_refuses_177 rfl ?_
  refine g_istore hX dL_refuses_179 ?_
  dsimp only [List.set]
  refine g_iload hX dL_refuses_181 rfl ?_
  refine yt_if_ne hX dL_refuses_183 (ya_in rfl) (by decide) ?_
  exact rf_g33 hX hst hR hmt rm9 rn0 rn1 rn2 rn3 hK hH hV (by omega) (by omega)

set_option maxRecDepth 20000 in
theorem rf_g31 {X : hX} (hX : Cok X mL_refuses) (hst : X.1.2.1.stackTraces = false) {M0 : hM} {sz0 : Nat} {K : hK} (hR : Ret X mL_refuses M0 sz0 K) {h : Nat} {σ : SG} {mt : Int} (hmt : metK σ (σ 1 0 0).toNat = mt) (rm9 : inR mt) (rn0 : inR (σ 0 0 0)) (rn1 : inR (σ 1 0 0)) (rn2 : inR (σ 2 0 0)) (rn3 : inR (σ 3 0 0)) (hK : ∀ (A' : Nat → Nat → Nat) (ow' : Nat → Nat × Nat) (τ' : Nat → Nat → Int) (M' : hM) (s9 : Nat), HX X.2.2.2.2.2.2.2.2.2 h A' ow' σ τ' M' → SV σ → K (.inl (some (.int (iZ 1)))) M' s9) {A : Nat → Nat → Nat} {ow : Nat → Nat × Nat} {τ : Nat → Nat → Int} {M : hM} {sz cs ss : Nat} (hH : HX X.2.2.2.2.2.2.2.2.2 h A ow σ τ M) (hV : SV σ) (hc : cs + 1340 ≤ 2700) (hs : ss + 33500 ≤ 67500) : G X 1184 [.ref h, .int (iZ (σ 0 0 0)), .int (iZ (σ 1 0 0)), .int (iZ (σ 2 0 0)), .int (iZ (σ 3 0 0)), .int (iZ 2147483647), .int (iZ mt), .int (iZ 1), .int (iZ (-2147483648)), .int (iZ (σ 0 0 0)), .int (iZ (σ 1 0 0)), .int (iZ (σ 2 0 0)), .int (iZ 2400), .int (iZ 2400), .int (iZ 10), .int (iZ 41), .int (iZ 32), .int (iZ 13), .int (iZ 1), .int (iZ 24)] [] M sz cs ss := by
  have hn := hV.n
  unfold SVn at hn
  refine g_const hX dL_refuses_1184 ?_
  refine g_goto hX dL_refuses_1185 ?_
  refine g_istore hX dL_refuses_1189 ?_
  dsimp only [List.set]
  refine g_iload hX dL_refuses_1191 rfl ?_
  refine yf_if_eq hX dL_refuses_1193 (ya_in rfl) (by decide) ?_
  refine g_iload hX dL_refuses_1196 rfl ?_
  refine z_if_eq hX dL_refuses_1197 rn1 (fun c9 => ?_) (fun c9 => ?_)
  · exact rf_g32 hX hst hR hmt rm9 rn0 rn1 rn2 rn3 hK hH hV (by omega) (by omega)
  refine g_aload hX dL_refuses_1200 rfl rfl ?_
  refine g_const hX dL_refuses_1201 ?_
  refine g_const hX dL_refuses_1202 ?_
  refine g_iload hX dL_refuses_1203 rfl ?_
  refine yt_if_ne hX dL_refuses_1205 (ya_in rfl) (by decide) ?_
  refine g_iload hX dL_refuses_1212 rfl ?_
  refine g_const hX dL_refuses_1214 ?_
  refine yf_icmp_ne hX dL_refuses_1215 (ya_in rfl) (ya_in rfl) (by decide) ?_
  refine g_const hX dL_refuses_1218 ?_
  refine g_goto hX dL_refuses_1220 ?_
  refine g_const hX dL_refuses_1225 ?_
  refine g_const hX dL_refuses_1226 ?_
  refine l_act hX hst dL_refuses_1227 hH hV (ya_in rfl) (ya_in rfl) (ya_in rfl) (ya_in rfl) (ya_in rfl) (ra3b ⟨by omega, by omega⟩ (by decide +kernel)) (show cs + 10 ≤ 2700 by omega) (show ss + 250 ≤ 67500 by omega) (by first | exact Nat.le_of_ble_eq_true rfl | simp [cat_rf, Value.category]) (fun A ow τ M sz hH hV => ?_)
  refine g_const hX dL_refuses_1230 ?_
  refine yf_icmp_ne hX dL_refuses_1232 (ya_in rfl) (ya_in rfl) (by decide) ?_
  refine g_aload hX dL_refuses_1235 rfl rfl ?_
  refine g_const hX dL_refuses_1236 ?_
  refine g_const hX dL_refuses_1237 ?_
  refine g_const hX dL_refuses_1238 ?_
  refine g_iload hX dL_refuses_1240 rfl ?_
  refine g_const hX dL_refuses_1242 ?_
  refine yf_icmp_ne hX dL_refuses_1243 (ya_in rfl) (ya_in rfl) (by decide) ?_
  refine g_const hX dL_refuses_1246 ?_
  refine g_goto hX dL_refuses_1249 ?_
  refine g_const hX dL_refuses_1254 ?_
  refine l_act hX hst dL_refuses_1255 hH hV (ya_in rfl) (ya_in rfl) (ya_in rfl) (ya_in rfl) (ya_in rfl) (ra3b ⟨by omega, by omega⟩ (by decide +kernel)) (show cs + 10 + 10 ≤ 2700 by omega) (show ss + 250 + 250 ≤ 67500 by omega) (by first | exact Nat.le_of_ble_eq_true rfl | simp [cat_rf, Value.category]) (fun A ow τ M sz hH hV => ?_)
  refine g_const hX dL_refuses_1258 ?_
  refine yf_icmp_ne hX dL_refuses_1260 (ya_in rfl) (ya_in rfl) (by decide) ?_
  refine g_aload hX dL_refuses_1263 rfl rfl ?_
  refine g_const hX dL_refuses_1264 ?_
  refine g_const hX dL_refuses_1266 ?_
  refine g_iload hX dL_refuses_1267 rfl ?_
  refine g_const hX dL_refuses_1269 ?_
  refine g_const hX dL_refuses_1271 ?_
  refine l_act hX hst dL_refuses_1272 hH hV (ya_in rfl) (ya_in rfl) (ya_in rfl) (ya_in rfl) (ya_in rfl) (ra10b ⟨by omega, by omega⟩ (by decide +kernel)) (show cs + 10 + 10 + 10 ≤ 2700 by omega) (show ss + 250 + 250 + 250 ≤ 67500 by omega) (by first | exact Nat.le_of_ble_eq_true rfl | simp [cat_rf, Value.category]) (fun A ow τ M sz hH hV => ?_)
  refine g_const hX dL_refuses_1275 ?_
  refine yf_icmp_ne hX dL_refuses_1277 (ya_in rfl) (ya_in rfl) (by decide) ?_
  refine g_aload hX dL_refuses_1280 rfl rfl ?_
  refine g_const hX dL_refuses_1281 ?_
  refine g_const hX dL_refuses_1283 ?_
  refine g_const hX dL_refuses_1284 ?_
  refine g_iload hX dL_refuses_1286 rfl ?_
  refine yt_if_ne hX dL_refuses_1288 (ya_in rfl) (by decide) ?_
  refine g_iload hX dL_refuses_1296 rfl ?_
  refine g_const hX dL_refuses_1298 ?_
  refine l_act hX hst dL_refuses_1299 hH hV (ya_in rfl) (ya_in rfl) (ya_in rfl) (ya_in rfl) (ya_in rfl) (ra10b ⟨by omega, by omega⟩ (by decide +kernel)) (show cs + 10 + 10 + 10 + 10 ≤ 2700 by omega) (show ss + 250 + 250 + 250 + 250 ≤ 67500 by omega) (by first | exact Nat.le_of_ble_eq_true rfl | simp [cat_rf, Value.category]) (fun A ow τ M sz hH hV => ?_)
  refine g_const hX dL_refuses_1302 ?_
  refine yf_icmp_ne hX dL_refuses_1304 (ya_in rfl) (ya_in rfl) (by decide) ?_
  exact rf_g32 hX hst hR hmt rm9 rn0 rn1 rn2 rn3 hK hH hV (by omega) (by omega)

set_option maxRecDepth 20000 in
theorem rf_g30 {X : hX} (hX : Cok X mL_refuses) (hst : X.1.2.1.stackTraces = false) {M0 : hM} {sz0 : Nat} {K : hK} (hR : Ret X mL_refuses M0 sz0 K) {h : Nat} {σ : SG} {mt : Int} (hmt : metK σ (σ 1 0 0).toNat = mt) (rm9 : inR mt) (rn0 : inR (σ 0 0 0)) (rn1 : inR (σ 1 0 0)) (rn2 : inR (σ 2 0 0)) (rn3 : inR (σ 3 0 0)) (hK : ∀ (A' : Nat → Nat → Nat) (ow' : Nat → Nat × Nat) (τ' : Nat → Nat → Int) (M' : hM) (s9 : Nat), HX X.2.2.2.2.2.2.2.2.2 h A' ow' σ τ' M' → SV σ → K (.inl (some (.int (iZ 1)))) M' s9) {A : Nat → Nat → Nat} {ow : Nat → Nat × Nat} {τ : Nat → Nat → Int} {M : hM} {sz cs ss : Nat} (hH : HX X.2.2.2.2.2.2.2.2.2 h A ow σ τ M) (hV : SV σ) (hc : cs + 1380 ≤ 2700) (hs : ss + 34500 ≤ 67500) : G X 1073 [.ref h, .int (iZ (σ 0 0 0)), .int (iZ (σ 1 0 0)), .int (iZ (σ 2 0 0)), .int (iZ (σ 3 0 0)), .int (iZ 2147483647), .int (iZ mt), .int (iZ 1), .int (iZ (-2147483648)), .int (iZ (σ 0 0 0)), .int (iZ (σ 1 0 0)), .int (iZ (σ 2 0 0)), .int (iZ 2400), .int (iZ 2400), .int (iZ 10), .int (iZ 41), .int (iZ 32), .int (iZ 13), .int (iZ 1), .int (iZ 24)] [] M sz cs ss := by
  have hn := hV.n
  unfold SVn at hn
  refine g_const hX dL_refuses_1073 ?_
  refine g_goto hX dL_refuses_1074 ?_
  refine g_istore hX dL_refuses_1078 ?_
  dsimp only [List.set]
  refine g_iload hX dL_refuses_1080 rfl ?_
  refine yf_if_eq hX dL_refuses_1082 (ya_in rfl) (by decide) ?_
  refine g_iload hX dL_refuses_1085 rfl ?_
  refine z_if_eq hX dL_refuses_1086 rn0 (fun c9 => ?_) (fun c9 => ?_)
  · exact rf_g31 hX hst hR hmt rm9 rn0 rn1 rn2 rn3 hK hH hV (by omega) (by omega)
  refine g_aload hX dL_refuses_1089 rfl rfl ?_
  refine g_const hX dL_refuses_1090 ?_
  refine g_const hX dL_refuses_1091 ?_
  refine g_iload hX dL_refuses_1092 rfl ?_
  refine yt_if_ne hX dL_refuses_1094 (ya_in rfl) (by decide) ?_
  refine g_iload hX dL_refuses_1101 rfl ?_
  refine g_const hX dL_refuses_1103 ?_
  refine yf_icmp_ne hX dL_refuses_1104 (ya_in rfl) (ya_in rfl) (by decide) ?_
  refine g_const hX dL_refuses_1107 ?_
  refine g_goto hX dL_refuses_1109 ?_
  refine g_const hX dL_refuses_1114 ?_
  refine g_const hX dL_refuses_1115 ?_
  refine l_act hX hst dL_refuses_1116 hH hV (ya_in rfl) (ya_in rfl) (ya_in rfl) (ya_in rfl) (ya_in rfl) (ra1b ⟨by omega, by omega⟩ (by decide +kernel)) (show cs + 10 ≤ 2700 by omega) (show ss + 250 ≤ 67500 by omega) (by first | exact Nat.le_of_ble_eq_true rfl | simp [cat_rf, Value.category]) (fun A ow τ M sz hH hV => ?_)
  refine g_const hX dL_refuses_1119 ?_
  refine yf_icmp_ne hX dL_refuses_1121 (ya_in rfl) (ya_in rfl) (by decide) ?_
  refine g_aload hX dL_refuses_1124 rfl rfl ?_
  refine g_const hX dL_refuses_1125 ?_
  refine g_const hX dL_refuses_1126 ?_
  refine g_const hX dL_refuses_1127 ?_
  refine g_iload hX dL_refuses_1128 rfl ?_
  refine g_const hX dL_refuses_1130 ?_
  refine yf_icmp_ne hX dL_refuses_1131 (ya_in rfl) (ya_in rfl) (by decide) ?_
  refine g_const hX dL_refuses_1134 ?_
  refine g_goto hX dL_refuses_1136 ?_
  refine g_const hX dL_refuses_1141 ?_
  refine l_act hX hst dL_refuses_1142 hH hV (ya_in rfl) (ya_in rfl) (ya_in rfl) (ya_in rfl) (ya_in rfl) (ra1b ⟨by omega, by omega⟩ (by decide +kernel)) (show cs + 10 + 10 ≤ 2700 by omega) (show ss + 250 + 250 ≤ 67500 by omega) (by first | exact Nat.le_of_ble_eq_true rfl | simp [cat_rf, Value.category]) (fun A ow τ M sz hH hV => ?_)
  refine g_const hX dL_refuses_1145 ?_
  refine yf_icmp_ne hX dL_refuses_1147 (ya_in rfl) (ya_in rfl) (by decide) ?_
  refine g_aload hX dL_refuses_1150 rfl rfl ?_
  refine g_const hX dL_refuses_1151 ?_
  refine g_const hX dL_refuses_1153 ?_
  refine g_iload hX dL_refuses_1154 rfl ?_
  refine g_const hX dL_refuses_1156 ?_
  refine g_const hX dL_refuses_1157 ?_
  refine l_act hX hst dL_refuses_1158 hH hV (ya_in rfl) (ya_in rfl) (ya_in rfl) (ya_in rfl) (ya_in rfl) (ra22b ⟨by omega, by omega⟩ (by decide +kernel)) (show cs + 10 + 10 + 10 ≤ 2700 by omega) (show ss + 250 + 250 + 250 ≤ 67500 by omega) (by first | exact Nat.le_of_ble_eq_true rfl | simp [cat_rf, Value.category]) (fun A ow τ M sz hH hV => ?_)
  refine g_const hX dL_refuses_1161 ?_
  refine yf_icmp_ne hX dL_refuses_1163 (ya_in rfl) (ya_in rfl) (by decide) ?_
  refine g_aload hX dL_refuses_1166 rfl rfl ?_
  refine g_const hX dL_refuses_1167 ?_
  refine g_const hX dL_refuses_1169 ?_
  refine g_const hX dL_refuses_1170 ?_
  refine g_const hX dL_refuses_1173 ?_
  refine g_const hX dL_refuses_1174 ?_
  refine l_act hX hst dL_refuses_1176 hH hV (ya_in rfl) (ya_in rfl) (ya_in rfl) (ya_in rfl) (ya_in rfl) (ra22b ⟨by omega, by omega⟩ (by decide +kernel)) (show cs + 10 + 10 + 10 + 10 ≤ 2700 by omega) (show ss + 250 + 250 + 250 + 250 ≤ 67500 by omega) (by first | exact Nat.le_of_ble_eq_true rfl | simp [cat_rf, Value.category]) (fun A ow τ M sz hH hV => ?_)
  refine g_const hX dL_refuses_1179 ?_
  refine yf_icmp_ne hX dL_refuses_1181 (ya_in rfl) (ya_in rfl) (by decide) ?_
  exact rf_g31 hX hst hR hmt rm9 rn0 rn1 rn2 rn3 hK hH hV (by omega) (by omega)

set_option maxRecDepth 20000 in
theorem rf_g29 {X : hX} (hX : Cok X mL_refuses) (hst : X.1.2.1.stackTraces = false) {M0 : hM} {sz0 : Nat} {K : hK} (hR : Ret X mL_refuses M0 sz0 K) {h : Nat} {σ : SG} {mt : Int} (hmt : metK σ (σ 1 0 0).toNat = mt) (rm9 : inR mt) (rn0 : inR (σ 0 0 0)) (rn1 : inR (σ 1 0 0)) (rn2 : inR (σ 2 0 0)) (rn3 : inR (σ 3 0 0)) (hK : ∀ (A' : Nat → Nat → Nat) (ow' : Nat → Nat × Nat) (τ' : Nat → Nat → Int) (M' : hM) (s9 : Nat), HX X.2.2.2.2.2.2.2.2.2 h A' ow' σ τ' M' → SV σ → K (.inl (some (.int (iZ 1)))) M' s9) {A : Nat → Nat → Nat} {ow : Nat → Nat × Nat} {τ : Nat → Nat → Int} {M : hM} {sz cs ss : Nat} (hH : HX X.2.2.2.2.2.2.2.2.2 h A ow σ τ M) (hV : SV σ) (hc : cs + 1410 ≤ 2700) (hs : ss + 35250 ≤ 67500) : G X 999 [.ref h, .int (iZ (σ 0 0 0)), .int (iZ (σ 1 0 0)), .int (iZ (σ 2 0 0)), .int (iZ (σ 3 0 0)), .int (iZ 2147483647), .int (iZ mt), .int (iZ 1), .int (iZ (-2147483648)), .int (iZ (σ 0 0 0)), .int (iZ (σ 1 0 0)), .int (iZ (σ 2 0 0)), .int (iZ 2400), .int (iZ 2400), .int (iZ 10), .int (iZ 41), .int (iZ 32), .int (iZ 13), .int (iZ 1), .int (iZ 24)] [.ref h] M sz cs ss := by
  have hn := hV.n
  unfold SVn at hn
  refine g_const hX dL_refuses_999 ?_
  refine g_iload hX dL_refuses_1001 rfl ?_
  refine g_const hX dL_refuses_1003 ?_
  refine yf_icmp_ne hX dL_refuses_1004 (ya_in rfl) (ya_in rfl) (by decide) ?_
  refine g_iload hX dL_refuses_1007 rfl ?_
  refine g_goto hX dL_refuses_1009 ?_
  refine g_const hX dL_refuses_1014 ?_
  refine g_const hX dL_refuses_1016 ?_
  refine g_const hX dL_refuses_1017 ?_
  refine l_act hX hst dL_refuses_1018 hH hV (ya_in rfl) rn3 (ya_in rfl) (ya_in rfl) (ya_in rfl) (ra24a (fun q => by have q1 := q.1; have q2 := q.2; omega)) (show cs + 10 ≤ 2700 by omega) (show ss + 250 ≤ 67500 by omega) (by first | exact Nat.le_of_ble_eq_true rfl | simp [cat_rf, Value.category]) (fun A ow τ M sz hH hV => ?_)
  refine g_const hX dL_refuses_1021 ?_
  refine yf_icmp_ne hX dL_refuses_1023 (ya_in rfl) (ya_in rfl) (by decide) ?_
  refine g_aload hX dL_refuses_1026 rfl rfl ?_
  refine g_const hX dL_refuses_1027 ?_
  refine g_iload hX dL_refuses_1029 rfl ?_
  refine g_const hX dL_refuses_1031 ?_
  refine g_const hX dL_refuses_1032 ?_
  refine g_const hX dL_refuses_1033 ?_
  refine l_act hX hst dL_refuses_1034 hH hV (ya_in rfl) rn0 (ya_in rfl) (ya_in rfl) (ya_in rfl) (ra25a (fun q => by have q1 := q.1; have q2 := q.2; omega)) (show cs + 10 + 10 ≤ 2700 by omega) (show ss + 250 + 250 ≤ 67500 by omega) (by first | exact Nat.le_of_ble_eq_true rfl | simp [cat_rf, Value.category]) (fun A ow τ M sz hH hV => ?_)
  refine g_const hX dL_refuses_1037 ?_
  refine yf_icmp_ne hX dL_refuses_1039 (ya_in rfl) (ya_in rfl) (by decide) ?_
  refine g_iload hX dL_refuses_1042 rfl ?_
  refine z_if_eq hX dL_refuses_1044 rn3 (fun c9 => ?_) (fun c9 => ?_)
  · exact rf_g30 hX hst hR hmt rm9 rn0 rn1 rn2 rn3 hK hH hV (by omega) (by omega)
  refine g_aload hX dL_refuses_1047 rfl rfl ?_
  refine g_const hX dL_refuses_1048 ?_
  refine g_const hX dL_refuses_1050 ?_
  refine g_iload hX dL_refuses_1051 rfl ?_
  refine g_const hX dL_refuses_1053 ?_
  refine yf_icmp_ne hX dL_refuses_1054 (ya_in rfl) (ya_in rfl) (by decide) ?_
  refine g_const hX dL_refuses_1057 ?_
  refine g_goto hX dL_refuses_1058 ?_
  refine g_const hX dL_refuses_1063 ?_
  refine g_const hX dL_refuses_1064 ?_
  refine l_act hX hst dL_refuses_1065 hH hV (ya_in rfl) (ya_in rfl) (ya_in rfl) (ya_in rfl) (ya_in rfl) (ra24b ⟨by omega, by omega⟩ (by decide +kernel)) (show cs + 10 + 10 + 10 ≤ 2700 by omega) (show ss + 250 + 250 + 250 ≤ 67500 by omega) (by first | exact Nat.le_of_ble_eq_true rfl | simp [cat_rf, Value.category]) (fun A ow τ M sz hH hV => ?_)
  refine g_const hX dL_refuses_1068 ?_
  refine yf_icmp_ne hX dL_refuses_1070 (ya_in rfl) (ya_in rfl) (by decide) ?_
  exact rf_g30 hX hst hR hmt rm9 rn0 rn1 rn2 rn3 hK hH hV (by omega) (by omega)

set_option maxRecDepth 20000 in
theorem rf_g28 {X : hX} (hX : Cok X mL_refuses) (hst : X.1.2.1.stackTraces = false) {M0 : hM} {sz0 : Nat} {K : hK} (hR : Ret X mL_refuses M0 sz0 K) {h : Nat} {σ : SG} {mt : Int} (hmt : metK σ (σ 1 0 0).toNat = mt) (rm9 : inR mt) (rn0 : inR (σ 0 0 0)) (rn1 : inR (σ 1 0 0)) (rn2 : inR (σ 2 0 0)) (rn3 : inR (σ 3 0 0)) (hK : ∀ (A' : Nat → Nat → Nat) (ow' : Nat → Nat × Nat) (τ' : Nat → Nat → Int) (M' : hM) (s9 : Nat), HX X.2.2.2.2.2.2.2.2.2 h A' ow' σ τ' M' → SV σ → K (.inl (some (.int (iZ 1)))) M' s9) {A : Nat → Nat → Nat} {ow : Nat → Nat × Nat} {τ : Nat → Nat → Int} {M : hM} {sz cs ss : Nat} (hH : HX X.2.2.2.2.2.2.2.2.2 h A ow σ τ M) (hV : SV σ) (hc : cs + 1470 ≤ 2700) (hs : ss + 36750 ≤ 67500) : G X 823 [.ref h, .int (iZ (σ 0 0 0)), .int (iZ (σ 1 0 0)), .int (iZ (σ 2 0 0)), .int (iZ (σ 3 0 0)), .int (iZ 2147483647), .int (iZ mt), .int (iZ 1), .int (iZ (-2147483648)), .int (iZ (σ 0 0 0)), .int (iZ (σ 1 0 0)), .int (iZ (σ 2 0 0)), .int (iZ 2400), .int (iZ 2400), .int (iZ 10), .int (iZ 41), .int (iZ 32), .int (iZ 13), .int (iZ 1), .int (iZ 23)] [.int (iZ 23), .ref h] M sz cs ss := by
  have hn := hV.n
  unfold SVn at hn
  refine g_const hX dL_refuses_823 ?_
  refine g_const hX dL_refuses_826 ?_
  refine g_iload hX dL_refuses_827 rfl ?_
  refine g_const hX dL_refuses_829 ?_
  refine l_act hX hst dL_refuses_830 hH hV (ya_in rfl) (ya_in rfl) (ya_in rfl) (ya_in rfl) (ya_in rfl) (ra23a (by decide +kernel)) (show cs + 10 ≤ 2700 by omega) (show ss + 250 ≤ 67500 by omega) (by first | exact Nat.le_of_ble_eq_true rfl | simp [cat_rf, Value.category]) (fun A ow τ M sz hH hV => ?_)
  refine g_const hX dL_refuses_833 ?_
  refine yf_icmp_ne hX dL_refuses_835 (ya_in rfl) (ya_in rfl) (by decide) ?_
  refine g_aload hX dL_refuses_838 rfl rfl ?_
  refine g_iload hX dL_refuses_839 rfl ?_
  refine g_const hX dL_refuses_841 ?_
  refine g_const hX dL_refuses_844 ?_
  refine g_const hX dL_refuses_845 ?_
  refine g_const hX dL_refuses_847 ?_
  refine l_act hX hst dL_refuses_848 hH hV (ya_in rfl) (ya_in rfl) (ya_in rfl) (ya_in rfl) (ya_in rfl) (ra23a (by decide +kernel)) (show cs + 10 + 10 ≤ 2700 by omega) (show ss + 250 + 250 ≤ 67500 by omega) (by first | exact Nat.le_of_ble_eq_true rfl | simp [cat_rf, Value.category]) (fun A ow τ M sz hH hV => ?_)
  refine g_const hX dL_refuses_851 ?_
  refine yf_icmp_ne hX dL_refuses_853 (ya_in rfl) (ya_in rfl) (by decide) ?_
  refine g_aload hX dL_refuses_856 rfl rfl ?_
  refine g_iload hX dL_refuses_857 rfl ?_
  refine g_const hX dL_refuses_859 ?_
  refine g_const hX dL_refuses_862 ?_
  refine g_const hX dL_refuses_864 ?_
  refine g_const hX dL_refuses_866 ?_
  refine l_act hX hst dL_refuses_867 hH hV (ya_in rfl) (ya_in rfl) (ya_in rfl) (ya_in rfl) (ya_in rfl) (ra23a (by decide +kernel)) (show cs + 10 + 10 + 10 ≤ 2700 by omega) (show ss + 250 + 250 + 250 ≤ 67500 by omega) (by first | exact Nat.le_of_ble_eq_true rfl | simp [cat_rf, Value.category]) (fun A ow τ M sz hH hV => ?_)
  refine g_const hX dL_refuses_870 ?_
  refine yf_icmp_ne hX dL_refuses_872 (ya_in rfl) (ya_in rfl) (by decide) ?_
  refine g_const hX dL_refuses_875 ?_
  refine g_goto hX dL_refuses_876 ?_
  refine g_istore hX dL_refuses_880 ?_
  dsimp only [List.set]
  refine g_iload hX dL_refuses_882 rfl ?_
  refine g_const hX dL_refuses_884 ?_
  refine yf_icmp_eq hX dL_refuses_886 (ya_in rfl) (ya_in rfl) (by decide) ?_
  refine g_iload hX dL_refuses_889 rfl ?_
  refine g_const hX dL_refuses_891 ?_
  refine yt_icmp_ne hX dL_refuses_893 (ya_in rfl) (ya_in rfl) (by decide) ?_
  refine y_iinc (c := 24) hX dL_refuses_939 rfl (by decide) ?_
  dsimp only [List.set]
  refine g_goto hX dL_refuses_942 ?_
  refine g_iload hX dL_refuses_746 rfl ?_
  refine g_const hX dL_refuses_748 ?_
  refine yt_icmp_ge hX dL_refuses_750 (ya_in rfl) (ya_in rfl) (by decide) ?_
  refine g_iload hX dL_refuses_945 rfl ?_
  refine yf_if_eq hX dL_refuses_947 (ya_in rfl) (by decide) ?_
  refine g_aload hX dL_refuses_950 rfl rfl ?_
  refine g_const hX dL_refuses_951 ?_
  refine g_const hX dL_refuses_953 ?_
  refine g_const hX dL_refuses_954 ?_
  refine g_const hX dL_refuses_955 ?_
  refine g_const hX dL_refuses_956 ?_
  refine l_act hX hst dL_refuses_958 hH hV (ya_in rfl) (ya_in rfl) (ya_in rfl) (ya_in rfl) (ya_in rfl) (ra14a (by decide +kernel)) (show cs + 10 + 10 + 10 + 10 ≤ 2700 by omega) (show ss + 250 + 250 + 250 + 250 ≤ 67500 by omega) (by first | exact Nat.le_of_ble_eq_true rfl | simp [cat_rf, Value.category]) (fun A ow τ M sz hH hV => ?_)
  refine g_const hX dL_refuses_961 ?_
  refine yf_icmp_ne hX dL_refuses_963 (ya_in rfl) (ya_in rfl) (by decide) ?_
  refine g_aload hX dL_refuses_966 rfl rfl ?_
  refine g_const hX dL_refuses_967 ?_
  refine g_const hX dL_refuses_969 ?_
  refine g_const hX dL_refuses_970 ?_
  refine g_const hX dL_refuses_971 ?_
  refine g_const hX dL_refuses_972 ?_
  refine l_act hX hst dL_refuses_974 hH hV (ya_in rfl) (ya_in rfl) (ya_in rfl) (ya_in rfl) (ya_in rfl) (ra14a (by decide +kernel)) (show cs + 10 + 10 + 10 + 10 + 10 ≤ 2700 by omega) (show ss + 250 + 250 + 250 + 250 + 250 ≤ 67500 by omega) (by first | exact Nat.le_of_ble_eq_true rfl | simp [cat_rf, Value.category]) (fun A ow τ M sz hH hV => ?_)
  refine g_const hX dL_refuses_977 ?_
  refine yf_icmp_ne hX dL_refuses_979 (ya_in rfl) (ya_in rfl) (by decide) ?_
  refine g_aload hX dL_refuses_982 rfl rfl ?_
  refine g_const hX dL_refuses_983 ?_
  refine g_iload hX dL_refuses_985 rfl ?_
  refine g_const hX dL_refuses_987 ?_
  refine g_const hX dL_refuses_988 ?_
  refine g_const hX dL_refuses_989 ?_
  refine l_act hX hst dL_refuses_990 hH hV (ya_in rfl) rn0 (ya_in rfl) (ya_in rfl) (ya_in rfl) (ra22a (fun q => by have q1 := q.1; have q2 := q.2; omega)) (show cs + 10 + 10 + 10 + 10 + 10 + 10 ≤ 2700 by omega) (show ss + 250 + 250 + 250 + 250 + 250 + 250 ≤ 67500 by omega) (by first | exact Nat.le_of_ble_eq_true rfl | simp [cat_rf, Value.category]) (fun A ow τ M sz hH hV => ?_)
  refine g_const hX dL_refuses_993 ?_
  refine yf_icmp_ne hX dL_refuses_995 (ya_in rfl) (ya_in rfl) (by decide) ?_
  refine g_aload hX dL_refuses_998 rfl rfl ?_
  exact rf_g29 hX hst hR hmt rm9 rn0 rn1 rn2 rn3 hK hH hV (by omega) (by omega)

set_option maxRecDepth 20000 in
theorem rf_g27 {X : hX} (hX : Cok X mL_refuses) (hst : X.1.2.1.stackTraces = false) {M0 : hM} {sz0 : Nat} {K : hK} (hR : Ret X mL_refuses M0 sz0 K) {h : Nat} {σ : SG} {mt : Int} (hmt : metK σ (σ 1 0 0).toNat = mt) (rm9 : inR mt) (rn0 : inR (σ 0 0 0)) (rn1 : inR (σ 1 0 0)) (rn2 : inR (σ 2 0 0)) (rn3 : inR (σ 3 0 0)) (hK : ∀ (A' : Nat → Nat → Nat) (ow' : Nat → Nat × Nat) (τ' : Nat → Nat → Int) (M' : hM) (s9 : Nat), HX X.2.2.2.2.2.2.2.2.2 h A' ow' σ τ' M' → SV σ → K (.inl (some (.int (iZ 1)))) M' s9) {A : Nat → Nat → Nat} {ow : Nat → Nat × Nat} {τ : Nat → Nat → Int} {M : hM} {sz cs ss : Nat} (hH : HX X.2.2.2.2.2.2.2.2.2 h A ow σ τ M) (hV : SV σ) (hc : cs + 1490 ≤ 2700) (hs : ss + 37250 ≤ 67500) : G X 884 [.ref h, .int (iZ (σ 0 0 0)), .int (iZ (σ 1 0 0)), .int (iZ (σ 2 0 0)), .int (iZ (σ 3 0 0)), .int (iZ 2147483647), .int (iZ mt), .int (iZ 1), .int (iZ (-2147483648)), .int (iZ (σ 0 0 0)), .int (iZ (σ 1 0 0)), .int (iZ (σ 2 0 0)), .int (iZ 2400), .int (iZ 2400), .int (iZ 10), .int (iZ 41), .int (iZ 32), .int (iZ 13), .int (iZ 1), .int (iZ 21)] [.int (iZ 21)] M sz cs ss := by
  have hn := hV.n
  unfold SVn at hn
  refine g_const hX dL_refuses_884 ?_
  refine yf_icmp_eq hX dL_refuses_886 (ya_in rfl) (ya_in rfl) (by decide) ?_
  refine g_iload hX dL_refuses_889 rfl ?_
  refine g_const hX dL_refuses_891 ?_
  refine yt_icmp_ne hX dL_refuses_893 (ya_in rfl) (ya_in rfl) (by decide) ?_
  refine y_iinc (c := 22) hX dL_refuses_939 rfl (by decide) ?_
  dsimp only [List.set]
  refine g_goto hX dL_refuses_942 ?_
  refine g_iload hX dL_refuses_746 rfl ?_
  refine g_const hX dL_refuses_748 ?_
  refine yf_icmp_ge hX dL_refuses_750 (ya_in rfl) (ya_in rfl) (by decide) ?_
  refine g_iload hX dL_refuses_753 rfl ?_
  refine yf_if_eq hX dL_refuses_755 (ya_in rfl) (by decide) ?_
  refine g_iload hX dL_refuses_758 rfl ?_
  refine g_const hX dL_refuses_760 ?_
  refine yf_icmp_eq hX dL_refuses_762 (ya_in rfl) (ya_in rfl) (by decide) ?_
  refine g_iload hX dL_refuses_765 rfl ?_
  refine g_const hX dL_refuses_767 ?_
  refine yf_icmp_eq hX dL_refuses_769 (ya_in rfl) (ya_in rfl) (by decide) ?_
  refine g_iload hX dL_refuses_772 rfl ?_
  refine g_const hX dL_refuses_774 ?_
  refine yf_icmp_eq hX dL_refuses_776 (ya_in rfl) (ya_in rfl) (by decide) ?_
  refine g_iload hX dL_refuses_779 rfl ?_
  refine g_const hX dL_refuses_781 ?_
  refine yt_icmp_ne hX dL_refuses_783 (ya_in rfl) (ya_in rfl) (by decide) ?_
  refine g_iload hX dL_refuses_882 rfl ?_
  refine g_const hX dL_refuses_884 ?_
  refine yf_icmp_eq hX dL_refuses_886 (ya_in rfl) (ya_in rfl) (by decide) ?_
  refine g_iload hX dL_refuses_889 rfl ?_
  refine g_const hX dL_refuses_891 ?_
  refine yt_icmp_ne hX dL_refuses_893 (ya_in rfl) (ya_in rfl) (by decide) ?_
  refine y_iinc (c := 23) hX dL_refuses_939 rfl (by decide) ?_
  dsimp only [List.set]
  refine g_goto hX dL_refuses_942 ?_
  refine g_iload hX dL_refuses_746 rfl ?_
  refine g_const hX dL_refuses_748 ?_
  refine yf_icmp_ge hX dL_refuses_750 (ya_in rfl) (ya_in rfl) (by decide) ?_
  refine g_iload hX dL_refuses_753 rfl ?_
  refine yf_if_eq hX dL_refuses_755 (ya_in rfl) (by decide) ?_
  refine g_iload hX dL_refuses_758 rfl ?_
  refine g_const hX dL_refuses_760 ?_
  refine yf_icmp_eq hX dL_refuses_762 (ya_in rfl) (ya_in rfl) (by decide) ?_
  refine g_iload hX dL_refuses_765 rfl ?_
  refine g_const hX dL_refuses_767 ?_
  refine yf_icmp_eq hX dL_refuses_769 (ya_in rfl) (ya_in rfl) (by decide) ?_
  refine g_iload hX dL_refuses_772 rfl ?_
  refine g_const hX dL_refuses_774 ?_
  refine yf_icmp_eq hX dL_refuses_776 (ya_in rfl) (ya_in rfl) (by decide) ?_
  refine g_iload hX dL_refuses_779 rfl ?_
  refine g_const hX dL_refuses_781 ?_
  refine yf_icmp_ne hX dL_refuses_783 (ya_in rfl) (ya_in rfl) (by decide) ?_
  refine g_aload hX dL_refuses_786 rfl rfl ?_
  refine g_iload hX dL_refuses_787 rfl ?_
  refine g_iload hX dL_refuses_789 rfl ?_
  refine g_const hX dL_refuses_791 ?_
  refine g_const hX dL_refuses_792 ?_
  refine g_const hX dL_refuses_793 ?_
  refine l_act hX hst dL_refuses_794 hH hV (ya_in rfl) (ya_in rfl) (ya_in rfl) (ya_in rfl) (ya_in rfl) (ra23a (by decide +kernel)) (show cs + 10 ≤ 2700 by omega) (show ss + 250 ≤ 67500 by omega) (by first | exact Nat.le_of_ble_eq_true rfl | simp [cat_rf, Value.category]) (fun A ow τ M sz hH hV => ?_)
  refine g_const hX dL_refuses_797 ?_
  refine yf_icmp_ne hX dL_refuses_799 (ya_in rfl) (ya_in rfl) (by decide) ?_
  refine g_aload hX dL_refuses_802 rfl rfl ?_
  refine g_iload hX dL_refuses_803 rfl ?_
  refine g_const hX dL_refuses_805 ?_
  refine g_iload hX dL_refuses_808 rfl ?_
  refine g_const hX dL_refuses_810 ?_
  refine g_const hX dL_refuses_811 ?_
  refine l_act hX hst dL_refuses_812 hH hV (ya_in rfl) (ya_in rfl) (ya_in rfl) (ya_in rfl) (ya_in rfl) (ra23a (by decide +kernel)) (show cs + 10 + 10 ≤ 2700 by omega) (show ss + 250 + 250 ≤ 67500 by omega) (by first | exact Nat.le_of_ble_eq_true rfl | simp [cat_rf, Value.category]) (fun A ow τ M sz hH hV => ?_)
  refine g_const hX dL_refuses_815 ?_
  refine yf_icmp_ne hX dL_refuses_817 (ya_in rfl) (ya_in rfl) (by decide) ?_
  refine g_aload hX dL_refuses_820 rfl rfl ?_
  refine g_iload hX dL_refuses_821 rfl ?_
  exact rf_g28 hX hst hR hmt rm9 rn0 rn1 rn2 rn3 hK hH hV (by omega) (by omega)

set_option maxRecDepth 20000 in
theorem rf_g26 {X : hX} (hX : Cok X mL_refuses) (hst : X.1.2.1.stackTraces = false) {M0 : hM} {sz0 : Nat} {K : hK} (hR : Ret X mL_refuses M0 sz0 K) {h : Nat} {σ : SG} {mt : Int} (hmt : metK σ (σ 1 0 0).toNat = mt) (rm9 : inR mt) (rn0 : inR (σ 0 0 0)) (rn1 : inR (σ 1 0 0)) (rn2 : inR (σ 2 0 0)) (rn3 : inR (σ 3 0 0)) (hK : ∀ (A' : Nat → Nat → Nat) (ow' : Nat → Nat × Nat) (τ' : Nat → Nat → Int) (M' : hM) (s9 : Nat), HX X.2.2.2.2.2.2.2.2.2 h A' ow' σ τ' M' → SV σ → K (.inl (some (.int (iZ 1)))) M' s9) {A : Nat → Nat → Nat} {ow : Nat → Nat × Nat} {τ : Nat → Nat → Int} {M : hM} {sz cs ss : Nat} (hH : HX X.2.2.2.2.2.2.2.2.2 h A ow σ τ M) (hV : SV σ) (hc : cs + 1540 ≤ 2700) (hs : ss + 38500 ≤ 67500) : G X 932 [.ref h, .int (iZ (σ 0 0 0)), .int (iZ (σ 1 0 0)), .int (iZ (σ 2 0 0)), .int (iZ (σ 3 0 0)), .int (iZ 2147483647), .int (iZ mt), .int (iZ 1), .int (iZ (-2147483648)), .int (iZ (σ 0 0 0)), .int (iZ (σ 1 0 0)), .int (iZ (σ 2 0 0)), .int (iZ 2400), .int (iZ 2400), .int (iZ 10), .int (iZ 41), .int (iZ 32), .int (iZ 13), .int (iZ 1), .int (iZ 20)] [] M sz cs ss := by
  have hn := hV.n
  unfold SVn at hn
  refine g_const hX dL_refuses_932 ?_
  refine g_goto hX dL_refuses_933 ?_
  refine g_istore hX dL_refuses_937 ?_
  dsimp only [List.set]
  refine y_iinc (c := 21) hX dL_refuses_939 rfl (by decide) ?_
  dsimp only [List.set]
  refine g_goto hX dL_refuses_942 ?_
  refine g_iload hX dL_refuses_746 rfl ?_
  refine g_const hX dL_refuses_748 ?_
  refine yf_icmp_ge hX dL_refuses_750 (ya_in rfl) (ya_in rfl) (by decide) ?_
  refine g_iload hX dL_refuses_753 rfl ?_
  refine yf_if_eq hX dL_refuses_755 (ya_in rfl) (by decide) ?_
  refine g_iload hX dL_refuses_758 rfl ?_
  refine g_const hX dL_refuses_760 ?_
  refine yf_icmp_eq hX dL_refuses_762 (ya_in rfl) (ya_in rfl) (by decide) ?_
  refine g_iload hX dL_refuses_765 rfl ?_
  refine g_const hX dL_refuses_767 ?_
  refine yf_icmp_eq hX dL_refuses_769 (ya_in rfl) (ya_in rfl) (by decide) ?_
  refine g_iload hX dL_refuses_772 rfl ?_
  refine g_const hX dL_refuses_774 ?_
  refine yt_icmp_eq hX dL_refuses_776 (ya_in rfl) (ya_in rfl) (by decide) ?_
  refine g_aload hX dL_refuses_786 rfl rfl ?_
  refine g_iload hX dL_refuses_787 rfl ?_
  refine g_iload hX dL_refuses_789 rfl ?_
  refine g_const hX dL_refuses_791 ?_
  refine g_const hX dL_refuses_792 ?_
  refine g_const hX dL_refuses_793 ?_
  refine l_act hX hst dL_refuses_794 hH hV (ya_in rfl) (ya_in rfl) (ya_in rfl) (ya_in rfl) (ya_in rfl) (ra21a (by decide +kernel)) (show cs + 10 ≤ 2700 by omega) (show ss + 250 ≤ 67500 by omega) (by first | exact Nat.le_of_ble_eq_true rfl | simp [cat_rf, Value.category]) (fun A ow τ M sz hH hV => ?_)
  refine g_const hX dL_refuses_797 ?_
  refine yf_icmp_ne hX dL_refuses_799 (ya_in rfl) (ya_in rfl) (by decide) ?_
  refine g_aload hX dL_refuses_802 rfl rfl ?_
  refine g_iload hX dL_refuses_803 rfl ?_
  refine g_const hX dL_refuses_805 ?_
  refine g_iload hX dL_refuses_808 rfl ?_
  refine g_const hX dL_refuses_810 ?_
  refine g_const hX dL_refuses_811 ?_
  refine l_act hX hst dL_refuses_812 hH hV (ya_in rfl) (ya_in rfl) (ya_in rfl) (ya_in rfl) (ya_in rfl) (ra21a (by decide +kernel)) (show cs + 10 + 10 ≤ 2700 by omega) (show ss + 250 + 250 ≤ 67500 by omega) (by first | exact Nat.le_of_ble_eq_true rfl | simp [cat_rf, Value.category]) (fun A ow τ M sz hH hV => ?_)
  refine g_const hX dL_refuses_815 ?_
  refine yf_icmp_ne hX dL_refuses_817 (ya_in rfl) (ya_in rfl) (by decide) ?_
  refine g_aload hX dL_refuses_820 rfl rfl ?_
  refine g_iload hX dL_refuses_821 rfl ?_
  refine g_const hX dL_refuses_823 ?_
  refine g_const hX dL_refuses_826 ?_
  refine g_iload hX dL_refuses_827 rfl ?_
  refine g_const hX dL_refuses_829 ?_
  refine l_act hX hst dL_refuses_830 hH hV (ya_in rfl) (ya_in rfl) (ya_in rfl) (ya_in rfl) (ya_in rfl) (ra21a (by decide +kernel)) (show cs + 10 + 10 + 10 ≤ 2700 by omega) (show ss + 250 + 250 + 250 ≤ 67500 by omega) (by first | exact Nat.le_of_ble_eq_true rfl | simp [cat_rf, Value.category]) (fun A ow τ M sz hH hV => ?_)
  refine g_const hX dL_refuses_833 ?_
  refine yf_icmp_ne hX dL_refuses_835 (ya_in rfl) (ya_in rfl) (by decide) ?_
  refine g_aload hX dL_refuses_838 rfl rfl ?_
  refine g_iload hX dL_refuses_839 rfl ?_
  refine g_const hX dL_refuses_841 ?_
  refine g_const hX dL_refuses_844 ?_
  refine g_const hX dL_refuses_845 ?_
  refine g_const hX dL_refuses_847 ?_
  refine l_act hX hst dL_refuses_848 hH hV (ya_in rfl) (ya_in rfl) (ya_in rfl) (ya_in rfl) (ya_in rfl) (ra21a (by decide +kernel)) (show cs + 10 + 10 + 10 + 10 ≤ 2700 by omega) (show ss + 250 + 250 + 250 + 250 ≤ 67500 by omega) (by first | exact Nat.le_of_ble_eq_true rfl | simp [cat_rf, Value.category]) (fun A ow τ M sz hH hV => ?_)
  refine g_const hX dL_refuses_851 ?_
  refine yf_icmp_ne hX dL_refuses_853 (ya_in rfl) (ya_in rfl) (by decide) ?_
  refine g_aload hX dL_refuses_856 rfl rfl ?_
  refine g_iload hX dL_refuses_857 rfl ?_
  refine g_const hX dL_refuses_859 ?_
  refine g_const hX dL_refuses_862 ?_
  refine g_const hX dL_refuses_864 ?_
  refine g_const hX dL_refuses_866 ?_
  refine l_act hX hst dL_refuses_867 hH hV (ya_in rfl) (ya_in rfl) (ya_in rfl) (ya_in rfl) (ya_in rfl) (ra21a (by decide +kernel)) (show cs + 10 + 10 + 10 + 10 + 10 ≤ 2700 by omega) (show ss + 250 + 250 + 250 + 250 + 250 ≤ 67500 by omega) (by first | exact Nat.le_of_ble_eq_true rfl | simp [cat_rf, Value.category]) (fun A ow τ M sz hH hV => ?_)
  refine g_const hX dL_refuses_870 ?_
  refine yf_icmp_ne hX dL_refuses_872 (ya_in rfl) (ya_in rfl) (by decide) ?_
  refine g_const hX dL_refuses_875 ?_
  refine g_goto hX dL_refuses_876 ?_
  refine g_istore hX dL_refuses_880 ?_
  dsimp only [List.set]
  refine g_iload hX dL_refuses_882 rfl ?_
  exact rf_g27 hX hst hR hmt rm9 rn0 rn1 rn2 rn3 hK hH hV (by omega) (by omega)

set_option maxRecDepth 20000 in
theorem rf_g25 {X : hX} (hX : Cok X mL_refuses) (hst : X.1.2.1.stackTraces = false) {M0 : hM} {sz0 : Nat} {K : hK} (hR : Ret X mL_refuses M0 sz0 K) {h : Nat} {σ : SG} {mt : Int} (hmt : metK σ (σ 1 0 0).toNat = mt) (rm9 : inR mt) (rn0 : inR (σ 0 0 0)) (rn1 : inR (σ 1 0 0)) (rn2 : inR (σ 2 0 0)) (rn3 : inR (σ 3 0 0)) (hK : ∀ (A' : Nat → Nat → Nat) (ow' : Nat → Nat × Nat) (τ' : Nat → Nat → Int) (M' : hM) (s9 : Nat), HX X.2.2.2.2.2.2.2.2.2 h A' ow' σ τ' M' → SV σ → K (.inl (some (.int (iZ 1)))) M' s9) {A : Nat → Nat → Nat} {ow : Nat → Nat × Nat} {τ : Nat → Nat → Int} {M : hM} {sz cs ss : Nat} (hH : HX X.2.2.2.2.2.2.2.2.2 h A ow σ τ M) (hV : SV σ) (hc : cs + 1560 ≤ 2700) (hs : ss + 39000 ≤ 67500) : G X 932 [.ref h, .int (iZ (σ 0 0 0)), .int (iZ (σ 1 0 0)), .int (iZ (σ 2 0 0)), .int (iZ (σ 3 0 0)), .int (iZ 2147483647), .int (iZ mt), .int (iZ 1), .int (iZ (-2147483648)), .int (iZ (σ 0 0 0)), .int (iZ (σ 1 0 0)), .int (iZ (σ 2 0 0)), .int (iZ 2400), .int (iZ 2400), .int (iZ 10), .int (iZ 41), .int (iZ 32), .int (iZ 13), .int (iZ 1), .int (iZ 19)] [] M sz cs ss := by
  have hn := hV.n
  unfold SVn at hn
  refine g_const hX dL_refuses_932 ?_
  refine g_goto hX dL_refuses_933 ?_
  refine g_istore hX dL_refuses_937 ?_
  dsimp only [List.set]
  refine y_iinc (c := 20) hX dL_refuses_939 rfl (by decide) ?_
  dsimp only [List.set]
  refine g_goto hX dL_refuses_942 ?_
  refine g_iload hX dL_refuses_746 rfl ?_
  refine g_const hX dL_refuses_748 ?_
  refine yf_icmp_ge hX dL_refuses_750 (ya_in rfl) (ya_in rfl) (by decide) ?_
  refine g_iload hX dL_refuses_753 rfl ?_
  refine yf_if_eq hX dL_refuses_755 (ya_in rfl) (by decide) ?_
  refine g_iload hX dL_refuses_758 rfl ?_
  refine g_const hX dL_refuses_760 ?_
  refine yf_icmp_eq hX dL_refuses_762 (ya_in rfl) (ya_in rfl) (by decide) ?_
  refine g_iload hX dL_refuses_765 rfl ?_
  refine g_const hX dL_refuses_767 ?_
  refine yf_icmp_eq hX dL_refuses_769 (ya_in rfl) (ya_in rfl) (by decide) ?_
  refine g_iload hX dL_refuses_772 rfl ?_
  refine g_const hX dL_refuses_774 ?_
  refine yf_icmp_eq hX dL_refuses_776 (ya_in rfl) (ya_in rfl) (by decide) ?_
  refine g_iload hX dL_refuses_779 rfl ?_
  refine g_const hX dL_refuses_781 ?_
  refine yt_icmp_ne hX dL_refuses_783 (ya_in rfl) (ya_in rfl) (by decide) ?_
  refine g_iload hX dL_refuses_882 rfl ?_
  refine g_const hX dL_refuses_884 ?_
  refine yf_icmp_eq hX dL_refuses_886 (ya_in rfl) (ya_in rfl) (by decide) ?_
  refine g_iload hX dL_refuses_889 rfl ?_
  refine g_const hX dL_refuses_891 ?_
  refine yf_icmp_ne hX dL_refuses_893 (ya_in rfl) (ya_in rfl) (by decide) ?_
  refine g_aload hX dL_refuses_896 rfl rfl ?_
  refine g_iload hX dL_refuses_897 rfl ?_
  refine g_iload hX dL_refuses_899 rfl ?_
  refine g_const hX dL_refuses_901 ?_
  refine g_const hX dL_refuses_902 ?_
  refine g_const hX dL_refuses_903 ?_
  refine l_act hX hst dL_refuses_904 hH hV (ya_in rfl) rn2 (ya_in rfl) (ya_in rfl) (ya_in rfl) (ra20a (fun q => by have q1 := q.1; have q2 := q.2; omega)) (show cs + 10 ≤ 2700 by omega) (show ss + 250 ≤ 67500 by omega) (by first | exact Nat.le_of_ble_eq_true rfl | simp [cat_rf, Value.category]) (fun A ow τ M sz hH hV => ?_)
  refine g_const hX dL_refuses_907 ?_
  refine yf_icmp_ne hX dL_refuses_909 (ya_in rfl) (ya_in rfl) (by decide) ?_
  refine g_iload hX dL_refuses_912 rfl ?_
  refine z_if_eq hX dL_refuses_913 rn2 (fun c9 => ?_) (fun c9 => ?_)
  · exact rf_g26 hX hst hR hmt rm9 rn0 rn1 rn2 rn3 hK hH hV (by omega) (by omega)
  refine g_aload hX dL_refuses_916 rfl rfl ?_
  refine g_iload hX dL_refuses_917 rfl ?_
  refine g_const hX dL_refuses_919 ?_
  refine g_iload hX dL_refuses_920 rfl ?_
  refine g_const hX dL_refuses_922 ?_
  refine g_const hX dL_refuses_923 ?_
  refine l_act hX hst dL_refuses_924 hH hV (ya_in rfl) (ya_in rfl) (ya_in rfl) (ya_in rfl) (ya_in rfl) (ra20b ⟨by omega, by omega⟩ (by decide +kernel)) (show cs + 10 + 10 ≤ 2700 by omega) (show ss + 250 + 250 ≤ 67500 by omega) (by first | exact Nat.le_of_ble_eq_true rfl | simp [cat_rf, Value.category]) (fun A ow τ M sz hH hV => ?_)
  refine g_const hX dL_refuses_927 ?_
  refine yf_icmp_ne hX dL_refuses_929 (ya_in rfl) (ya_in rfl) (by decide) ?_
  exact rf_g26 hX hst hR hmt rm9 rn0 rn1 rn2 rn3 hK hH hV (by omega) (by omega)

set_option maxRecDepth 20000 in
theorem rf_g24 {X : hX} (hX : Cok X mL_refuses) (hst : X.1.2.1.stackTraces = false) {M0 : hM} {sz0 : Nat} {K : hK} (hR : Ret X mL_refuses M0 sz0 K) {h : Nat} {σ : SG} {mt : Int} (hmt : metK σ (σ 1 0 0).toNat = mt) (rm9 : inR mt) (rn0 : inR (σ 0 0 0)) (rn1 : inR (σ 1 0 0)) (rn2 : inR (σ 2 0 0)) (rn3 : inR (σ 3 0 0)) (hK : ∀ (A' : Nat → Nat → Nat) (ow' : Nat → Nat × Nat) (τ' : Nat → Nat → Int) (M' : hM) (s9 : Nat), HX X.2.2.2.2.2.2.2.2.2 h A' ow' σ τ' M' → SV σ → K (.inl (some (.int (iZ 1)))) M' s9) {A : Nat → Nat → Nat} {ow : Nat → Nat × Nat} {τ : Nat → Nat → Int} {M : hM} {sz cs ss : Nat} (hH : HX X.2.2.2.2.2.2.2.2.2 h A ow σ τ M) (hV : SV σ) (hc : cs + 1610 ≤ 2700) (hs : ss + 40250 ≤ 67500) : G X 820 [.ref h, .int (iZ (σ 0 0 0)), .int (iZ (σ 1 0 0)), .int (iZ (σ 2 0 0)), .int (iZ (σ 3 0 0)), .int (iZ 2147483647), .int (iZ mt), .int (iZ 1), .int (iZ (-2147483648)), .int (iZ (σ 0 0 0)), .int (iZ (σ 1 0 0)), .int (iZ (σ 2 0 0)), .int (iZ 2400), .int (iZ 2400), .int (iZ 10), .int (iZ 41), .int (iZ 32), .int (iZ 13), .int (iZ 1), .int (iZ 18)] [] M sz cs ss := by
  have hn := hV.n
  unfold SVn at hn
  refine g_aload hX dL_refuses_820 rfl rfl ?_
  refine g_iload hX dL_refuses_821 rfl ?_
  refine g_const hX dL_refuses_823 ?_
  refine g_const hX dL_refuses_826 ?_
  refine g_iload hX dL_refuses_827 rfl ?_
  refine g_const hX dL_refuses_829 ?_
  refine l_act hX hst dL_refuses_830 hH hV (ya_in rfl) (ya_in rfl) (ya_in rfl) (ya_in rfl) (ya_in rfl) (ra18a (by decide +kernel)) (show cs + 10 ≤ 2700 by omega) (show ss + 250 ≤ 67500 by omega) (by first | exact Nat.le_of_ble_eq_true rfl | simp [cat_rf, Value.category]) (fun A ow τ M sz hH hV => ?_)
  refine g_const hX dL_refuses_833 ?_
  refine yf_icmp_ne hX dL_refuses_835 (ya_in rfl) (ya_in rfl) (by decide) ?_
  refine g_aload hX dL_refuses_838 rfl rfl ?_
  refine g_iload hX dL_refuses_839 rfl ?_
  refine g_const hX dL_refuses_841 ?_
  refine g_const hX dL_refuses_844 ?_
  refine g_const hX dL_refuses_845 ?_
  refine g_const hX dL_refuses_847 ?_
  refine l_act hX hst dL_refuses_848 hH hV (ya_in rfl) (ya_in rfl) (ya_in rfl) (ya_in rfl) (ya_in rfl) (ra18a (by decide +kernel)) (show cs + 10 + 10 ≤ 2700 by omega) (show ss + 250 + 250 ≤ 67500 by omega) (by first | exact Nat.le_of_ble_eq_true rfl | simp [cat_rf, Value.category]) (fun A ow τ M sz hH hV => ?_)
  refine g_const hX dL_refuses_851 ?_
  refine yf_icmp_ne hX dL_refuses_853 (ya_in rfl) (ya_in rfl) (by decide) ?_
  refine g_aload hX dL_refuses_856 rfl rfl ?_
  refine g_iload hX dL_refuses_857 rfl ?_
  refine g_const hX dL_refuses_859 ?_
  refine g_const hX dL_refuses_862 ?_
  refine g_const hX dL_refuses_864 ?_
  refine g_const hX dL_refuses_866 ?_
  refine l_act hX hst dL_refuses_867 hH hV (ya_in rfl) (ya_in rfl) (ya_in rfl) (ya_in rfl) (ya_in rfl) (ra18a (by decide +kernel)) (show cs + 10 + 10 + 10 ≤ 2700 by omega) (show ss + 250 + 250 + 250 ≤ 67500 by omega) (by first | exact Nat.le_of_ble_eq_true rfl | simp [cat_rf, Value.category]) (fun A ow τ M sz hH hV => ?_)
  refine g_const hX dL_refuses_870 ?_
  refine yf_icmp_ne hX dL_refuses_872 (ya_in rfl) (ya_in rfl) (by decide) ?_
  refine g_const hX dL_refuses_875 ?_
  refine g_goto hX dL_refuses_876 ?_
  refine g_istore hX dL_refuses_880 ?_
  dsimp only [List.set]
  refine g_iload hX dL_refuses_882 rfl ?_
  refine g_const hX dL_refuses_884 ?_
  refine yf_icmp_eq hX dL_refuses_886 (ya_in rfl) (ya_in rfl) (by decide) ?_
  refine g_iload hX dL_refuses_889 rfl ?_
  refine g_const hX dL_refuses_891 ?_
  refine yt_icmp_ne hX dL_refuses_893 (ya_in rfl) (ya_in rfl) (by decide) ?_
  refine y_iinc (c := 19) hX dL_refuses_939 rfl (by decide) ?_
  dsimp only [List.set]
  refine g_goto hX dL_refuses_942 ?_
  refine g_iload hX dL_refuses_746 rfl ?_
  refine g_const hX dL_refuses_748 ?_
  refine yf_icmp_ge hX dL_refuses_750 (ya_in rfl) (ya_in rfl) (by decide) ?_
  refine g_iload hX dL_refuses_753 rfl ?_
  refine yf_if_eq hX dL_refuses_755 (ya_in rfl) (by decide) ?_
  refine g_iload hX dL_refuses_758 rfl ?_
  refine g_const hX dL_refuses_760 ?_
  refine yf_icmp_eq hX dL_refuses_762 (ya_in rfl) (ya_in rfl) (by decide) ?_
  refine g_iload hX dL_refuses_765 rfl ?_
  refine g_const hX dL_refuses_767 ?_
  refine yf_icmp_eq hX dL_refuses_769 (ya_in rfl) (ya_in rfl) (by decide) ?_
  refine g_iload hX dL_refuses_772 rfl ?_
  refine g_const hX dL_refuses_774 ?_
  refine yf_icmp_eq hX dL_refuses_776 (ya_in rfl) (ya_in rfl) (by decide) ?_
  refine g_iload hX dL_refuses_779 rfl ?_
  refine g_const hX dL_refuses_781 ?_
  refine yt_icmp_ne hX dL_refuses_783 (ya_in rfl) (ya_in rfl) (by decide) ?_
  refine g_iload hX dL_refuses_882 rfl ?_
  refine g_const hX dL_refuses_884 ?_
  refine yt_icmp_eq hX dL_refuses_886 (ya_in rfl) (ya_in rfl) (by decide) ?_
  refine g_aload hX dL_refuses_896 rfl rfl ?_
  refine g_iload hX dL_refuses_897 rfl ?_
  refine g_iload hX dL_refuses_899 rfl ?_
  refine g_const hX dL_refuses_901 ?_
  refine g_const hX dL_refuses_902 ?_
  refine g_const hX dL_refuses_903 ?_
  refine l_act hX hst dL_refuses_904 hH hV (ya_in rfl) rn2 (ya_in rfl) (ya_in rfl) (ya_in rfl) (ra19a (fun q => by have q1 := q.1; have q2 := q.2; omega)) (show cs + 10 + 10 + 10 + 10 ≤ 2700 by omega) (show ss + 250 + 250 + 250 + 250 ≤ 67500 by omega) (by first | exact Nat.le_of_ble_eq_true rfl | simp [cat_rf, Value.category]) (fun A ow τ M sz hH hV => ?_)
  refine g_const hX dL_refuses_907 ?_
  refine yf_icmp_ne hX dL_refuses_909 (ya_in rfl) (ya_in rfl) (by decide) ?_
  refine g_iload hX dL_refuses_912 rfl ?_
  refine z_if_eq hX dL_refuses_913 rn2 (fun c9 => ?_) (fun c9 => ?_)
  · exact rf_g25 hX hst hR hmt rm9 rn0 rn1 rn2 rn3 hK hH hV (by omega) (by omega)
  refine g_aload hX dL_refuses_916 rfl rfl ?_
  refine g_iload hX dL_refuses_917 rfl ?_
  refine g_const hX dL_refuses_919 ?_
  refine g_iload hX dL_refuses_920 rfl ?_
  refine g_const hX dL_refuses_922 ?_
  refine g_const hX dL_refuses_923 ?_
  refine l_act hX hst dL_refuses_924 hH hV (ya_in rfl) (ya_in rfl) (ya_in rfl) (ya_in rfl) (ya_in rfl) (ra19b ⟨by omega, by omega⟩ (by decide +kernel)) (show cs + 10 + 10 + 10 + 10 + 10 ≤ 2700 by omega) (show ss + 250 + 250 + 250 + 250 + 250 ≤ 67500 by omega) (by first | exact Nat.le_of_ble_eq_true rfl | simp [cat_rf, Value.category]) (fun A ow τ M sz hH hV => ?_)
  refine g_const hX dL_refuses_927 ?_
  refine yf_icmp_ne hX dL_refuses_929 (ya_in rfl) (ya_in rfl) (by decide) ?_
  exact rf_g25 hX hst hR hmt rm9 rn0 rn1 rn2 rn3 hK hH hV (by omega) (by omega)

set_option maxRecDepth 20000 in
theorem rf_g23 {X : hX} (hX : Cok X mL_refuses) (hst : X.1.2.1.stackTraces = false) {M0 : hM} {sz0 : Nat} {K : hK} (hR : Ret X mL_refuses M0 sz0 K) {h : Nat} {σ : SG} {mt : Int} (hmt : metK σ (σ 1 0 0).toNat = mt) (rm9 : inR mt) (rn0 : inR (σ 0 0 0)) (rn1 : inR (σ 1 0 0)) (rn2 : inR (σ 2 0 0)) (rn3 : inR (σ 3 0 0)) (hK : ∀ (A' : Nat → Nat → Nat) (ow' : Nat → Nat × Nat) (τ' : Nat → Nat → Int) (M' : hM) (s9 : Nat), HX X.2.2.2.2.2.2.2.2.2 h A' ow' σ τ' M' → SV σ → K (.inl (some (.int (iZ 1)))) M' s9) {A : Nat → Nat → Nat} {ow : Nat → Nat × Nat} {τ : Nat → Nat → Int} {M : hM} {sz cs ss : Nat} (hH : HX X.2.2.2.2.2.2.2.2.2 h A ow σ τ M) (hV : SV σ) (hc : cs + 1630 ≤ 2700) (hs : ss + 40750 ≤ 67500) : G X 769 [.ref h, .int (iZ (σ 0 0 0)), .int (iZ (σ 1 0 0)), .int (iZ (σ 2 0 0)), .int (iZ (σ 3 0 0)), .int (iZ 2147483647), .int (iZ mt), .int (iZ 1), .int (iZ (-2147483648)), .int (iZ (σ 0 0 0)), .int (iZ (σ 1 0 0)), .int (iZ (σ 2 0 0)), .int (iZ 2400), .int (iZ 2400), .int (iZ 10), .int (iZ 41), .int (iZ 32), .int (iZ 13), .int (iZ 1), .int (iZ 16)] [.int (iZ 18), .int (iZ 16)] M sz cs ss := by
  have hn := hV.n
  unfold SVn at hn
  refine yf_icmp_eq hX dL_refuses_769 (ya_in rfl) (ya_in rfl) (by decide) ?_
  refine g_iload hX dL_refuses_772 rfl ?_
  refine g_const hX dL_refuses_774 ?_
  refine yf_icmp_eq hX dL_refuses_776 (ya_in rfl) (ya_in rfl) (by decide) ?_
  refine g_iload hX dL_refuses_779 rfl ?_
  refine g_const hX dL_refuses_781 ?_
  refine yt_icmp_ne hX dL_refuses_783 (ya_in rfl) (ya_in rfl) (by decide) ?_
  refine g_iload hX dL_refuses_882 rfl ?_
  refine g_const hX dL_refuses_884 ?_
  refine yf_icmp_eq hX dL_refuses_886 (ya_in rfl) (ya_in rfl) (by decide) ?_
  refine g_iload hX dL_refuses_889 rfl ?_
  refine g_const hX dL_refuses_891 ?_
  refine yt_icmp_ne hX dL_refuses_893 (ya_in rfl) (ya_in rfl) (by decide) ?_
  refine y_iinc (c := 17) hX dL_refuses_939 rfl (by decide) ?_
  dsimp only [List.set]
  refine g_goto hX dL_refuses_942 ?_
  refine g_iload hX dL_refuses_746 rfl ?_
  refine g_const hX dL_refuses_748 ?_
  refine yf_icmp_ge hX dL_refuses_750 (ya_in rfl) (ya_in rfl) (by decide) ?_
  refine g_iload hX dL_refuses_753 rfl ?_
  refine yf_if_eq hX dL_refuses_755 (ya_in rfl) (by decide) ?_
  refine g_iload hX dL_refuses_758 rfl ?_
  refine g_const hX dL_refuses_760 ?_
  refine yf_icmp_eq hX dL_refuses_762 (ya_in rfl) (ya_in rfl) (by decide) ?_
  refine g_iload hX dL_refuses_765 rfl ?_
  refine g_const hX dL_refuses_767 ?_
  refine yf_icmp_eq hX dL_refuses_769 (ya_in rfl) (ya_in rfl) (by decide) ?_
  refine g_iload hX dL_refuses_772 rfl ?_
  refine g_const hX dL_refuses_774 ?_
  refine yf_icmp_eq hX dL_refuses_776 (ya_in rfl) (ya_in rfl) (by decide) ?_
  refine g_iload hX dL_refuses_779 rfl ?_
  refine g_const hX dL_refuses_781 ?_
  refine yt_icmp_ne hX dL_refuses_783 (ya_in rfl) (ya_in rfl) (by decide) ?_
  refine g_iload hX dL_refuses_882 rfl ?_
  refine g_const hX dL_refuses_884 ?_
  refine yf_icmp_eq hX dL_refuses_886 (ya_in rfl) (ya_in rfl) (by decide) ?_
  refine g_iload hX dL_refuses_889 rfl ?_
  refine g_const hX dL_refuses_891 ?_
  refine yt_icmp_ne hX dL_refuses_893 (ya_in rfl) (ya_in rfl) (by decide) ?_
  refine y_iinc (c := 18) hX dL_refuses_939 rfl (by decide) ?_
  dsimp only [List.set]
  refine g_goto hX dL_refuses_942 ?_
  refine g_iload hX dL_refuses_746 rfl ?_
  refine g_const hX dL_refuses_748 ?_
  refine yf_icmp_ge hX dL_refuses_750 (ya_in rfl) (ya_in rfl) (by decide) ?_
  refine g_iload hX dL_refuses_753 rfl ?_
  refine yf_if_eq hX dL_refuses_755 (ya_in rfl) (by decide) ?_
  refine g_iload hX dL_refuses_758 rfl ?_
  refine g_const hX dL_refuses_760 ?_
  refine yf_icmp_eq hX dL_refuses_762 (ya_in rfl) (ya_in rfl) (by decide) ?_
  refine g_iload hX dL_refuses_765 rfl ?_
  refine g_const hX dL_refuses_767 ?_
  refine yt_icmp_eq hX dL_refuses_769 (ya_in rfl) (ya_in rfl) (by decide) ?_
  refine g_aload hX dL_refuses_786 rfl rfl ?_
  refine g_iload hX dL_refuses_787 rfl ?_
  refine g_iload hX dL_refuses_789 rfl ?_
  refine g_const hX dL_refuses_791 ?_
  refine g_const hX dL_refuses_792 ?_
  refine g_const hX dL_refuses_793 ?_
  refine l_act hX hst dL_refuses_794 hH hV (ya_in rfl) (ya_in rfl) (ya_in rfl) (ya_in rfl) (ya_in rfl) (ra18a (by decide +kernel)) (show cs + 10 ≤ 2700 by omega) (show ss + 250 ≤ 67500 by omega) (by first | exact Nat.le_of_ble_eq_true rfl | simp [cat_rf, Value.category]) (fun A ow τ M sz hH hV => ?_)
  refine g_const hX dL_refuses_797 ?_
  refine yf_icmp_ne hX dL_refuses_799 (ya_in rfl) (ya_in rfl) (by decide) ?_
  refine g_aload hX dL_refuses_802 rfl rfl ?_
  refine g_iload hX dL_refuses_803 rfl ?_
  refine g_const hX dL_refuses_805 ?_
  refine g_iload hX dL_refuses_808 rfl ?_
  refine g_const hX dL_refuses_810 ?_
  refine g_const hX dL_refuses_811 ?_
  refine l_act hX hst dL_refuses_812 hH hV (ya_in rfl) (ya_in rfl) (ya_in rfl) (ya_in rfl) (ya_in rfl) (ra18a (by decide +kernel)) (show cs + 10 + 10 ≤ 2700 by omega) (show ss + 250 + 250 ≤ 67500 by omega) (by first | exact Nat.le_of_ble_eq_true rfl | simp [cat_rf, Value.category]) (fun A ow τ M sz hH hV => ?_)
  refine g_const hX dL_refuses_815 ?_
  refine yf_icmp_ne hX dL_refuses_817 (ya_in rfl) (ya_in rfl) (by decide) ?_
  exact rf_g24 hX hst hR hmt rm9 rn0 rn1 rn2 rn3 hK hH hV (by omega) (by omega)

set_option maxRecDepth 20000 in
theorem rf_g22 {X : hX} (hX : Cok X mL_refuses) (hst : X.1.2.1.stackTraces = false) {M0 : hM} {sz0 : Nat} {K : hK} (hR : Ret X mL_refuses M0 sz0 K) {h : Nat} {σ : SG} {mt : Int} (hmt : metK σ (σ 1 0 0).toNat = mt) (rm9 : inR mt) (rn0 : inR (σ 0 0 0)) (rn1 : inR (σ 1 0 0)) (rn2 : inR (σ 2 0 0)) (rn3 : inR (σ 3 0 0)) (hK : ∀ (A' : Nat → Nat → Nat) (ow' : Nat → Nat × Nat) (τ' : Nat → Nat → Int) (M' : hM) (s9 : Nat), HX X.2.2.2.2.2.2.2.2.2 h A' ow' σ τ' M' → SV σ → K (.inl (some (.int (iZ 1)))) M' s9) {A : Nat → Nat → Nat} {ow : Nat → Nat × Nat} {τ : Nat → Nat → Int} {M : hM} {sz cs ss : Nat} (hH : HX X.2.2.2.2.2.2.2.2.2 h A ow σ τ M) (hV : SV σ) (hc : cs + 1630 ≤ 2700) (hs : ss + 40750 ≤ 67500) : G X 882 [.ref h, .int (iZ (σ 0 0 0)), .int (iZ (σ 1 0 0)), .int (iZ (σ 2 0 0)), .int (iZ (σ 3 0 0)), .int (iZ 2147483647), .int (iZ mt), .int (iZ 1), .int (iZ (-2147483648)), .int (iZ (σ 0 0 0)), .int (iZ (σ 1 0 0)), .int (iZ (σ 2 0 0)), .int (iZ 2400), .int (iZ 2400), .int (iZ 10), .int (iZ 41), .int (iZ 32), .int (iZ 13), .int (iZ 1), .int (iZ 13)] [] M sz cs ss := by
  have hn := hV.n
  unfold SVn at hn
  refine g_iload hX dL_refuses_882 rfl ?_
  refine g_const hX dL_refuses_884 ?_
  refine yf_icmp_eq hX dL_refuses_886 (ya_in rfl) (ya_in rfl) (by decide) ?_
  refine g_iload hX dL_refuses_889 rfl ?_
  refine g_const hX dL_refuses_891 ?_
  refine yt_icmp_ne hX dL_refuses_893 (ya_in rfl) (ya_in rfl) (by decide) ?_
  refine y_iinc (c := 14) hX dL_refuses_939 rfl (by decide) ?_
  dsimp only [List.set]
  refine g_goto hX dL_refuses_942 ?_
  refine g_iload hX dL_refuses_746 rfl ?_
  refine g_const hX dL_refuses_748 ?_
  refine yf_icmp_ge hX dL_refuses_750 (ya_in rfl) (ya_in rfl) (by decide) ?_
  refine g_iload hX dL_refuses_753 rfl ?_
  refine yf_if_eq hX dL_refuses_755 (ya_in rfl) (by decide) ?_
  refine g_iload hX dL_refuses_758 rfl ?_
  refine g_const hX dL_refuses_760 ?_
  refine yf_icmp_eq hX dL_refuses_762 (ya_in rfl) (ya_in rfl) (by decide) ?_
  refine g_iload hX dL_refuses_765 rfl ?_
  refine g_const hX dL_refuses_767 ?_
  refine yf_icmp_eq hX dL_refuses_769 (ya_in rfl) (ya_in rfl) (by decide) ?_
  refine g_iload hX dL_refuses_772 rfl ?_
  refine g_const hX dL_refuses_774 ?_
  refine yf_icmp_eq hX dL_refuses_776 (ya_in rfl) (ya_in rfl) (by decide) ?_
  refine g_iload hX dL_refuses_779 rfl ?_
  refine g_const hX dL_refuses_781 ?_
  refine yt_icmp_ne hX dL_refuses_783 (ya_in rfl) (ya_in rfl) (by decide) ?_
  refine g_iload hX dL_refuses_882 rfl ?_
  refine g_const hX dL_refuses_884 ?_
  refine yf_icmp_eq hX dL_refuses_886 (ya_in rfl) (ya_in rfl) (by decide) ?_
  refine g_iload hX dL_refuses_889 rfl ?_
  refine g_const hX dL_refuses_891 ?_
  refine yt_icmp_ne hX dL_refuses_893 (ya_in rfl) (ya_in rfl) (by decide) ?_
  refine y_iinc (c := 15) hX dL_refuses_939 rfl (by decide) ?_
  dsimp only [List.set]
  refine g_goto hX dL_refuses_942 ?_
  refine g_iload hX dL_refuses_746 rfl ?_
  refine g_const hX dL_refuses_748 ?_
  refine yf_icmp_ge hX dL_refuses_750 (ya_in rfl) (ya_in rfl) (by decide) ?_
  refine g_iload hX dL_refuses_753 rfl ?_
  refine yf_if_eq hX dL_refuses_755 (ya_in rfl) (by decide) ?_
  refine g_iload hX dL_refuses_758 rfl ?_
  refine g_const hX dL_refuses_760 ?_
  refine yf_icmp_eq hX dL_refuses_762 (ya_in rfl) (ya_in rfl) (by decide) ?_
  refine g_iload hX dL_refuses_765 rfl ?_
  refine g_const hX dL_refuses_767 ?_
  refine yf_icmp_eq hX dL_refuses_769 (ya_in rfl) (ya_in rfl) (by decide) ?_
  refine g_iload hX dL_refuses_772 rfl ?_
  refine g_const hX dL_refuses_774 ?_
  refine yf_icmp_eq hX dL_refuses_776 (ya_in rfl) (ya_in rfl) (by decide) ?_
  refine g_iload hX dL_refuses_779 rfl ?_
  refine g_const hX dL_refuses_781 ?_
  refine yt_icmp_ne hX dL_refuses_783 (ya_in rfl) (ya_in rfl) (by decide) ?_
  refine g_iload hX dL_refuses_882 rfl ?_
  refine g_const hX dL_refuses_884 ?_
  refine yf_icmp_eq hX dL_refuses_886 (ya_in rfl) (ya_in rfl) (by decide) ?_
  refine g_iload hX dL_refuses_889 rfl ?_
  refine g_const hX dL_refuses_891 ?_
  refine yt_icmp_ne hX dL_refuses_893 (ya_in rfl) (ya_in rfl) (by decide) ?_
  refine y_iinc (c := 16) hX dL_refuses_939 rfl (by decide) ?_
  dsimp only [List.set]
  refine g_goto hX dL_refuses_942 ?_
  refine g_iload hX dL_refuses_746 rfl ?_
  refine g_const hX dL_refuses_748 ?_
  refine yf_icmp_ge hX dL_refuses_750 (ya_in rfl) (ya_in rfl) (by decide) ?_
  refine g_iload hX dL_refuses_753 rfl ?_
  refine yf_if_eq hX dL_refuses_755 (ya_in rfl) (by decide) ?_
  refine g_iload hX dL_refuses_758 rfl ?_
  refine g_const hX dL_refuses_760 ?_
  refine yf_icmp_eq hX dL_refuses_762 (ya_in rfl) (ya_in rfl) (by decide) ?_
  refine g_iload hX dL_refuses_765 rfl ?_
  refine g_const hX dL_refuses_767 ?_
  exact rf_g23 hX hst hR hmt rm9 rn0 rn1 rn2 rn3 hK hH hV (by omega) (by omega)

set_option maxRecDepth 20000 in
theorem rf_g21 {X : hX} (hX : Cok X mL_refuses) (hst : X.1.2.1.stackTraces = false) {M0 : hM} {sz0 : Nat} {K : hK} (hR : Ret X mL_refuses M0 sz0 K) {h : Nat} {σ : SG} {mt : Int} (hmt : metK σ (σ 1 0 0).toNat = mt) (rm9 : inR mt) (rn0 : inR (σ 0 0 0)) (rn1 : inR (σ 1 0 0)) (rn2 : inR (σ 2 0 0)) (rn3 : inR (σ 3 0 0)) (hK : ∀ (A' : Nat → Nat → Nat) (ow' : Nat → Nat × Nat) (τ' : Nat → Nat → Int) (M' : hM) (s9 : Nat), HX X.2.2.2.2.2.2.2.2.2 h A' ow' σ τ' M' → SV σ → K (.inl (some (.int (iZ 1)))) M' s9) {A : Nat → Nat → Nat} {ow : Nat → Nat × Nat} {τ : Nat → Nat → Int} {M : hM} {sz cs ss : Nat} (hH : HX X.2.2.2.2.2.2.2.2.2 h A ow σ τ M) (hV : SV σ) (hc : cs + 1690 ≤ 2700) (hs : ss + 42250 ≤ 67500) : G X 715 [.ref h, .int (iZ (σ 0 0 0)), .int (iZ (σ 1 0 0)), .int (iZ (σ 2 0 0)), .int (iZ (σ 3 0 0)), .int (iZ 2147483647), .int (iZ mt), .int (iZ 1), .int (iZ (-2147483648)), .int (iZ (σ 0 0 0)), .int (iZ (σ 1 0 0)), .int (iZ (σ 2 0 0)), .int (iZ 2400), .int (iZ 2400), .int (iZ 10), .int (iZ 41), .int (iZ 32), .int (iZ 13), .int (iZ 1), .int (iZ 24)] [.int (iZ 1), .int (iZ 0), .int (iZ (-2)), .int (iZ 17), .ref h] M sz cs ss := by
  have hn := hV.n
  unfold SVn at hn
  refine g_const hX dL_refuses_715 ?_
  refine yf_icmp_ne hX dL_refuses_716 (ya_in rfl) (ya_in rfl) (by decide) ?_
  refine g_const hX dL_refuses_719 ?_
  refine g_goto hX dL_refuses_721 ?_
  refine g_const hX dL_refuses_726 ?_
  refine l_act hX hst dL_refuses_727 hH hV (ya_in rfl) (ya_in rfl) (ya_in rfl) (ya_in rfl) (ya_in rfl) (ra17b (Or.inl rfl) (by decide +kernel)) (show cs + 10 ≤ 2700 by omega) (show ss + 250 ≤ 67500 by omega) (by first | exact Nat.le_of_ble_eq_true rfl | simp [cat_rf, Value.category]) (fun A ow τ M sz hH hV => ?_)
  refine g_const hX dL_refuses_730 ?_
  refine yf_icmp_ne hX dL_refuses_732 (ya_in rfl) (ya_in rfl) (by decide) ?_
  refine g_const hX dL_refuses_735 ?_
  refine g_goto hX dL_refuses_736 ?_
  refine g_istore hX dL_refuses_740 ?_
  dsimp only [List.set]
  refine g_const hX dL_refuses_742 ?_
  refine g_istore hX dL_refuses_744 ?_
  dsimp only [List.set]
  refine g_iload hX dL_refuses_746 rfl ?_
  refine g_const hX dL_refuses_748 ?_
  refine yf_icmp_ge hX dL_refuses_750 (ya_in rfl) (ya_in rfl) (by decide) ?_
  refine g_iload hX dL_refuses_753 rfl ?_
  refine yf_if_eq hX dL_refuses_755 (ya_in rfl) (by decide) ?_
  refine g_iload hX dL_refuses_758 rfl ?_
  refine g_const hX dL_refuses_760 ?_
  refine yt_icmp_eq hX dL_refuses_762 (ya_in rfl) (ya_in rfl) (by decide) ?_
  refine g_aload hX dL_refuses_786 rfl rfl ?_
  refine g_iload hX dL_refuses_787 rfl ?_
  refine g_iload hX dL_refuses_789 rfl ?_
  refine g_const hX dL_refuses_791 ?_
  refine g_const hX dL_refuses_792 ?_
  refine g_const hX dL_refuses_793 ?_
  refine l_act hX hst dL_refuses_794 hH hV (ya_in rfl) (ya_in rfl) (ya_in rfl) (ya_in rfl) (ya_in rfl) (ra13a (by decide +kernel)) (show cs + 10 + 10 ≤ 2700 by omega) (show ss + 250 + 250 ≤ 67500 by omega) (by first | exact Nat.le_of_ble_eq_true rfl | simp [cat_rf, Value.category]) (fun A ow τ M sz hH hV => ?_)
  refine g_const hX dL_refuses_797 ?_
  refine yf_icmp_ne hX dL_refuses_799 (ya_in rfl) (ya_in rfl) (by decide) ?_
  refine g_aload hX dL_refuses_802 rfl rfl ?_
  refine g_iload hX dL_refuses_803 rfl ?_
  refine g_const hX dL_refuses_805 ?_
  refine g_iload hX dL_refuses_808 rfl ?_
  refine g_const hX dL_refuses_810 ?_
  refine g_const hX dL_refuses_811 ?_
  refine l_act hX hst dL_refuses_812 hH hV (ya_in rfl) (ya_in rfl) (ya_in rfl) (ya_in rfl) (ya_in rfl) (ra13a (by decide +kernel)) (show cs + 10 + 10 + 10 ≤ 2700 by omega) (show ss + 250 + 250 + 250 ≤ 67500 by omega) (by first | exact Nat.le_of_ble_eq_true rfl | simp [cat_rf, Value.category]) (fun A ow τ M sz hH hV => ?_)
  refine g_const hX dL_refuses_815 ?_
  refine yf_icmp_ne hX dL_refuses_817 (ya_in rfl) (ya_in rfl) (by decide) ?_
  refine g_aload hX dL_refuses_820 rfl rfl ?_
  refine g_iload hX dL_refuses_821 rfl ?_
  refine g_const hX dL_refuses_823 ?_
  refine g_const hX dL_refuses_826 ?_
  refine g_iload hX dL_refuses_827 rfl ?_
  refine g_const hX dL_refuses_829 ?_
  refine l_act hX hst dL_refuses_830 hH hV (ya_in rfl) (ya_in rfl) (ya_in rfl) (ya_in rfl) (ya_in rfl) (ra13a (by decide +kernel)) (show cs + 10 + 10 + 10 + 10 ≤ 2700 by omega) (show ss + 250 + 250 + 250 + 250 ≤ 67500 by omega) (by first | exact Nat.le_of_ble_eq_true rfl | simp [cat_rf, Value.category]) (fun A ow τ M sz hH hV => ?_)
  refine g_const hX dL_refuses_833 ?_
  refine yf_icmp_ne hX dL_refuses_835 (ya_in rfl) (ya_in rfl) (by decide) ?_
  refine g_aload hX dL_refuses_838 rfl rfl ?_
  refine g_iload hX dL_refuses_839 rfl ?_
  refine g_const hX dL_refuses_841 ?_
  refine g_const hX dL_refuses_844 ?_
  refine g_const hX dL_refuses_845 ?_
  refine g_const hX dL_refuses_847 ?_
  refine l_act hX hst dL_refuses_848 hH hV (ya_in rfl) (ya_in rfl) (ya_in rfl) (ya_in rfl) (ya_in rfl) (ra13a (by decide +kernel)) (show cs + 10 + 10 + 10 + 10 + 10 ≤ 2700 by omega) (show ss + 250 + 250 + 250 + 250 + 250 ≤ 67500 by omega) (by first | exact Nat.le_of_ble_eq_true rfl | simp [cat_rf, Value.category]) (fun A ow τ M sz hH hV => ?_)
  refine g_const hX dL_refuses_851 ?_
  refine yf_icmp_ne hX dL_refuses_853 (ya_in rfl) (ya_in rfl) (by decide) ?_
  refine g_aload hX dL_refuses_856 rfl rfl ?_
  refine g_iload hX dL_refuses_857 rfl ?_
  refine g_const hX dL_refuses_859 ?_
  refine g_const hX dL_refuses_862 ?_
  refine g_const hX dL_refuses_864 ?_
  refine g_const hX dL_refuses_866 ?_
  refine l_act hX hst dL_refuses_867 hH hV (ya_in rfl) (ya_in rfl) (ya_in rfl) (ya_in rfl) (ya_in rfl) (ra13a (by decide +kernel)) (show cs + 10 + 10 + 10 + 10 + 10 + 10 ≤ 2700 by omega) (show ss + 250 + 250 + 250 + 250 + 250 + 250 ≤ 67500 by omega) (by first | exact Nat.le_of_ble_eq_true rfl | simp [cat_rf, Value.category]) (fun A ow τ M sz hH hV => ?_)
  refine g_const hX dL_refuses_870 ?_
  refine yf_icmp_ne hX dL_refuses_872 (ya_in rfl) (ya_in rfl) (by decide) ?_
  refine g_const hX dL_refuses_875 ?_
  refine g_goto hX dL_refuses_876 ?_
  refine g_istore hX dL_refuses_880 ?_
  dsimp only [List.set]
  exact rf_g22 hX hst hR hmt rm9 rn0 rn1 rn2 rn3 hK hH hV (by omega) (by omega)

set_option maxRecDepth 20000 in
theorem rf_g20 {X : hX} (hX : Cok X mL_refuses) (hst : X.1.2.1.stackTraces = false) {M0 : hM} {sz0 : Nat} {K : hK} (hR : Ret X mL_refuses M0 sz0 K) {h : Nat} {σ : SG} {mt : Int} (hmt : metK σ (σ 1 0 0).toNat = mt) (rm9 : inR mt) (rn0 : inR (σ 0 0 0)) (rn1 : inR (σ 1 0 0)) (rn2 : inR (σ 2 0 0)) (rn3 : inR (σ 3 0 0)) (hK : ∀ (A' : Nat → Nat → Nat) (ow' : Nat → Nat × Nat) (τ' : Nat → Nat → Int) (M' : hM) (s9 : Nat), HX X.2.2.2.2.2.2.2.2.2 h A' ow' σ τ' M' → SV σ → K (.inl (some (.int (iZ 1)))) M' s9) {A : Nat → Nat → Nat} {ow : Nat → Nat × Nat} {τ : Nat → Nat → Int} {M : hM} {sz cs ss : Nat} (hH : HX X.2.2.2.2.2.2.2.2.2 h A ow σ τ M) (hV : SV σ) (hc : cs + 1750 ≤ 2700) (hs : ss + 43750 ≤ 67500) : G X 569 [.ref h, .int (iZ (σ 0 0 0)), .int (iZ (σ 1 0 0)), .int (iZ (σ 2 0 0)), .int (iZ (σ 3 0 0)), .int (iZ 2147483647), .int (iZ mt), .int (iZ 1), .int (iZ (-2147483648)), .int (iZ (σ 0 0 0)), .int (iZ (σ 1 0 0)), .int (iZ (σ 2 0 0)), .int (iZ 2400), .int (iZ 2400), .int (iZ 10), .int (iZ 41), .int (iZ 32), .int (iZ 13), .int (iZ 1), .int (iZ 24)] [.int (iZ 14), .ref h] M sz cs ss := by
  have hn := hV.n
  unfold SVn at hn
  refine g_const hX dL_refuses_569 ?_
  refine g_const hX dL_refuses_570 ?_
  refine g_const hX dL_refuses_571 ?_
  refine g_iload hX dL_refuses_572 rfl ?_
  refine l_act hX hst dL_refuses_574 hH hV (ya_in rfl) (ya_in rfl) (ya_in rfl) (ya_in rfl) (ya_in rfl) (ra14a (by decide +kernel)) (show cs + 10 ≤ 2700 by omega) (show ss + 250 ≤ 67500 by omega) (by first | exact Nat.le_of_ble_eq_true rfl | simp [cat_rf, Value.category]) (fun A ow τ M sz hH hV => ?_)
  refine g_const hX dL_refuses_577 ?_
  refine yf_icmp_ne hX dL_refuses_579 (ya_in rfl) (ya_in rfl) (by decide) ?_
  refine g_aload hX dL_refuses_582 rfl rfl ?_
  refine g_const hX dL_refuses_583 ?_
  refine g_iload hX dL_refuses_585 rfl ?_
  refine g_const hX dL_refuses_587 ?_
  refine g_const hX dL_refuses_588 ?_
  refine g_const hX dL_refuses_589 ?_
  refine l_act hX hst dL_refuses_590 hH hV (ya_in rfl) (ya_in rfl) (ya_in rfl) (ya_in rfl) (ya_in rfl) (ra15a (by decide +kernel)) (show cs + 10 + 10 ≤ 2700 by omega) (show ss + 250 + 250 ≤ 67500 by omega) (by first | exact Nat.le_of_ble_eq_true rfl | simp [cat_rf, Value.category]) (fun A ow τ M sz hH hV => ?_)
  refine g_const hX dL_refuses_593 ?_
  refine yf_icmp_ne hX dL_refuses_595 (ya_in rfl) (ya_in rfl) (by decide) ?_
  refine g_aload hX dL_refuses_598 rfl rfl ?_
  refine g_const hX dL_refuses_599 ?_
  refine g_const hX dL_refuses_601 ?_
  refine g_const hX dL_refuses_602 ?_
  refine g_iload hX dL_refuses_603 rfl ?_
  refine yt_if_ne hX dL_refuses_605 (ya_in rfl) (by decide) ?_
  refine g_iload hX dL_refuses_613 rfl ?_
  refine g_const hX dL_refuses_615 ?_
  refine yf_icmp_ne hX dL_refuses_616 (ya_in rfl) (ya_in rfl) (by decide) ?_
  refine g_const hX dL_refuses_619 ?_
  refine g_goto hX dL_refuses_621 ?_
  refine g_const hX dL_refuses_626 ?_
  refine l_act hX hst dL_refuses_627 hH hV (ya_in rfl) (ya_in rfl) (ya_in rfl) (ya_in rfl) (ya_in rfl) (ra15a (by decide +kernel)) (show cs + 10 + 10 + 10 ≤ 2700 by omega) (show ss + 250 + 250 + 250 ≤ 67500 by omega) (by first | exact Nat.le_of_ble_eq_true rfl | simp [cat_rf, Value.category]) (fun A ow τ M sz hH hV => ?_)
  refine g_const hX dL_refuses_630 ?_
  refine yf_icmp_ne hX dL_refuses_632 (ya_in rfl) (ya_in rfl) (by decide) ?_
  refine g_aload hX dL_refuses_635 rfl rfl ?_
  refine g_const hX dL_refuses_636 ?_
  refine g_iload hX dL_refuses_638 rfl ?_
  refine g_const hX dL_refuses_640 ?_
  refine yf_icmp_ne hX dL_refuses_641 (ya_in rfl) (ya_in rfl) (by decide) ?_
  refine g_const hX dL_refuses_644 ?_
  refine g_goto hX dL_refuses_646 ?_
  refine g_const hX dL_refuses_651 ?_
  refine g_const hX dL_refuses_652 ?_
  refine g_const hX dL_refuses_653 ?_
  refine l_act hX hst dL_refuses_654 hH hV (ya_in rfl) (ya_in rfl) (ya_in rfl) (ya_in rfl) (ya_in rfl) (ra16a (by decide +kernel)) (show cs + 10 + 10 + 10 + 10 ≤ 2700 by omega) (show ss + 250 + 250 + 250 + 250 ≤ 67500 by omega) (by first | exact Nat.le_of_ble_eq_true rfl | simp [cat_rf, Value.category]) (fun A ow τ M sz hH hV => ?_)
  refine g_const hX dL_refuses_657 ?_
  refine yf_icmp_ne hX dL_refuses_659 (ya_in rfl) (ya_in rfl) (by decide) ?_
  refine g_aload hX dL_refuses_662 rfl rfl ?_
  refine g_const hX dL_refuses_663 ?_
  refine g_iload hX dL_refuses_665 rfl ?_
  refine g_const hX dL_refuses_667 ?_
  refine g_const hX dL_refuses_669 ?_
  refine g_const hX dL_refuses_671 ?_
  refine l_act hX hst dL_refuses_672 hH hV (ya_in rfl) rn2 (ya_in rfl) (ya_in rfl) (ya_in rfl) (ra17a (fun q => by
    rcases q with q | q
    · omega
    · have q1 := q.1
      have q2 := q.2
      omega)) (show cs + 10 + 10 + 10 + 10 + 10 ≤ 2700 by omega) (show ss + 250 + 250 + 250 + 250 + 250 ≤ 67500 by omega) (by first | exact Nat.le_of_ble_eq_true rfl | simp [cat_rf, Value.category]) (fun A ow τ M sz hH hV => ?_)
  refine g_const hX dL_refuses_675 ?_
  refine yf_icmp_ne hX dL_refuses_677 (ya_in rfl) (ya_in rfl) (by decide) ?_
  refine g_aload hX dL_refuses_680 rfl rfl ?_
  refine g_const hX dL_refuses_681 ?_
  refine g_const hX dL_refuses_683 ?_
  refine g_iload hX dL_refuses_685 rfl ?_
  refine g_const hX dL_refuses_687 ?_
  refine yf_icmp_ne hX dL_refuses_688 (ya_in rfl) (ya_in rfl) (by decide) ?_
  refine g_const hX dL_refuses_691 ?_
  refine g_goto hX dL_refuses_692 ?_
  refine g_const hX dL_refuses_697 ?_
  refine g_const hX dL_refuses_698 ?_
  refine l_act hX hst dL_refuses_699 hH hV (ya_in rfl) (ya_in rfl) (ya_in rfl) (ya_in rfl) (ya_in rfl) (ra17b (Or.inl rfl) (by decide +kernel)) (show cs + 10 + 10 + 10 + 10 + 10 + 10 ≤ 2700 by omega) (show ss + 250 + 250 + 250 + 250 + 250 + 250 ≤ 67500 by omega) (by first | exact Nat.le_of_ble_eq_true rfl | simp [cat_rf, Value.category]) (fun A ow τ M sz hH hV => ?_)
  refine g_const hX dL_refuses_702 ?_
  refine yf_icmp_ne hX dL_refuses_704 (ya_in rfl) (ya_in rfl) (by decide) ?_
  refine g_aload hX dL_refuses_707 rfl rfl ?_
  refine g_const hX dL_refuses_708 ?_
  refine g_const hX dL_refuses_710 ?_
  refine g_const hX dL_refuses_712 ?_
  refine g_iload hX dL_refuses_713 rfl ?_
  exact rf_g21 hX hst hR hmt rm9 rn0 rn1 rn2 rn3 hK hH hV (by omega) (by omega)

set_option maxRecDepth 20000 in
theorem rf_g19 {X : hX} (hX : Cok X mL_refuses) (hst : X.1.2.1.stackTraces = false) {M0 : hM} {sz0 : Nat} {K : hK} (hR : Ret X mL_refuses M0 sz0 K) {h : Nat} {σ : SG} {mt : Int} (hmt : metK σ (σ 1 0 0).toNat = mt) (rm9 : inR mt) (rn0 : inR (σ 0 0 0)) (rn1 : inR (σ 1 0 0)) (rn2 : inR (σ 2 0 0)) (rn3 : inR (σ 3 0 0)) (hK : ∀ (A' : Nat → Nat → Nat) (ow' : Nat → Nat × Nat) (τ' : Nat → Nat → Int) (M' : hM) (s9 : Nat), HX X.2.2.2.2.2.2.2.2.2 h A' ow' σ τ' M' → SV σ → K (.inl (some (.int (iZ 1)))) M' s9) {A : Nat → Nat → Nat} {ow : Nat → Nat × Nat} {τ : Nat → Nat → Int} {M : hM} {sz cs ss : Nat} (hH : HX X.2.2.2.2.2.2.2.2.2 h A ow σ τ M) (hV : SV σ) (hc : cs + 1830 ≤ 2700) (hs : ss + 45750 ≤ 67500) : G X 442 [.ref h, .int (iZ (σ 0 0 0)), .int (iZ (σ 1 0 0)), .int (iZ (σ 2 0 0)), .int (iZ (σ 3 0 0)), .int (iZ 2147483647), .int (iZ mt), .int (iZ 1), .int (iZ (-2147483648)), .int (iZ (σ 0 0 0)), .int (iZ (σ 1 0 0)), .int (iZ (σ 2 0 0)), .int (iZ 2400), .int (iZ 2400), .int (iZ 10), .int (iZ 41), .int (iZ 32), .int (iZ 13), .int (iZ 1), .int (iZ 24)] [.int (iZ (σ 1 0 0)), .int (iZ 7), .ref h] M sz cs ss := by
  have hn := hV.n
  unfold SVn at hn
  refine g_const hX dL_refuses_442 ?_
  refine g_const hX dL_refuses_443 ?_
  refine g_const hX dL_refuses_444 ?_
  refine l_act hX hst dL_refuses_445 hH hV (ya_in rfl) rn1 (ya_in rfl) (ya_in rfl) (ya_in rfl) (ra7a (fun q => by have q1 := q.1; have q2 := q.2; omega)) (show cs + 10 ≤ 2700 by omega) (show ss + 250 ≤ 67500 by omega) (by first | exact Nat.le_of_ble_eq_true rfl | simp [cat_rf, Value.category]) (fun A ow τ M sz hH hV => ?_)
  refine g_const hX dL_refuses_448 ?_
  refine yf_icmp_ne hX dL_refuses_450 (ya_in rfl) (ya_in rfl) (by decide) ?_
  refine g_aload hX dL_refuses_453 rfl rfl ?_
  refine g_const hX dL_refuses_454 ?_
  refine g_iload hX dL_refuses_456 rfl ?_
  refine g_const hX dL_refuses_458 ?_
  refine g_const hX dL_refuses_459 ?_
  refine g_const hX dL_refuses_460 ?_
  refine l_act hX hst dL_refuses_461 hH hV (ya_in rfl) rn0 (ya_in rfl) (ya_in rfl) (ya_in rfl) (ra8a (fun q => by have q1 := q.1; have q2 := q.2; omega)) (show cs + 10 + 10 ≤ 2700 by omega) (show ss + 250 + 250 ≤ 67500 by omega) (by first | exact Nat.le_of_ble_eq_true rfl | simp [cat_rf, Value.category]) (fun A ow τ M sz hH hV => ?_)
  refine g_const hX dL_refuses_464 ?_
  refine yf_icmp_ne hX dL_refuses_466 (ya_in rfl) (ya_in rfl) (by decide) ?_
  refine g_aload hX dL_refuses_469 rfl rfl ?_
  refine g_const hX dL_refuses_470 ?_
  refine g_iload hX dL_refuses_472 rfl ?_
  refine g_const hX dL_refuses_474 ?_
  refine g_const hX dL_refuses_475 ?_
  refine g_const hX dL_refuses_476 ?_
  refine l_act hX hst dL_refuses_477 hH hV (ya_in rfl) rn1 (ya_in rfl) (ya_in rfl) (ya_in rfl) (ra9a (fun q => by have q1 := q.1; have q2 := q.2; omega)) (show cs + 10 + 10 + 10 ≤ 2700 by omega) (show ss + 250 + 250 + 250 ≤ 67500 by omega) (by first | exact Nat.le_of_ble_eq_true rfl | simp [cat_rf, Value.category]) (fun A ow τ M sz hH hV => ?_)
  refine g_const hX dL_refuses_480 ?_
  refine yf_icmp_ne hX dL_refuses_482 (ya_in rfl) (ya_in rfl) (by decide) ?_
  refine g_aload hX dL_refuses_485 rfl rfl ?_
  refine g_const hX dL_refuses_486 ?_
  refine g_iload hX dL_refuses_488 rfl ?_
  refine g_const hX dL_refuses_490 ?_
  refine g_const hX dL_refuses_492 ?_
  refine g_const hX dL_refuses_493 ?_
  refine l_act hX hst dL_refuses_494 hH hV (ya_in rfl) rn1 (ya_in rfl) (ya_in rfl) (ya_in rfl) (ra10a (fun q => by have q1 := q.1; have q2 := q.2; omega)) (show cs + 10 + 10 + 10 + 10 ≤ 2700 by omega) (show ss + 250 + 250 + 250 + 250 ≤ 67500 by omega) (by first | exact Nat.le_of_ble_eq_true rfl | simp [cat_rf, Value.category]) (fun A ow τ M sz hH hV => ?_)
  refine g_const hX dL_refuses_497 ?_
  refine yf_icmp_ne hX dL_refuses_499 (ya_in rfl) (ya_in rfl) (by decide) ?_
  refine g_aload hX dL_refuses_502 rfl rfl ?_
  refine g_const hX dL_refuses_503 ?_
  refine g_iload hX dL_refuses_505 rfl ?_
  refine g_const hX dL_refuses_507 ?_
  refine g_const hX dL_refuses_508 ?_
  refine g_const hX dL_refuses_509 ?_
  refine l_act hX hst dL_refuses_510 hH hV (ya_in rfl) (ya_in rfl) (ya_in rfl) (ya_in rfl) (ya_in rfl) (ra11a (by decide +kernel)) (show cs + 10 + 10 + 10 + 10 + 10 ≤ 2700 by omega) (show ss + 250 + 250 + 250 + 250 + 250 ≤ 67500 by omega) (by first | exact Nat.le_of_ble_eq_true rfl | simp [cat_rf, Value.category]) (fun A ow τ M sz hH hV => ?_)
  refine g_const hX dL_refuses_513 ?_
  refine yf_icmp_ne hX dL_refuses_515 (ya_in rfl) (ya_in rfl) (by decide) ?_
  refine g_aload hX dL_refuses_518 rfl rfl ?_
  refine g_const hX dL_refuses_519 ?_
  refine g_iload hX dL_refuses_521 rfl ?_
  refine g_const hX dL_refuses_523 ?_
  refine g_const hX dL_refuses_524 ?_
  refine g_const hX dL_refuses_525 ?_
  refine l_act hX hst dL_refuses_526 hH hV (ya_in rfl) (ya_in rfl) (ya_in rfl) (ya_in rfl) (ya_in rfl) (ra12a (by decide +kernel)) (show cs + 10 + 10 + 10 + 10 + 10 + 10 ≤ 2700 by omega) (show ss + 250 + 250 + 250 + 250 + 250 + 250 ≤ 67500 by omega) (by first | exact Nat.le_of_ble_eq_true rfl | simp [cat_rf, Value.category]) (fun A ow τ M sz hH hV => ?_)
  refine g_const hX dL_refuses_529 ?_
  refine yf_icmp_ne hX dL_refuses_531 (ya_in rfl) (ya_in rfl) (by decide) ?_
  refine g_aload hX dL_refuses_534 rfl rfl ?_
  refine g_const hX dL_refuses_535 ?_
  refine g_iload hX dL_refuses_537 rfl ?_
  refine g_const hX dL_refuses_539 ?_
  refine g_const hX dL_refuses_540 ?_
  refine g_const hX dL_refuses_541 ?_
  refine l_act hX hst dL_refuses_542 hH hV (ya_in rfl) (ya_in rfl) (ya_in rfl) (ya_in rfl) (ya_in rfl) (ra14a (by decide +kernel)) (show cs + 10 + 10 + 10 + 10 + 10 + 10 + 10 ≤ 2700 by omega) (show ss + 250 + 250 + 250 + 250 + 250 + 250 + 250 ≤ 67500 by omega) (by first | exact Nat.le_of_ble_eq_true rfl | simp [cat_rf, Value.category]) (fun A ow τ M sz hH hV => ?_)
  refine g_const hX dL_refuses_545 ?_
  refine yf_icmp_ne hX dL_refuses_547 (ya_in rfl) (ya_in rfl) (by decide) ?_
  refine g_aload hX dL_refuses_550 rfl rfl ?_
  refine g_const hX dL_refuses_551 ?_
  refine g_const hX dL_refuses_553 ?_
  refine g_const hX dL_refuses_554 ?_
  refine g_iload hX dL_refuses_555 rfl ?_
  refine g_const hX dL_refuses_557 ?_
  refine l_act hX hst dL_refuses_558 hH hV (ya_in rfl) (ya_in rfl) (ya_in rfl) (ya_in rfl) (ya_in rfl) (ra14a (by decide +kernel)) (show cs + 10 + 10 + 10 + 10 + 10 + 10 + 10 + 10 ≤ 2700 by omega) (show ss + 250 + 250 + 250 + 250 + 250 + 250 + 250 + 250 ≤ 67500 by omega) (by first | exact Nat.le_of_ble_eq_true rfl | simp [cat_rf, Value.category]) (fun A ow τ M sz hH hV => ?_)
  refine g_const hX dL_refuses_561 ?_
  refine yf_icmp_ne hX dL_refuses_563 (ya_in rfl) (ya_in rfl) (by decide) ?_
  refine g_aload hX dL_refuses_566 rfl rfl ?_
  refine g_const hX dL_refuses_567 ?_
  exact rf_g20 hX hst hR hmt rm9 rn0 rn1 rn2 rn3 hK hH hV (by omega) (by omega)

set_option maxRecDepth 20000 in
theorem rf_g18 {X : hX} (hX : Cok X mL_refuses) (hst : X.1.2.1.stackTraces = false) {M0 : hM} {sz0 : Nat} {K : hK} (hR : Ret X mL_refuses M0 sz0 K) {h : Nat} {σ : SG} {mt : Int} (hmt : metK σ (σ 1 0 0).toNat = mt) (rm9 : inR mt) (rn0 : inR (σ 0 0 0)) (rn1 : inR (σ 1 0 0)) (rn2 : inR (σ 2 0 0)) (rn3 : inR (σ 3 0 0)) (hK : ∀ (A' : Nat → Nat → Nat) (ow' : Nat → Nat × Nat) (τ' : Nat → Nat → Int) (M' : hM) (s9 : Nat), HX X.2.2.2.2.2.2.2.2.2 h A' ow' σ τ' M' → SV σ → K (.inl (some (.int (iZ 1)))) M' s9) {A : Nat → Nat → Nat} {ow : Nat → Nat × Nat} {τ : Nat → Nat → Int} {M : hM} {sz cs ss : Nat} (hH : HX X.2.2.2.2.2.2.2.2.2 h A ow σ τ M) (hV : SV σ) (hc : cs + 1910 ≤ 2700) (hs : ss + 47750 ≤ 67500) : G X 312 [.ref h, .int (iZ (σ 0 0 0)), .int (iZ (σ 1 0 0)), .int (iZ (σ 2 0 0)), .int (iZ (σ 3 0 0)), .int (iZ 2147483647), .int (iZ mt), .int (iZ 1), .int (iZ (-2147483648)), .int (iZ (σ 0 0 0)), .int (iZ (σ 1 0 0)), .int (iZ (σ 2 0 0)), .int (iZ 2400), .int (iZ 2400), .int (iZ 10), .int (iZ 41), .int (iZ 32), .int (iZ 13), .int (iZ 1), .int (iZ 24)] [.int (iZ 0), .int (iZ 40), .int (iZ 41), .int (iZ 1500), .int (iZ 2), .ref h] M sz cs ss := by
  have hn := hV.n
  unfold SVn at hn
  refine l_act hX hst dL_refuses_312 hH hV (ya_in rfl) (ya_in rfl) (ya_in rfl) (ya_in rfl) (ya_in rfl) (ra2a (by decide +kernel)) (show cs + 10 ≤ 2700 by omega) (show ss + 250 ≤ 67500 by omega) (by first | exact Nat.le_of_ble_eq_true rfl | simp [cat_rf, Value.category]) (fun A ow τ M sz hH hV => ?_)
  refine g_const hX dL_refuses_315 ?_
  refine yf_icmp_ne hX dL_refuses_317 (ya_in rfl) (ya_in rfl) (by decide) ?_
  refine g_aload hX dL_refuses_320 rfl rfl ?_
  refine g_const hX dL_refuses_321 ?_
  refine g_const hX dL_refuses_322 ?_
  refine g_const hX dL_refuses_325 ?_
  refine g_iload hX dL_refuses_326 rfl ?_
  refine yt_if_ne hX dL_refuses_328 (ya_in rfl) (by decide) ?_
  refine g_iload hX dL_refuses_335 rfl ?_
  refine g_const hX dL_refuses_337 ?_
  refine l_act hX hst dL_refuses_338 hH hV (ya_in rfl) (ya_in rfl) (ya_in rfl) (ya_in rfl) (ya_in rfl) (ra2a (by decide +kernel)) (show cs + 10 + 10 ≤ 2700 by omega) (show ss + 250 + 250 ≤ 67500 by omega) (by first | exact Nat.le_of_ble_eq_true rfl | simp [cat_rf, Value.category]) (fun A ow τ M sz hH hV => ?_)
  refine g_const hX dL_refuses_341 ?_
  refine yf_icmp_ne hX dL_refuses_343 (ya_in rfl) (ya_in rfl) (by decide) ?_
  refine g_aload hX dL_refuses_346 rfl rfl ?_
  refine g_const hX dL_refuses_347 ?_
  refine g_iload hX dL_refuses_348 rfl ?_
  refine g_const hX dL_refuses_350 ?_
  refine g_const hX dL_refuses_351 ?_
  refine g_const hX dL_refuses_352 ?_
  refine l_act hX hst dL_refuses_353 hH hV (ya_in rfl) rn1 (ya_in rfl) (ya_in rfl) (ya_in rfl) (ra3a (fun q => by have q1 := q.1; have q2 := q.2; omega)) (show cs + 10 + 10 + 10 ≤ 2700 by omega) (show ss + 250 + 250 + 250 ≤ 67500 by omega) (by first | exact Nat.le_of_ble_eq_true rfl | simp [cat_rf, Value.category]) (fun A ow τ M sz hH hV => ?_)
  refine g_const hX dL_refuses_356 ?_
  refine yf_icmp_ne hX dL_refuses_358 (ya_in rfl) (ya_in rfl) (by decide) ?_
  refine g_aload hX dL_refuses_361 rfl rfl ?_
  refine g_const hX dL_refuses_362 ?_
  refine g_iload hX dL_refuses_363 rfl ?_
  refine g_const hX dL_refuses_365 ?_
  refine g_const hX dL_refuses_366 ?_
  refine g_const hX dL_refuses_367 ?_
  refine l_act hX hst dL_refuses_368 hH hV (ya_in rfl) rn0 (ya_in rfl) (ya_in rfl) (ya_in rfl) (ra4a (fun q => by have q1 := q.1.1; have q2 := q.1.2; omega)) (show cs + 10 + 10 + 10 + 10 ≤ 2700 by omega) (show ss + 250 + 250 + 250 + 250 ≤ 67500 by omega) (by first | exact Nat.le_of_ble_eq_true rfl | simp [cat_rf, Value.category]) (fun A ow τ M sz hH hV => ?_)
  refine g_const hX dL_refuses_371 ?_
  refine yf_icmp_ne hX dL_refuses_373 (ya_in rfl) (ya_in rfl) (by decide) ?_
  refine g_aload hX dL_refuses_376 rfl rfl ?_
  refine g_const hX dL_refuses_377 ?_
  refine g_const hX dL_refuses_378 ?_
  refine g_iload hX dL_refuses_379 rfl ?_
  refine g_const hX dL_refuses_381 ?_
  refine g_const hX dL_refuses_382 ?_
  refine l_act hX hst dL_refuses_383 hH hV (ya_in rfl) (ya_in rfl) rn1 (ya_in rfl) (ya_in rfl) (ra4a (fun q => by have q1 := q.2.1; have q2 := q.2.2; omega)) (show cs + 10 + 10 + 10 + 10 + 10 ≤ 2700 by omega) (show ss + 250 + 250 + 250 + 250 + 250 ≤ 67500 by omega) (by first | exact Nat.le_of_ble_eq_true rfl | simp [cat_rf, Value.category]) (fun A ow τ M sz hH hV => ?_)
  refine g_const hX dL_refuses_386 ?_
  refine yf_icmp_ne hX dL_refuses_388 (ya_in rfl) (ya_in rfl) (by decide) ?_
  refine g_aload hX dL_refuses_391 rfl rfl ?_
  refine g_const hX dL_refuses_392 ?_
  refine g_iload hX dL_refuses_393 rfl ?_
  refine g_const hX dL_refuses_395 ?_
  refine g_const hX dL_refuses_396 ?_
  refine g_const hX dL_refuses_397 ?_
  refine l_act hX hst dL_refuses_398 hH hV (ya_in rfl) rn0 (ya_in rfl) (ya_in rfl) (ya_in rfl) (ra5a (fun q => by have q1 := q.1.1; have q2 := q.1.2; omega)) (show cs + 10 + 10 + 10 + 10 + 10 + 10 ≤ 2700 by omega) (show ss + 250 + 250 + 250 + 250 + 250 + 250 ≤ 67500 by omega) (by first | exact Nat.le_of_ble_eq_true rfl | simp [cat_rf, Value.category]) (fun A ow τ M sz hH hV => ?_)
  refine g_const hX dL_refuses_401 ?_
  refine yf_icmp_ne hX dL_refuses_403 (ya_in rfl) (ya_in rfl) (by decide) ?_
  refine g_aload hX dL_refuses_406 rfl rfl ?_
  refine g_const hX dL_refuses_407 ?_
  refine g_const hX dL_refuses_408 ?_
  refine g_iload hX dL_refuses_409 rfl ?_
  refine g_const hX dL_refuses_411 ?_
  refine g_const hX dL_refuses_412 ?_
  refine l_act hX hst dL_refuses_413 hH hV (ya_in rfl) (ya_in rfl) rn1 (ya_in rfl) (ya_in rfl) (ra5a (fun q => by have q1 := q.2.1; have q2 := q.2.2; omega)) (show cs + 10 + 10 + 10 + 10 + 10 + 10 + 10 ≤ 2700 by omega) (show ss + 250 + 250 + 250 + 250 + 250 + 250 + 250 ≤ 67500 by omega) (by first | exact Nat.le_of_ble_eq_true rfl | simp [cat_rf, Value.category]) (fun A ow τ M sz hH hV => ?_)
  refine g_const hX dL_refuses_416 ?_
  refine yf_icmp_ne hX dL_refuses_418 (ya_in rfl) (ya_in rfl) (by decide) ?_
  refine g_aload hX dL_refuses_421 rfl rfl ?_
  refine g_const hX dL_refuses_422 ?_
  refine g_iload hX dL_refuses_424 rfl ?_
  refine g_const hX dL_refuses_426 ?_
  refine g_const hX dL_refuses_427 ?_
  refine g_const hX dL_refuses_428 ?_
  refine l_act hX hst dL_refuses_429 hH hV (ya_in rfl) rn0 (ya_in rfl) (ya_in rfl) (ya_in rfl) (ra6a (fun q => by have q1 := q.1; have q2 := q.2; omega)) (show cs + 10 + 10 + 10 + 10 + 10 + 10 + 10 + 10 ≤ 2700 by omega) (show ss + 250 + 250 + 250 + 250 + 250 + 250 + 250 + 250 ≤ 67500 by omega) (by first | exact Nat.le_of_ble_eq_true rfl | simp [cat_rf, Value.category]) (fun A ow τ M sz hH hV => ?_)
  refine g_const hX dL_refuses_432 ?_
  refine yf_icmp_ne hX dL_refuses_434 (ya_in rfl) (ya_in rfl) (by decide) ?_
  refine g_aload hX dL_refuses_437 rfl rfl ?_
  refine g_const hX dL_refuses_438 ?_
  refine g_iload hX dL_refuses_440 rfl ?_
  exact rf_g19 hX hst hR hmt rm9 rn0 rn1 rn2 rn3 hK hH hV (by omega) (by omega)

set_option maxRecDepth 20000 in
theorem rf_g17 {X : hX} (hX : Cok X mL_refuses) (hst : X.1.2.1.stackTraces = false) {M0 : hM} {sz0 : Nat} {K : hK} (hR : Ret X mL_refuses M0 sz0 K) {h : Nat} {σ : SG} {mt : Int} (hmt : metK σ (σ 1 0 0).toNat = mt) (rm9 : inR mt) (rn0 : inR (σ 0 0 0)) (rn1 : inR (σ 1 0 0)) (rn2 : inR (σ 2 0 0)) (rn3 : inR (σ 3 0 0)) (hK : ∀ (A' : Nat → Nat → Nat) (ow' : Nat → Nat × Nat) (τ' : Nat → Nat → Int) (M' : hM) (s9 : Nat), HX X.2.2.2.2.2.2.2.2.2 h A' ow' σ τ' M' → SV σ → K (.inl (some (.int (iZ 1)))) M' s9) {A : Nat → Nat → Nat} {ow : Nat → Nat × Nat} {τ : Nat → Nat → Int} {M : hM} {sz cs ss : Nat} (hH : HX X.2.2.2.2.2.2.2.2.2 h A ow σ τ M) (hV : SV σ) (hc : cs + 1950 ≤ 2700) (hs : ss + 48750 ≤ 67500) : G X 166 [.ref h, .int (iZ (σ 0 0 0)), .int (iZ (σ 1 0 0)), .int (iZ (σ 2 0 0)), .int (iZ (σ 3 0 0)), .int (iZ 2147483647), .int (iZ mt), .int (iZ 1), .int (iZ (-2147483648)), .int (iZ (σ 0 0 0)), .int (iZ (σ 1 0 0)), .int (iZ (σ 2 0 0)), .int (iZ 2400), .int (iZ 2400), .int (iZ 10), .int (iZ (-1)), .int (iZ 0), .int (iZ 0), .int (iZ 1), .int (iZ 24)] [] M sz cs ss := by
  have hn := hV.n
  unfold SVn at hn
  refine g_iload hX dL_refuses_166 rfl ?_
  refine g_const hX dL_refuses_168 ?_
  refine yf_icmp_ne hX dL_refuses_169 (ya_in rfl) (ya_in rfl) (by decide) ?_
  refine g_const hX dL_refuses_172 ?_
  refine g_goto hX dL_refuses_174 ?_
  refine g_istore hX dL_refuses_179 ?_
  dsimp only [List.set]
  refine g_iload hX dL_refuses_181 rfl ?_
  refine yt_if_ne hX dL_refuses_183 (ya_in rfl) (by decide) ?_
  refine g_iload hX dL_refuses_190 rfl ?_
  refine g_const hX dL_refuses_192 ?_
  refine yf_icmp_ne hX dL_refuses_193 (ya_in rfl) (ya_in rfl) (by decide) ?_
  refine g_const hX dL_refuses_196 ?_
  refine g_goto hX dL_refuses_198 ?_
  refine g_istore hX dL_refuses_203 ?_
  dsimp only [List.set]
  refine g_iload hX dL_refuses_205 rfl ?_
  refine yt_if_ne hX dL_refuses_207 (ya_in rfl) (by decide) ?_
  refine g_iload hX dL_refuses_214 rfl ?_
  refine g_const hX dL_refuses_216 ?_
  refine yf_icmp_ne hX dL_refuses_217 (ya_in rfl) (ya_in rfl) (by decide) ?_
  refine g_const hX dL_refuses_220 ?_
  refine g_goto hX dL_refuses_222 ?_
  refine g_istore hX dL_refuses_227 ?_
  dsimp only [List.set]
  refine g_aload hX dL_refuses_229 rfl rfl ?_
  refine g_const hX dL_refuses_230 ?_
  refine g_iload hX dL_refuses_231 rfl ?_
  refine g_const hX dL_refuses_233 ?_
  refine g_const hX dL_refuses_234 ?_
  refine g_const hX dL_refuses_235 ?_
  refine l_act hX hst dL_refuses_236 hH hV (ya_in rfl) (ya_in rfl) (ya_in rfl) (ya_in rfl) (ya_in rfl) (ra0a (by decide +kernel)) (show cs + 10 ≤ 2700 by omega) (show ss + 250 ≤ 67500 by omega) (by first | exact Nat.le_of_ble_eq_true rfl | simp [cat_rf, Value.category]) (fun A ow τ M sz hH hV => ?_)
  refine g_const hX dL_refuses_239 ?_
  refine yf_icmp_ne hX dL_refuses_241 (ya_in rfl) (ya_in rfl) (by decide) ?_
  refine g_aload hX dL_refuses_244 rfl rfl ?_
  refine g_const hX dL_refuses_245 ?_
  refine g_const hX dL_refuses_246 ?_
  refine g_iload hX dL_refuses_249 rfl ?_
  refine g_const hX dL_refuses_251 ?_
  refine yf_icmp_ne hX dL_refuses_252 (ya_in rfl) (ya_in rfl) (by decide) ?_
  refine g_const hX dL_refuses_255 ?_
  refine g_goto hX dL_refuses_257 ?_
  refine g_const hX dL_refuses_262 ?_
  refine g_const hX dL_refuses_263 ?_
  refine l_act hX hst dL_refuses_264 hH hV (ya_in rfl) (ya_in rfl) (ya_in rfl) (ya_in rfl) (ya_in rfl) (ra0a (by decide +kernel)) (show cs + 10 + 10 ≤ 2700 by omega) (show ss + 250 + 250 ≤ 67500 by omega) (by first | exact Nat.le_of_ble_eq_true rfl | simp [cat_rf, Value.category]) (fun A ow τ M sz hH hV => ?_)
  refine g_const hX dL_refuses_267 ?_
  refine yf_icmp_ne hX dL_refuses_269 (ya_in rfl) (ya_in rfl) (by decide) ?_
  refine g_aload hX dL_refuses_272 rfl rfl ?_
  refine g_const hX dL_refuses_273 ?_
  refine g_iload hX dL_refuses_274 rfl ?_
  refine g_const hX dL_refuses_276 ?_
  refine g_const hX dL_refuses_277 ?_
  refine g_const hX dL_refuses_278 ?_
  refine l_act hX hst dL_refuses_279 hH hV (ya_in rfl) rn0 (ya_in rfl) (ya_in rfl) (ya_in rfl) (ra1a (fun q => by have q1 := q.1; have q2 := q.2; omega)) (show cs + 10 + 10 + 10 ≤ 2700 by omega) (show ss + 250 + 250 + 250 ≤ 67500 by omega) (by first | exact Nat.le_of_ble_eq_true rfl | simp [cat_rf, Value.category]) (fun A ow τ M sz hH hV => ?_)
  refine g_const hX dL_refuses_282 ?_
  refine yf_icmp_ne hX dL_refuses_284 (ya_in rfl) (ya_in rfl) (by decide) ?_
  refine g_aload hX dL_refuses_287 rfl rfl ?_
  refine g_const hX dL_refuses_288 ?_
  refine g_iload hX dL_refuses_289 rfl ?_
  refine g_const hX dL_refuses_291 ?_
  refine g_const hX dL_refuses_292 ?_
  refine g_const hX dL_refuses_293 ?_
  refine l_act hX hst dL_refuses_294 hH hV (ya_in rfl) (ya_in rfl) (ya_in rfl) (ya_in rfl) (ya_in rfl) (ra2a (by decide +kernel)) (show cs + 10 + 10 + 10 + 10 ≤ 2700 by omega) (show ss + 250 + 250 + 250 + 250 ≤ 67500 by omega) (by first | exact Nat.le_of_ble_eq_true rfl | simp [cat_rf, Value.category]) (fun A ow τ M sz hH hV => ?_)
  refine g_const hX dL_refuses_297 ?_
  refine yf_icmp_ne hX dL_refuses_299 (ya_in rfl) (ya_in rfl) (by decide) ?_
  refine g_aload hX dL_refuses_302 rfl rfl ?_
  refine g_const hX dL_refuses_303 ?_
  refine g_const hX dL_refuses_304 ?_
  refine g_iload hX dL_refuses_307 rfl ?_
  refine g_const hX dL_refuses_309 ?_
  refine g_const hX dL_refuses_311 ?_
  exact rf_g18 hX hst hR hmt rm9 rn0 rn1 rn2 rn3 hK hH hV (by omega) (by omega)

set_option maxRecDepth 20000 in
theorem rf_g16 {X : hX} (hX : Cok X mL_refuses) (hst : X.1.2.1.stackTraces = false) {M0 : hM} {sz0 : Nat} {K : hK} (hR : Ret X mL_refuses M0 sz0 K) {h : Nat} {σ : SG} {mt : Int} (hmt : metK σ (σ 1 0 0).toNat = mt) (rm9 : inR mt) (rn0 : inR (σ 0 0 0)) (rn1 : inR (σ 1 0 0)) (rn2 : inR (σ 2 0 0)) (rn3 : inR (σ 3 0 0)) (hK : ∀ (A' : Nat → Nat → Nat) (ow' : Nat → Nat × Nat) (τ' : Nat → Nat → Int) (M' : hM) (s9 : Nat), HX X.2.2.2.2.2.2.2.2.2 h A' ow' σ τ' M' → SV σ → K (.inl (some (.int (iZ 1)))) M' s9) {A : Nat → Nat → Nat} {ow : Nat → Nat × Nat} {τ : Nat → Nat → Int} {M : hM} {sz cs ss : Nat} (hH : HX X.2.2.2.2.2.2.2.2.2 h A ow σ τ M) (hV : SV σ) (hc : cs + 1950 ≤ 2700) (hs : ss + 48750 ≤ 67500) : G X 1307 [.ref h, .int (iZ (σ 0 0 0)), .int (iZ (σ 1 0 0)), .int (iZ (σ 2 0 0)), .int (iZ (σ 3 0 0)), .int (iZ 2147483647), .int (iZ mt), .int (iZ 0), .int (iZ (-1)), .int (iZ (-1)), .int (iZ (-1)), .int (iZ (-1)), .int (iZ 1599), .int (iZ 1499), .int (iZ 0), .int (iZ (-1)), .int (iZ 0), .int (iZ 0), .int (iZ 1), .int (iZ 24)] [] M sz cs ss := by
  have hn := hV.n
  unfold SVn at hn
  refine g_const hX dL_refuses_1307 ?_
  refine g_goto hX dL_refuses_1308 ?_
  refine g_istore hX dL_refuses_1312 ?_
  dsimp only [List.set]
  refine g_iload hX dL_refuses_1314 rfl ?_
  refine yt_if_ne hX dL_refuses_1316 (ya_in rfl) (by decide) ?_
  refine y_iinc (c := 1) hX dL_refuses_1321 rfl (by decide) ?_
  dsimp only [List.set]
  refine g_goto hX dL_refuses_1324 ?_
  refine g_iload hX dL_refuses_13 rfl ?_
  refine g_const hX dL_refuses_15 ?_
  refine yf_icmp_ge hX dL_refuses_16 (ya_in rfl) (ya_in rfl) (by decide) ?_
  refine g_iload hX dL_refuses_19 rfl ?_
  refine yt_if_ne hX dL_refuses_21 (ya_in rfl) (by decide) ?_
  refine g_iload hX dL_refuses_28 rfl ?_
  refine g_const hX dL_refuses_30 ?_
  refine yt_icmp_ne hX dL_refuses_31 (ya_in rfl) (ya_in rfl) (by decide) ?_
  refine g_iload hX dL_refuses_39 rfl ?_
  refine y_ineg (c := (-2147483647)) hX dL_refuses_41 (by decide) ?_
  refine g_const hX dL_refuses_42 ?_
  refine y_isub (c := (-2147483648)) hX dL_refuses_43 (by decide) ?_
  refine g_istore hX dL_refuses_44 ?_
  dsimp only [List.set]
  refine g_iload hX dL_refuses_46 rfl ?_
  refine g_const hX dL_refuses_48 ?_
  refine yf_icmp_ne hX dL_refuses_49 (ya_in rfl) (ya_in rfl) (by decide) ?_
  refine g_iload hX dL_refuses_52 rfl ?_
  refine g_goto hX dL_refuses_53 ?_
  refine g_istore hX dL_refuses_58 ?_
  dsimp only [List.set]
  refine g_iload hX dL_refuses_60 rfl ?_
  refine g_const hX dL_refuses_62 ?_
  refine yf_icmp_ne hX dL_refuses_63 (ya_in rfl) (ya_in rfl) (by decide) ?_
  refine g_iload hX dL_refuses_66 rfl ?_
  refine g_goto hX dL_refuses_67 ?_
  refine g_istore hX dL_refuses_72 ?_
  dsimp only [List.set]
  refine g_iload hX dL_refuses_74 rfl ?_
  refine g_const hX dL_refuses_76 ?_
  refine yf_icmp_ne hX dL_refuses_77 (ya_in rfl) (ya_in rfl) (by decide) ?_
  refine g_iload hX dL_refuses_80 rfl ?_
  refine g_goto hX dL_refuses_81 ?_
  refine g_istore hX dL_refuses_86 ?_
  dsimp only [List.set]
  refine g_iload hX dL_refuses_88 rfl ?_
  refine yt_if_ne hX dL_refuses_90 (ya_in rfl) (by decide) ?_
  refine g_iload hX dL_refuses_99 rfl ?_
  refine g_const hX dL_refuses_101 ?_
  refine yf_icmp_ne hX dL_refuses_102 (ya_in rfl) (ya_in rfl) (by decide) ?_
  refine g_const hX dL_refuses_105 ?_
  refine g_goto hX dL_refuses_108 ?_
  refine g_istore hX dL_refuses_113 ?_
  dsimp only [List.set]
  refine g_iload hX dL_refuses_115 rfl ?_
  refine yt_if_ne hX dL_refuses_117 (ya_in rfl) (by decide) ?_
  refine g_iload hX dL_refuses_126 rfl ?_
  refine g_const hX dL_refuses_128 ?_
  refine yf_icmp_ne hX dL_refuses_129 (ya_in rfl) (ya_in rfl) (by decide) ?_
  refine g_const hX dL_refuses_132 ?_
  refine g_goto hX dL_refuses_135 ?_
  refine g_istore hX dL_refuses_140 ?_
  dsimp only [List.set]
  refine g_iload hX dL_refuses_142 rfl ?_
  refine yt_if_ne hX dL_refuses_144 (ya_in rfl) (by decide) ?_
  refine g_iload hX dL_refuses_151 rfl ?_
  refine g_const hX dL_refuses_153 ?_
  refine yf_icmp_ne hX dL_refuses_154 (ya_in rfl) (ya_in rfl) (by decide) ?_
  refine g_const hX dL_refuses_157 ?_
  refine g_goto hX dL_refuses_159 ?_
  refine g_istore hX dL_refuses_164 ?_
  dsimp only [List.set]
  exact rf_g17 hX hst hR hmt rm9 rn0 rn1 rn2 rn3 hK hH hV (by omega) (by omega)

set_option maxRecDepth 20000 in
theorem rf_g15 {X : hX} (hX : Cok X mL_refuses) (hst : X.1.2.1.stackTraces = false) {M0 : hM} {sz0 : Nat} {K : hK} (hR : Ret X mL_refuses M0 sz0 K) {h : Nat} {σ : SG} {mt : Int} (hmt : metK σ (σ 1 0 0).toNat = mt) (rm9 : inR mt) (rn0 : inR (σ 0 0 0)) (rn1 : inR (σ 1 0 0)) (rn2 : inR (σ 2 0 0)) (rn3 : inR (σ 3 0 0)) (hK : ∀ (A' : Nat → Nat → Nat) (ow' : Nat → Nat × Nat) (τ' : Nat → Nat → Int) (M' : hM) (s9 : Nat), HX X.2.2.2.2.2.2.2.2.2 h A' ow' σ τ' M' → SV σ → K (.inl (some (.int (iZ 1)))) M' s9) {A : Nat → Nat → Nat} {ow : Nat → Nat × Nat} {τ : Nat → Nat → Int} {M : hM} {sz cs ss : Nat} (hH : HX X.2.2.2.2.2.2.2.2.2 h A ow σ τ M) (hV : SV σ) (hc : cs + 1990 ≤ 2700) (hs : ss + 49750 ≤ 67500) : G X 1184 [.ref h, .int (iZ (σ 0 0 0)), .int (iZ (σ 1 0 0)), .int (iZ (σ 2 0 0)), .int (iZ (σ 3 0 0)), .int (iZ 2147483647), .int (iZ mt), .int (iZ 0), .int (iZ (-1)), .int (iZ (-1)), .int (iZ (-1)), .int (iZ (-1)), .int (iZ 1599), .int (iZ 1499), .int (iZ 0), .int (iZ (-1)), .int (iZ 0), .int (iZ 0), .int (iZ 1), .int (iZ 24)] [] M sz cs ss := by
  have hn := hV.n
  unfold SVn at hn
  refine g_const hX dL_refuses_1184 ?_
  refine g_goto hX dL_refuses_1185 ?_
  refine g_istore hX dL_refuses_1189 ?_
  dsimp only [List.set]
  refine g_iload hX dL_refuses_1191 rfl ?_
  refine yf_if_eq hX dL_refuses_1193 (ya_in rfl) (by decide) ?_
  refine g_iload hX dL_refuses_1196 rfl ?_
  refine z_if_eq hX dL_refuses_1197 rn1 (fun c9 => ?_) (fun c9 => ?_)
  · exact rf_g16 hX hst hR hmt rm9 rn0 rn1 rn2 rn3 hK hH hV (by omega) (by omega)
  refine g_aload hX dL_refuses_1200 rfl rfl ?_
  refine g_const hX dL_refuses_1201 ?_
  refine g_const hX dL_refuses_1202 ?_
  refine g_iload hX dL_refuses_1203 rfl ?_
  refine yf_if_ne hX dL_refuses_1205 (ya_in rfl) (by decide) ?_
  refine g_const hX dL_refuses_1208 ?_
  refine g_goto hX dL_refuses_1209 ?_
  refine g_const hX dL_refuses_1225 ?_
  refine g_const hX dL_refuses_1226 ?_
  refine l_act hX hst dL_refuses_1227 hH hV (ya_in rfl) (ya_in rfl) (ya_in rfl) (ya_in rfl) (ya_in rfl) (ra3b ⟨by omega, by omega⟩ (by decide +kernel)) (show cs + 10 ≤ 2700 by omega) (show ss + 250 ≤ 67500 by omega) (by first | exact Nat.le_of_ble_eq_true rfl | simp [cat_rf, Value.category]) (fun A ow τ M sz hH hV => ?_)
  refine g_const hX dL_refuses_1230 ?_
  refine yf_icmp_ne hX dL_refuses_1232 (ya_in rfl) (ya_in rfl) (by decide) ?_
  refine g_aload hX dL_refuses_1235 rfl rfl ?_
  refine g_const hX dL_refuses_1236 ?_
  refine g_const hX dL_refuses_1237 ?_
  refine g_const hX dL_refuses_1238 ?_
  refine g_iload hX dL_refuses_1240 rfl ?_
  refine g_const hX dL_refuses_1242 ?_
  refine yt_icmp_ne hX dL_refuses_1243 (ya_in rfl) (ya_in rfl) (by decide) ?_
  refine g_iload hX dL_refuses_1252 rfl ?_
  refine g_const hX dL_refuses_1254 ?_
  refine l_act hX hst dL_refuses_1255 hH hV (ya_in rfl) (ya_in rfl) (ya_in rfl) (ya_in rfl) (ya_in rfl) (ra3b ⟨by omega, by omega⟩ (by decide +kernel)) (show cs + 10 + 10 ≤ 2700 by omega) (show ss + 250 + 250 ≤ 67500 by omega) (by first | exact Nat.le_of_ble_eq_true rfl | simp [cat_rf, Value.category]) (fun A ow τ M sz hH hV => ?_)
  refine g_const hX dL_refuses_1258 ?_
  refine yf_icmp_ne hX dL_refuses_1260 (ya_in rfl) (ya_in rfl) (by decide) ?_
  refine g_aload hX dL_refuses_1263 rfl rfl ?_
  refine g_const hX dL_refuses_1264 ?_
  refine g_const hX dL_refuses_1266 ?_
  refine g_iload hX dL_refuses_1267 rfl ?_
  refine g_const hX dL_refuses_1269 ?_
  refine g_const hX dL_refuses_1271 ?_
  refine l_act hX hst dL_refuses_1272 hH hV (ya_in rfl) (ya_in rfl) (ya_in rfl) (ya_in rfl) (ya_in rfl) (ra10b ⟨by omega, by omega⟩ (by decide +kernel)) (show cs + 10 + 10 + 10 ≤ 2700 by omega) (show ss + 250 + 250 + 250 ≤ 67500 by omega) (by first | exact Nat.le_of_ble_eq_true rfl | simp [cat_rf, Value.category]) (fun A ow τ M sz hH hV => ?_)
  refine g_const hX dL_refuses_1275 ?_
  refine yf_icmp_ne hX dL_refuses_1277 (ya_in rfl) (ya_in rfl) (by decide) ?_
  refine g_aload hX dL_refuses_1280 rfl rfl ?_
  refine g_const hX dL_refuses_1281 ?_
  refine g_const hX dL_refuses_1283 ?_
  refine g_const hX dL_refuses_1284 ?_
  refine g_iload hX dL_refuses_1286 rfl ?_
  refine yf_if_ne hX dL_refuses_1288 (ya_in rfl) (by decide) ?_
  refine g_const hX dL_refuses_1291 ?_
  refine g_goto hX dL_refuses_1293 ?_
  refine g_const hX dL_refuses_1298 ?_
  refine l_act hX hst dL_refuses_1299 hH hV (ya_in rfl) (ya_in rfl) (ya_in rfl) (ya_in rfl) (ya_in rfl) (ra10b ⟨by omega, by omega⟩ (by decide +kernel)) (show cs + 10 + 10 + 10 + 10 ≤ 2700 by omega) (show ss + 250 + 250 + 250 + 250 ≤ 67500 by omega) (by first | exact Nat.le_of_ble_eq_true rfl | simp [cat_rf, Value.category]) (fun A ow τ M sz hH hV => ?_)
  refine g_const hX dL_refuses_1302 ?_
  refine yf_icmp_ne hX dL_refuses_1304 (ya_in rfl) (ya_in rfl) (by decide) ?_
  exact rf_g16 hX hst hR hmt rm9 rn0 rn1 rn2 rn3 hK hH hV (by omega) (by omega)

set_option maxRecDepth 20000 in
theorem rf_g14 {X : hX} (hX : Cok X mL_refuses) (hst : X.1.2.1.stackTraces = false) {M0 : hM} {sz0 : Nat} {K : hK} (hR : Ret X mL_refuses M0 sz0 K) {h : Nat} {σ : SG} {mt : Int} (hmt : metK σ (σ 1 0 0).toNat = mt) (rm9 : inR mt) (rn0 : inR (σ 0 0 0)) (rn1 : inR (σ 1 0 0)) (rn2 : inR (σ 2 0 0)) (rn3 : inR (σ 3 0 0)) (hK : ∀ (A' : Nat → Nat → Nat) (ow' : Nat → Nat × Nat) (τ' : Nat → Nat → Int) (M' : hM) (s9 : Nat), HX X.2.2.2.2.2.2.2.2.2 h A' ow' σ τ' M' → SV σ → K (.inl (some (.int (iZ 1)))) M' s9) {A : Nat → Nat → Nat} {ow : Nat → Nat × Nat} {τ : Nat → Nat → Int} {M : hM} {sz cs ss : Nat} (hH : HX X.2.2.2.2.2.2.2.2.2 h A ow σ τ M) (hV : SV σ) (hc : cs + 2030 ≤ 2700) (hs : ss + 50750 ≤ 67500) : G X 1073 [.ref h, .int (iZ (σ 0 0 0)), .int (iZ (σ 1 0 0)), .int (iZ (σ 2 0 0)), .int (iZ (σ 3 0 0)), .int (iZ 2147483647), .int (iZ mt), .int (iZ 0), .int (iZ (-1)), .int (iZ (-1)), .int (iZ (-1)), .int (iZ (-1)), .int (iZ 1599), .int (iZ 1499), .int (iZ 0), .int (iZ (-1)), .int (iZ 0), .int (iZ 0), .int (iZ 1), .int (iZ 24)] [] M sz cs ss := by
  have hn := hV.n
  unfold SVn at hn
  refine g_const hX dL_refuses_1073 ?_
  refine g_goto hX dL_refuses_1074 ?_
  refine g_istore hX dL_refuses_1078 ?_
  dsimp only [List.set]
  refine g_iload hX dL_refuses_1080 rfl ?_
  refine yf_if_eq hX dL_refuses_1082 (ya_in rfl) (by decide) ?_
  refine g_iload hX dL_refuses_1085 rfl ?_
  refine z_if_eq hX dL_refuses_1086 rn0 (fun c9 => ?_) (fun c9 => ?_)
  · exact rf_g15 hX hst hR hmt rm9 rn0 rn1 rn2 rn3 hK hH hV (by omega) (by omega)
  refine g_aload hX dL_refuses_1089 rfl rfl ?_
  refine g_const hX dL_refuses_1090 ?_
  refine g_const hX dL_refuses_1091 ?_
  refine g_iload hX dL_refuses_1092 rfl ?_
  refine yf_if_ne hX dL_refuses_1094 (ya_in rfl) (by decide) ?_
  refine g_const hX dL_refuses_1097 ?_
  refine g_goto hX dL_refuses_1098 ?_
  refine g_const hX dL_refuses_1114 ?_
  refine g_const hX dL_refuses_1115 ?_
  refine l_act hX hst dL_refuses_1116 hH hV (ya_in rfl) (ya_in rfl) (ya_in rfl) (ya_in rfl) (ya_in rfl) (ra1b ⟨by omega, by omega⟩ (by decide +kernel)) (show cs + 10 ≤ 2700 by omega) (show ss + 250 ≤ 67500 by omega) (by first | exact Nat.le_of_ble_eq_true rfl | simp [cat_rf, Value.category]) (fun A ow τ M sz hH hV => ?_)
  refine g_const hX dL_refuses_1119 ?_
  refine yf_icmp_ne hX dL_refuses_1121 (ya_in rfl) (ya_in rfl) (by decide) ?_
  refine g_aload hX dL_refuses_1124 rfl rfl ?_
  refine g_const hX dL_refuses_1125 ?_
  refine g_const hX dL_refuses_1126 ?_
  refine g_const hX dL_refuses_1127 ?_
  refine g_iload hX dL_refuses_1128 rfl ?_
  refine g_const hX dL_refuses_1130 ?_
  refine yt_icmp_ne hX dL_refuses_1131 (ya_in rfl) (ya_in rfl) (by decide) ?_
  refine g_iload hX dL_refuses_1139 rfl ?_
  refine g_const hX dL_refuses_1141 ?_
  refine l_act hX hst dL_refuses_1142 hH hV (ya_in rfl) (ya_in rfl) (ya_in rfl) (ya_in rfl) (ya_in rfl) (ra1b ⟨by omega, by omega⟩ (by decide +kernel)) (show cs + 10 + 10 ≤ 2700 by omega) (show ss + 250 + 250 ≤ 67500 by omega) (by first | exact Nat.le_of_ble_eq_true rfl | simp [cat_rf, Value.category]) (fun A ow τ M sz hH hV => ?_)
  refine g_const hX dL_refuses_1145 ?_
  refine yf_icmp_ne hX dL_refuses_1147 (ya_in rfl) (ya_in rfl) (by decide) ?_
  refine g_aload hX dL_refuses_1150 rfl rfl ?_
  refine g_const hX dL_refuses_1151 ?_
  refine g_const hX dL_refuses_1153 ?_
  refine g_iload hX dL_refuses_1154 rfl ?_
  refine g_const hX dL_refuses_1156 ?_
  refine g_const hX dL_refuses_1157 ?_
  refine l_act hX hst dL_refuses_1158 hH hV (ya_in rfl) (ya_in rfl) (ya_in rfl) (ya_in rfl) (ya_in rfl) (ra22b ⟨by omega, by omega⟩ (by decide +kernel)) (show cs + 10 + 10 + 10 ≤ 2700 by omega) (show ss + 250 + 250 + 250 ≤ 67500 by omega) (by first | exact Nat.le_of_ble_eq_true rfl | simp [cat_rf, Value.category]) (fun A ow τ M sz hH hV => ?_)
  refine g_const hX dL_refuses_1161 ?_
  refine yf_icmp_ne hX dL_refuses_1163 (ya_in rfl) (ya_in rfl) (by decide) ?_
  refine g_aload hX dL_refuses_1166 rfl rfl ?_
  refine g_const hX dL_refuses_1167 ?_
  refine g_const hX dL_refuses_1169 ?_
  refine g_const hX dL_refuses_1170 ?_
  refine g_const hX dL_refuses_1173 ?_
  refine g_const hX dL_refuses_1174 ?_
  refine l_act hX hst dL_refuses_1176 hH hV (ya_in rfl) (ya_in rfl) (ya_in rfl) (ya_in rfl) (ya_in rfl) (ra22b ⟨by omega, by omega⟩ (by decide +kernel)) (show cs + 10 + 10 + 10 + 10 ≤ 2700 by omega) (show ss + 250 + 250 + 250 + 250 ≤ 67500 by omega) (by first | exact Nat.le_of_ble_eq_true rfl | simp [cat_rf, Value.category]) (fun A ow τ M sz hH hV => ?_)
  refine g_const hX dL_refuses_1179 ?_
  refine yf_icmp_ne hX dL_refuses_1181 (ya_in rfl) (ya_in rfl) (by decide) ?_
  exact rf_g15 hX hst hR hmt rm9 rn0 rn1 rn2 rn3 hK hH hV (by omega) (by omega)

set_option maxRecDepth 20000 in
theorem rf_g13 {X : hX} (hX : Cok X mL_refuses) (hst : X.1.2.1.stackTraces = false) {M0 : hM} {sz0 : Nat} {K : hK} (hR : Ret X mL_refuses M0 sz0 K) {h : Nat} {σ : SG} {mt : Int} (hmt : metK σ (σ 1 0 0).toNat = mt) (rm9 : inR mt) (rn0 : inR (σ 0 0 0)) (rn1 : inR (σ 1 0 0)) (rn2 : inR (σ 2 0 0)) (rn3 : inR (σ 3 0 0)) (hK : ∀ (A' : Nat → Nat → Nat) (ow' : Nat → Nat × Nat) (τ' : Nat → Nat → Int) (M' : hM) (s9 : Nat), HX X.2.2.2.2.2.2.2.2.2 h A' ow' σ τ' M' → SV σ → K (.inl (some (.int (iZ 1)))) M' s9) {A : Nat → Nat → Nat} {ow : Nat → Nat × Nat} {τ : Nat → Nat → Int} {M : hM} {sz cs ss : Nat} (hH : HX X.2.2.2.2.2.2.2.2.2 h A ow σ τ M) (hV : SV σ) (hc : cs + 2060 ≤ 2700) (hs : ss + 51500 ≤ 67500) : G X 999 [.ref h, .int (iZ (σ 0 0 0)), .int (iZ (σ 1 0 0)), .int (iZ (σ 2 0 0)), .int (iZ (σ 3 0 0)), .int (iZ 2147483647), .int (iZ mt), .int (iZ 0), .int (iZ (-1)), .int (iZ (-1)), .int (iZ (-1)), .int (iZ (-1)), .int (iZ 1599), .int (iZ 1499), .int (iZ 0), .int (iZ (-1)), .int (iZ 0), .int (iZ 0), .int (iZ 1), .int (iZ 24)] [.ref h] M sz cs ss := by
  have hn := hV.n
  unfold SVn at hn
  refine g_const hX dL_refuses_999 ?_
  refine g_iload hX dL_refuses_1001 rfl ?_
  refine g_const hX dL_refuses_1003 ?_
  refine yt_icmp_ne hX dL_refuses_1004 (ya_in rfl) (ya_in rfl) (by decide) ?_
  refine g_iload hX dL_refuses_1012 rfl ?_
  refine g_const hX dL_refuses_1014 ?_
  refine g_const hX dL_refuses_1016 ?_
  refine g_const hX dL_refuses_1017 ?_
  refine l_act hX hst dL_refuses_1018 hH hV (ya_in rfl) (ya_in rfl) (ya_in rfl) (ya_in rfl) (ya_in rfl) (ra24a (fun q => by have q1 := q.1; have q2 := q.2; omega)) (show cs + 10 ≤ 2700 by omega) (show ss + 250 ≤ 67500 by omega) (by first | exact Nat.le_of_ble_eq_true rfl | simp [cat_rf, Value.category]) (fun A ow τ M sz hH hV => ?_)
  refine g_const hX dL_refuses_1021 ?_
  refine yf_icmp_ne hX dL_refuses_1023 (ya_in rfl) (ya_in rfl) (by decide) ?_
  refine g_aload hX dL_refuses_1026 rfl rfl ?_
  refine g_const hX dL_refuses_1027 ?_
  refine g_iload hX dL_refuses_1029 rfl ?_
  refine g_const hX dL_refuses_1031 ?_
  refine g_const hX dL_refuses_1032 ?_
  refine g_const hX dL_refuses_1033 ?_
  refine l_act hX hst dL_refuses_1034 hH hV (ya_in rfl) (ya_in rfl) (ya_in rfl) (ya_in rfl) (ya_in rfl) (ra25a (fun q => by have q1 := q.1; have q2 := q.2; omega)) (show cs + 10 + 10 ≤ 2700 by omega) (show ss + 250 + 250 ≤ 67500 by omega) (by first | exact Nat.le_of_ble_eq_true rfl | simp [cat_rf, Value.category]) (fun A ow τ M sz hH hV => ?_)
  refine g_const hX dL_refuses_1037 ?_
  refine yf_icmp_ne hX dL_refuses_1039 (ya_in rfl) (ya_in rfl) (by decide) ?_
  refine g_iload hX dL_refuses_1042 rfl ?_
  refine z_if_eq hX dL_refuses_1044 rn3 (fun c9 => ?_) (fun c9 => ?_)
  · exact rf_g14 hX hst hR hmt rm9 rn0 rn1 rn2 rn3 hK hH hV (by omega) (by omega)
  refine g_aload hX dL_refuses_1047 rfl rfl ?_
  refine g_const hX dL_refuses_1048 ?_
  refine g_const hX dL_refuses_1050 ?_
  refine g_iload hX dL_refuses_1051 rfl ?_
  refine g_const hX dL_refuses_1053 ?_
  refine yt_icmp_ne hX dL_refuses_1054 (ya_in rfl) (ya_in rfl) (by decide) ?_
  refine g_iload hX dL_refuses_1061 rfl ?_
  refine g_const hX dL_refuses_1063 ?_
  refine g_const hX dL_refuses_1064 ?_
  refine l_act hX hst dL_refuses_1065 hH hV (ya_in rfl) (ya_in rfl) (ya_in rfl) (ya_in rfl) (ya_in rfl) (ra24b ⟨by omega, by omega⟩ (by decide +kernel)) (show cs + 10 + 10 + 10 ≤ 2700 by omega) (show ss + 250 + 250 + 250 ≤ 67500 by omega) (by first | exact Nat.le_of_ble_eq_true rfl | simp [cat_rf, Value.category]) (fun A ow τ M sz hH hV => ?_)
  refine g_const hX dL_refuses_1068 ?_
  refine yf_icmp_ne hX dL_refuses_1070 (ya_in rfl) (ya_in rfl) (by decide) ?_
  exact rf_g14 hX hst hR hmt rm9 rn0 rn1 rn2 rn3 hK hH hV (by omega) (by omega)

set_option maxRecDepth 20000 in
theorem rf_g12 {X : hX} (hX : Cok X mL_refuses) (hst : X.1.2.1.stackTraces = false) {M0 : hM} {sz0 : Nat} {K : hK} (hR : Ret X mL_refuses M0 sz0 K) {h : Nat} {σ : SG} {mt : Int} (hmt : metK σ (σ 1 0 0).toNat = mt) (rm9 : inR mt) (rn0 : inR (σ 0 0 0)) (rn1 : inR (σ 1 0 0)) (rn2 : inR (σ 2 0 0)) (rn3 : inR (σ 3 0 0)) (hK : ∀ (A' : Nat → Nat → Nat) (ow' : Nat → Nat × Nat) (τ' : Nat → Nat → Int) (M' : hM) (s9 : Nat), HX X.2.2.2.2.2.2.2.2.2 h A' ow' σ τ' M' → SV σ → K (.inl (some (.int (iZ 1)))) M' s9) {A : Nat → Nat → Nat} {ow : Nat → Nat × Nat} {τ : Nat → Nat → Int} {M : hM} {sz cs ss : Nat} (hH : HX X.2.2.2.2.2.2.2.2.2 h A ow σ τ M) (hV : SV σ) (hc : cs + 2120 ≤ 2700) (hs : ss + 53000 ≤ 67500) : G X 823 [.ref h, .int (iZ (σ 0 0 0)), .int (iZ (σ 1 0 0)), .int (iZ (σ 2 0 0)), .int (iZ (σ 3 0 0)), .int (iZ 2147483647), .int (iZ mt), .int (iZ 0), .int (iZ (-1)), .int (iZ (-1)), .int (iZ (-1)), .int (iZ (-1)), .int (iZ 1599), .int (iZ 1499), .int (iZ 0), .int (iZ (-1)), .int (iZ 0), .int (iZ 0), .int (iZ 1), .int (iZ 23)] [.int (iZ 23), .ref h] M sz cs ss := by
  have hn := hV.n
  unfold SVn at hn
  refine g_const hX dL_refuses_823 ?_
  refine g_const hX dL_refuses_826 ?_
  refine g_iload hX dL_refuses_827 rfl ?_
  refine g_const hX dL_refuses_829 ?_
  refine l_act hX hst dL_refuses_830 hH hV (ya_in rfl) (ya_in rfl) (ya_in rfl) (ya_in rfl) (ya_in rfl) (ra23a (by decide +kernel)) (show cs + 10 ≤ 2700 by omega) (show ss + 250 ≤ 67500 by omega) (by first | exact Nat.le_of_ble_eq_true rfl | simp [cat_rf, Value.category]) (fun A ow τ M sz hH hV => ?_)
  refine g_const hX dL_refuses_833 ?_
  refine yf_icmp_ne hX dL_refuses_835 (ya_in rfl) (ya_in rfl) (by decide) ?_
  refine g_aload hX dL_refuses_838 rfl rfl ?_
  refine g_iload hX dL_refuses_839 rfl ?_
  refine g_const hX dL_refuses_841 ?_
  refine g_const hX dL_refuses_844 ?_
  refine g_const hX dL_refuses_845 ?_
  refine g_const hX dL_refuses_847 ?_
  refine l_act hX hst dL_refuses_848 hH hV (ya_in rfl) (ya_in rfl) (ya_in rfl) (ya_in rfl) (ya_in rfl) (ra23a (by decide +kernel)) (show cs + 10 + 10 ≤ 2700 by omega) (show ss + 250 + 250 ≤ 67500 by omega) (by first | exact Nat.le_of_ble_eq_true rfl | simp [cat_rf, Value.category]) (fun A ow τ M sz hH hV => ?_)
  refine g_const hX dL_refuses_851 ?_
  refine yf_icmp_ne hX dL_refuses_853 (ya_in rfl) (ya_in rfl) (by decide) ?_
  refine g_aload hX dL_refuses_856 rfl rfl ?_
  refine g_iload hX dL_refuses_857 rfl ?_
  refine g_const hX dL_refuses_859 ?_
  refine g_const hX dL_refuses_862 ?_
  refine g_const hX dL_refuses_864 ?_
  refine g_const hX dL_refuses_866 ?_
  refine l_act hX hst dL_refuses_867 hH hV (ya_in rfl) (ya_in rfl) (ya_in rfl) (ya_in rfl) (ya_in rfl) (ra23a (by decide +kernel)) (show cs + 10 + 10 + 10 ≤ 2700 by omega) (show ss + 250 + 250 + 250 ≤ 67500 by omega) (by first | exact Nat.le_of_ble_eq_true rfl | simp [cat_rf, Value.category]) (fun A ow τ M sz hH hV => ?_)
  refine g_const hX dL_refuses_870 ?_
  refine yf_icmp_ne hX dL_refuses_872 (ya_in rfl) (ya_in rfl) (by decide) ?_
  refine g_const hX dL_refuses_875 ?_
  refine g_goto hX dL_refuses_876 ?_
  refine g_istore hX dL_refuses_880 ?_
  dsimp only [List.set]
  refine g_iload hX dL_refuses_882 rfl ?_
  refine g_const hX dL_refuses_884 ?_
  refine yf_icmp_eq hX dL_refuses_886 (ya_in rfl) (ya_in rfl) (by decide) ?_
  refine g_iload hX dL_refuses_889 rfl ?_
  refine g_const hX dL_refuses_891 ?_
  refine yt_icmp_ne hX dL_refuses_893 (ya_in rfl) (ya_in rfl) (by decide) ?_
  refine y_iinc (c := 24) hX dL_refuses_939 rfl (by decide) ?_
  dsimp only [List.set]
  refine g_goto hX dL_refuses_942 ?_
  refine g_iload hX dL_refuses_746 rfl ?_
  refine g_const hX dL_refuses_748 ?_
  refine yt_icmp_ge hX dL_refuses_750 (ya_in rfl) (ya_in rfl) (by decide) ?_
  refine g_iload hX dL_refuses_945 rfl ?_
  refine yf_if_eq hX dL_refuses_947 (ya_in rfl) (by decide) ?_
  refine g_aload hX dL_refuses_950 rfl rfl ?_
  refine g_const hX dL_refuses_951 ?_
  refine g_const hX dL_refuses_953 ?_
  refine g_const hX dL_refuses_954 ?_
  refine g_const hX dL_refuses_955 ?_
  refine g_const hX dL_refuses_956 ?_
  refine l_act hX hst dL_refuses_958 hH hV (ya_in rfl) (ya_in rfl) (ya_in rfl) (ya_in rfl) (ya_in rfl) (ra14a (by decide +kernel)) (show cs + 10 + 10 + 10 + 10 ≤ 2700 by omega) (show ss + 250 + 250 + 250 + 250 ≤ 67500 by omega) (by first | exact Nat.le_of_ble_eq_true rfl | simp [cat_rf, Value.category]) (fun A ow τ M sz hH hV => ?_)
  refine g_const hX dL_refuses_961 ?_
  refine yf_icmp_ne hX dL_refuses_963 (ya_in rfl) (ya_in rfl) (by decide) ?_
  refine g_aload hX dL_refuses_966 rfl rfl ?_
  refine g_const hX dL_refuses_967 ?_
  refine g_const hX dL_refuses_969 ?_
  refine g_const hX dL_refuses_970 ?_
  refine g_const hX dL_refuses_971 ?_
  refine g_const hX dL_refuses_972 ?_
  refine l_act hX hst dL_refuses_974 hH hV (ya_in rfl) (ya_in rfl) (ya_in rfl) (ya_in rfl) (ya_in rfl) (ra14a (by decide +kernel)) (show cs + 10 + 10 + 10 + 10 + 10 ≤ 2700 by omega) (show ss + 250 + 250 + 250 + 250 + 250 ≤ 67500 by omega) (by first | exact Nat.le_of_ble_eq_true rfl | simp [cat_rf, Value.category]) (fun A ow τ M sz hH hV => ?_)
  refine g_const hX dL_refuses_977 ?_
  refine yf_icmp_ne hX dL_refuses_979 (ya_in rfl) (ya_in rfl) (by decide) ?_
  refine g_aload hX dL_refuses_982 rfl rfl ?_
  refine g_const hX dL_refuses_983 ?_
  refine g_iload hX dL_refuses_985 rfl ?_
  refine g_const hX dL_refuses_987 ?_
  refine g_const hX dL_refuses_988 ?_
  refine g_const hX dL_refuses_989 ?_
  refine l_act hX hst dL_refuses_990 hH hV (ya_in rfl) (ya_in rfl) (ya_in rfl) (ya_in rfl) (ya_in rfl) (ra22a (fun q => by have q1 := q.1; have q2 := q.2; omega)) (show cs + 10 + 10 + 10 + 10 + 10 + 10 ≤ 2700 by omega) (show ss + 250 + 250 + 250 + 250 + 250 + 250 ≤ 67500 by omega) (by first | exact Nat.le_of_ble_eq_true rfl | simp [cat_rf, Value.category]) (fun A ow τ M sz hH hV => ?_)
  refine g_const hX dL_refuses_993 ?_
  refine yf_icmp_ne hX dL_refuses_995 (ya_in rfl) (ya_in rfl) (by decide) ?_
  refine g_aload hX dL_refuses_998 rfl rfl ?_
  exact rf_g13 hX hst hR hmt rm9 rn0 rn1 rn2 rn3 hK hH hV (by omega) (by omega)

set_option maxRecDepth 20000 in
theorem rf_g11 {X : hX} (hX : Cok X mL_refuses) (hst : X.1.2.1.stackTraces = false) {M0 : hM} {sz0 : Nat} {K : hK} (hR : Ret X mL_refuses M0 sz0 K) {h : Nat} {σ : SG} {mt : Int} (hmt : metK σ (σ 1 0 0).toNat = mt) (rm9 : inR mt) (rn0 : inR (σ 0 0 0)) (rn1 : inR (σ 1 0 0)) (rn2 : inR (σ 2 0 0)) (rn3 : inR (σ 3 0 0)) (hK : ∀ (A' : Nat → Nat → Nat) (ow' : Nat → Nat × Nat) (τ' : Nat → Nat → Int) (M' : hM) (s9 : Nat), HX X.2.2.2.2.2.2.2.2.2 h A' ow' σ τ' M' → SV σ → K (.inl (some (.int (iZ 1)))) M' s9) {A : Nat → Nat → Nat} {ow : Nat → Nat × Nat} {τ : Nat → Nat → Int} {M : hM} {sz cs ss : Nat} (hH : HX X.2.2.2.2.2.2.2.2.2 h A ow σ τ M) (hV : SV σ) (hc : cs + 2140 ≤ 2700) (hs : ss + 53500 ≤ 67500) : G X 884 [.ref h, .int (iZ (σ 0 0 0)), .int (iZ (σ 1 0 0)), .int (iZ (σ 2 0 0)), .int (iZ (σ 3 0 0)), .int (iZ 2147483647), .int (iZ mt), .int (iZ 0), .int (iZ (-1)), .int (iZ (-1)), .int (iZ (-1)), .int (iZ (-1)), .int (iZ 1599), .int (iZ 1499), .int (iZ 0), .int (iZ (-1)), .int (iZ 0), .int (iZ 0), .int (iZ 1), .int (iZ 21)] [.int (iZ 21)] M sz cs ss := by
  have hn := hV.n
  unfold SVn at hn
  refine g_const hX dL_refuses_884 ?_
  refine yf_icmp_eq hX dL_refuses_886 (ya_in rfl) (ya_in rfl) (by decide) ?_
  refine g_iload hX dL_refuses_889 rfl ?_
  refine g_const hX dL_refuses_891 ?_
  refine yt_icmp_ne hX dL_refuses_893 (ya_in rfl) (ya_in rfl) (by decide) ?_
  refine y_iinc (c := 22) hX dL_refuses_939 rfl (by decide) ?_
  dsimp only [List.set]
  refine g_goto hX dL_refuses_942 ?_
  refine g_iload hX dL_refuses_746 rfl ?_
  refine g_const hX dL_refuses_748 ?_
  refine yf_icmp_ge hX dL_refuses_750 (ya_in rfl) (ya_in rfl) (by decide) ?_
  refine g_iload hX dL_refuses_753 rfl ?_
  refine yf_if_eq hX dL_refuses_755 (ya_in rfl) (by decide) ?_
  refine g_iload hX dL_refuses_758 rfl ?_
  refine g_const hX dL_refuses_760 ?_
  refine yf_icmp_eq hX dL_refuses_762 (ya_in rfl) (ya_in rfl) (by decide) ?_
  refine g_iload hX dL_refuses_765 rfl ?_
  refine g_const hX dL_refuses_767 ?_
  refine yf_icmp_eq hX dL_refuses_769 (ya_in rfl) (ya_in rfl) (by decide) ?_
  refine g_iload hX dL_refuses_772 rfl ?_
  refine g_const hX dL_refuses_774 ?_
  refine yf_icmp_eq hX dL_refuses_776 (ya_in rfl) (ya_in rfl) (by decide) ?_
  refine g_iload hX dL_refuses_779 rfl ?_
  refine g_const hX dL_refuses_781 ?_
  refine yt_icmp_ne hX dL_refuses_783 (ya_in rfl) (ya_in rfl) (by decide) ?_
  refine g_iload hX dL_refuses_882 rfl ?_
  refine g_const hX dL_refuses_884 ?_
  refine yf_icmp_eq hX dL_refuses_886 (ya_in rfl) (ya_in rfl) (by decide) ?_
  refine g_iload hX dL_refuses_889 rfl ?_
  refine g_const hX dL_refuses_891 ?_
  refine yt_icmp_ne hX dL_refuses_893 (ya_in rfl) (ya_in rfl) (by decide) ?_
  refine y_iinc (c := 23) hX dL_refuses_939 rfl (by decide) ?_
  dsimp only [List.set]
  refine g_goto hX dL_refuses_942 ?_
  refine g_iload hX dL_refuses_746 rfl ?_
  refine g_const hX dL_refuses_748 ?_
  refine yf_icmp_ge hX dL_refuses_750 (ya_in rfl) (ya_in rfl) (by decide) ?_
  refine g_iload hX dL_refuses_753 rfl ?_
  refine yf_if_eq hX dL_refuses_755 (ya_in rfl) (by decide) ?_
  refine g_iload hX dL_refuses_758 rfl ?_
  refine g_const hX dL_refuses_760 ?_
  refine yf_icmp_eq hX dL_refuses_762 (ya_in rfl) (ya_in rfl) (by decide) ?_
  refine g_iload hX dL_refuses_765 rfl ?_
  refine g_const hX dL_refuses_767 ?_
  refine yf_icmp_eq hX dL_refuses_769 (ya_in rfl) (ya_in rfl) (by decide) ?_
  refine g_iload hX dL_refuses_772 rfl ?_
  refine g_const hX dL_refuses_774 ?_
  refine yf_icmp_eq hX dL_refuses_776 (ya_in rfl) (ya_in rfl) (by decide) ?_
  refine g_iload hX dL_refuses_779 rfl ?_
  refine g_const hX dL_refuses_781 ?_
  refine yf_icmp_ne hX dL_refuses_783 (ya_in rfl) (ya_in rfl) (by decide) ?_
  refine g_aload hX dL_refuses_786 rfl rfl ?_
  refine g_iload hX dL_refuses_787 rfl ?_
  refine g_iload hX dL_refuses_789 rfl ?_
  refine g_const hX dL_refuses_791 ?_
  refine g_const hX dL_refuses_792 ?_
  refine g_const hX dL_refuses_793 ?_
  refine l_act hX hst dL_refuses_794 hH hV (ya_in rfl) (ya_in rfl) (ya_in rfl) (ya_in rfl) (ya_in rfl) (ra23a (by decide +kernel)) (show cs + 10 ≤ 2700 by omega) (show ss + 250 ≤ 67500 by omega) (by first | exact Nat.le_of_ble_eq_true rfl | simp [cat_rf, Value.category]) (fun A ow τ M sz hH hV => ?_)
  refine g_const hX dL_refuses_797 ?_
  refine yf_icmp_ne hX dL_refuses_799 (ya_in rfl) (ya_in rfl) (by decide) ?_
  refine g_aload hX dL_refuses_802 rfl rfl ?_
  refine g_iload hX dL_refuses_803 rfl ?_
  refine g_const hX dL_refuses_805 ?_
  refine g_iload hX dL_refuses_808 rfl ?_
  refine g_const hX dL_refuses_810 ?_
  refine g_const hX dL_refuses_811 ?_
  refine l_act hX hst dL_refuses_812 hH hV (ya_in rfl) (ya_in rfl) (ya_in rfl) (ya_in rfl) (ya_in rfl) (ra23a (by decide +kernel)) (show cs + 10 + 10 ≤ 2700 by omega) (show ss + 250 + 250 ≤ 67500 by omega) (by first | exact Nat.le_of_ble_eq_true rfl | simp [cat_rf, Value.category]) (fun A ow τ M sz hH hV => ?_)
  refine g_const hX dL_refuses_815 ?_
  refine yf_icmp_ne hX dL_refuses_817 (ya_in rfl) (ya_in rfl) (by decide) ?_
  refine g_aload hX dL_refuses_820 rfl rfl ?_
  refine g_iload hX dL_refuses_821 rfl ?_
  exact rf_g12 hX hst hR hmt rm9 rn0 rn1 rn2 rn3 hK hH hV (by omega) (by omega)

set_option maxRecDepth 20000 in
theorem rf_g10 {X : hX} (hX : Cok X mL_refuses) (hst : X.1.2.1.stackTraces = false) {M0 : hM} {sz0 : Nat} {K : hK} (hR : Ret X mL_refuses M0 sz0 K) {h : Nat} {σ : SG} {mt : Int} (hmt : metK σ (σ 1 0 0).toNat = mt) (rm9 : inR mt) (rn0 : inR (σ 0 0 0)) (rn1 : inR (σ 1 0 0)) (rn2 : inR (σ 2 0 0)) (rn3 : inR (σ 3 0 0)) (hK : ∀ (A' : Nat → Nat → Nat) (ow' : Nat → Nat × Nat) (τ' : Nat → Nat → Int) (M' : hM) (s9 : Nat), HX X.2.2.2.2.2.2.2.2.2 h A' ow' σ τ' M' → SV σ → K (.inl (some (.int (iZ 1)))) M' s9) {A : Nat → Nat → Nat} {ow : Nat → Nat × Nat} {τ : Nat → Nat → Int} {M : hM} {sz cs ss : Nat} (hH : HX X.2.2.2.2.2.2.2.2.2 h A ow σ τ M) (hV : SV σ) (hc : cs + 2190 ≤ 2700) (hs : ss + 54750 ≤ 67500) : G X 932 [.ref h, .int (iZ (σ 0 0 0)), .int (iZ (σ 1 0 0)), .int (iZ (σ 2 0 0)), .int (iZ (σ 3 0 0)), .int (iZ 2147483647), .int (iZ mt), .int (iZ 0), .int (iZ (-1)), .int (iZ (-1)), .int (iZ (-1)), .int (iZ (-1)), .int (iZ 1599), .int (iZ 1499), .int (iZ 0), .int (iZ (-1)), .int (iZ 0), .int (iZ 0), .int (iZ 1), .int (iZ 20)] [] M sz cs ss := by
  have hn := hV.n
  unfold SVn at hn
  refine g_const hX dL_refuses_932 ?_
  refine g_goto hX dL_refuses_933 ?_
  refine g_istore hX dL_refuses_937 ?_
  dsimp only [List.set]
  refine y_iinc (c := 21) hX dL_refuses_939 rfl (by decide) ?_
  dsimp only [List.set]
  refine g_goto hX dL_refuses_942 ?_
  refine g_iload hX dL_refuses_746 rfl ?_
  refine g_const hX dL_refuses_748 ?_
  refine yf_icmp_ge hX dL_refuses_750 (ya_in rfl) (ya_in rfl) (by decide) ?_
  refine g_iload hX dL_refuses_753 rfl ?_
  refine yf_if_eq hX dL_refuses_755 (ya_in rfl) (by decide) ?_
  refine g_iload hX dL_refuses_758 rfl ?_
  refine g_const hX dL_refuses_760 ?_
  refine yf_icmp_eq hX dL_refuses_762 (ya_in rfl) (ya_in rfl) (by decide) ?_
  refine g_iload hX dL_refuses_765 rfl ?_
  refine g_const hX dL_refuses_767 ?_
  refine yf_icmp_eq hX dL_refuses_769 (ya_in rfl) (ya_in rfl) (by decide) ?_
  refine g_iload hX dL_refuses_772 rfl ?_
  refine g_const hX dL_refuses_774 ?_
  refine yt_icmp_eq hX dL_refuses_776 (ya_in rfl) (ya_in rfl) (by decide) ?_
  refine g_aload hX dL_refuses_786 rfl rfl ?_
  refine g_iload hX dL_refuses_787 rfl ?_
  refine g_iload hX dL_refuses_789 rfl ?_
  refine g_const hX dL_refuses_791 ?_
  refine g_const hX dL_refuses_792 ?_
  refine g_const hX dL_refuses_793 ?_
  refine l_act hX hst dL_refuses_794 hH hV (ya_in rfl) (ya_in rfl) (ya_in rfl) (ya_in rfl) (ya_in rfl) (ra21a (by decide +kernel)) (show cs + 10 ≤ 2700 by omega) (show ss + 250 ≤ 67500 by omega) (by first | exact Nat.le_of_ble_eq_true rfl | simp [cat_rf, Value.category]) (fun A ow τ M sz hH hV => ?_)
  refine g_const hX dL_refuses_797 ?_
  refine yf_icmp_ne hX dL_refuses_799 (ya_in rfl) (ya_in rfl) (by decide) ?_
  refine g_aload hX dL_refuses_802 rfl rfl ?_
  refine g_iload hX dL_refuses_803 rfl ?_
  refine g_const hX dL_refuses_805 ?_
  refine g_iload hX dL_refuses_808 rfl ?_
  refine g_const hX dL_refuses_810 ?_
  refine g_const hX dL_refuses_811 ?_
  refine l_act hX hst dL_refuses_812 hH hV (ya_in rfl) (ya_in rfl) (ya_in rfl) (ya_in rfl) (ya_in rfl) (ra21a (by decide +kernel)) (show cs + 10 + 10 ≤ 2700 by omega) (show ss + 250 + 250 ≤ 67500 by omega) (by first | exact Nat.le_of_ble_eq_true rfl | simp [cat_rf, Value.category]) (fun A ow τ M sz hH hV => ?_)
  refine g_const hX dL_refuses_815 ?_
  refine yf_icmp_ne hX dL_refuses_817 (ya_in rfl) (ya_in rfl) (by decide) ?_
  refine g_aload hX dL_refuses_820 rfl rfl ?_
  refine g_iload hX dL_refuses_821 rfl ?_
  refine g_const hX dL_refuses_823 ?_
  refine g_const hX dL_refuses_826 ?_
  refine g_iload hX dL_refuses_827 rfl ?_
  refine g_const hX dL_refuses_829 ?_
  refine l_act hX hst dL_refuses_830 hH hV (ya_in rfl) (ya_in rfl) (ya_in rfl) (ya_in rfl) (ya_in rfl) (ra21a (by decide +kernel)) (show cs + 10 + 10 + 10 ≤ 2700 by omega) (show ss + 250 + 250 + 250 ≤ 67500 by omega) (by first | exact Nat.le_of_ble_eq_true rfl | simp [cat_rf, Value.category]) (fun A ow τ M sz hH hV => ?_)
  refine g_const hX dL_refuses_833 ?_
  refine yf_icmp_ne hX dL_refuses_835 (ya_in rfl) (ya_in rfl) (by decide) ?_
  refine g_aload hX dL_refuses_838 rfl rfl ?_
  refine g_iload hX dL_refuses_839 rfl ?_
  refine g_const hX dL_refuses_841 ?_
  refine g_const hX dL_refuses_844 ?_
  refine g_const hX dL_refuses_845 ?_
  refine g_const hX dL_refuses_847 ?_
  refine l_act hX hst dL_refuses_848 hH hV (ya_in rfl) (ya_in rfl) (ya_in rfl) (ya_in rfl) (ya_in rfl) (ra21a (by decide +kernel)) (show cs + 10 + 10 + 10 + 10 ≤ 2700 by omega) (show ss + 250 + 250 + 250 + 250 ≤ 67500 by omega) (by first | exact Nat.le_of_ble_eq_true rfl | simp [cat_rf, Value.category]) (fun A ow τ M sz hH hV => ?_)
  refine g_const hX dL_refuses_851 ?_
  refine yf_icmp_ne hX dL_refuses_853 (ya_in rfl) (ya_in rfl) (by decide) ?_
  refine g_aload hX dL_refuses_856 rfl rfl ?_
  refine g_iload hX dL_refuses_857 rfl ?_
  refine g_const hX dL_refuses_859 ?_
  refine g_const hX dL_refuses_862 ?_
  refine g_const hX dL_refuses_864 ?_
  refine g_const hX dL_refuses_866 ?_
  refine l_act hX hst dL_refuses_867 hH hV (ya_in rfl) (ya_in rfl) (ya_in rfl) (ya_in rfl) (ya_in rfl) (ra21a (by decide +kernel)) (show cs + 10 + 10 + 10 + 10 + 10 ≤ 2700 by omega) (show ss + 250 + 250 + 250 + 250 + 250 ≤ 67500 by omega) (by first | exact Nat.le_of_ble_eq_true rfl | simp [cat_rf, Value.category]) (fun A ow τ M sz hH hV => ?_)
  refine g_const hX dL_refuses_870 ?_
  refine yf_icmp_ne hX dL_refuses_872 (ya_in rfl) (ya_in rfl) (by decide) ?_
  refine g_const hX dL_refuses_875 ?_
  refine g_goto hX dL_refuses_876 ?_
  refine g_istore hX dL_refuses_880 ?_
  dsimp only [List.set]
  refine g_iload hX dL_refuses_882 rfl ?_
  exact rf_g11 hX hst hR hmt rm9 rn0 rn1 rn2 rn3 hK hH hV (by omega) (by omega)

set_option maxRecDepth 20000 in
theorem rf_g9 {X : hX} (hX : Cok X mL_refuses) (hst : X.1.2.1.stackTraces = false) {M0 : hM} {sz0 : Nat} {K : hK} (hR : Ret X mL_refuses M0 sz0 K) {h : Nat} {σ : SG} {mt : Int} (hmt : metK σ (σ 1 0 0).toNat = mt) (rm9 : inR mt) (rn0 : inR (σ 0 0 0)) (rn1 : inR (σ 1 0 0)) (rn2 : inR (σ 2 0 0)) (rn3 : inR (σ 3 0 0)) (hK : ∀ (A' : Nat → Nat → Nat) (ow' : Nat → Nat × Nat) (τ' : Nat → Nat → Int) (M' : hM) (s9 : Nat), HX X.2.2.2.2.2.2.2.2.2 h A' ow' σ τ' M' → SV σ → K (.inl (some (.int (iZ 1)))) M' s9) {A : Nat → Nat → Nat} {ow : Nat → Nat × Nat} {τ : Nat → Nat → Int} {M : hM} {sz cs ss : Nat} (hH : HX X.2.2.2.2.2.2.2.2.2 h A ow σ τ M) (hV : SV σ) (hc : cs + 2210 ≤ 2700) (hs : ss + 55250 ≤ 67500) : G X 932 [.ref h, .int (iZ (σ 0 0 0)), .int (iZ (σ 1 0 0)), .int (iZ (σ 2 0 0)), .int (iZ (σ 3 0 0)), .int (iZ 2147483647), .int (iZ mt), .int (iZ 0), .int (iZ (-1)), .int (iZ (-1)), .int (iZ (-1)), .int (iZ (-1)), .int (iZ 1599), .int (iZ 1499), .int (iZ 0), .int (iZ (-1)), .int (iZ 0), .int (iZ 0), .int (iZ 1), .int (iZ 19)] [] M sz cs ss := by
  have hn := hV.n
  unfold SVn at hn
  refine g_const hX dL_refuses_932 ?_
  refine g_goto hX dL_refuses_933 ?_
  refine g_istore hX dL_refuses_937 ?_
  dsimp only [List.set]
  refine y_iinc (c := 20) hX dL_refuses_939 rfl (by decide) ?_
  dsimp only [List.set]
  refine g_goto hX dL_refuses_942 ?_
  refine g_iload hX dL_refuses_746 rfl ?_
  refine g_const hX dL_refuses_748 ?_
  refine yf_icmp_ge hX dL_refuses_750 (ya_in rfl) (ya_in rfl) (by decide) ?_
  refine g_iload hX dL_refuses_753 rfl ?_
  refine yf_if_eq hX dL_refuses_755 (ya_in rfl) (by decide) ?_
  refine g_iload hX dL_refuses_758 rfl ?_
  refine g_const hX dL_refuses_760 ?_
  refine yf_icmp_eq hX dL_refuses_762 (ya_in rfl) (ya_in rfl) (by decide) ?_
  refine g_iload hX dL_refuses_765 rfl ?_
  refine g_const hX dL_refuses_767 ?_
  refine yf_icmp_eq hX dL_refuses_769 (ya_in rfl) (ya_in rfl) (by decide) ?_
  refine g_iload hX dL_refuses_772 rfl ?_
  refine g_const hX dL_refuses_774 ?_
  refine yf_icmp_eq hX dL_refuses_776 (ya_in rfl) (ya_in rfl) (by decide) ?_
  refine g_iload hX dL_refuses_779 rfl ?_
  refine g_const hX dL_refuses_781 ?_
  refine yt_icmp_ne hX dL_refuses_783 (ya_in rfl) (ya_in rfl) (by decide) ?_
  refine g_iload hX dL_refuses_882 rfl ?_
  refine g_const hX dL_refuses_884 ?_
  refine yf_icmp_eq hX dL_refuses_886 (ya_in rfl) (ya_in rfl) (by decide) ?_
  refine g_iload hX dL_refuses_889 rfl ?_
  refine g_const hX dL_refuses_891 ?_
  refine yf_icmp_ne hX dL_refuses_893 (ya_in rfl) (ya_in rfl) (by decide) ?_
  refine g_aload hX dL_refuses_896 rfl rfl ?_
  refine g_iload hX dL_refuses_897 rfl ?_
  refine g_iload hX dL_refuses_899 rfl ?_
  refine g_const hX dL_refuses_901 ?_
  refine g_const hX dL_refuses_902 ?_
  refine g_const hX dL_refuses_903 ?_
  refine l_act hX hst dL_refuses_904 hH hV (ya_in rfl) (ya_in rfl) (ya_in rfl) (ya_in rfl) (ya_in rfl) (ra20a (fun q => by have q1 := q.1; have q2 := q.2; omega)) (show cs + 10 ≤ 2700 by omega) (show ss + 250 ≤ 67500 by omega) (by first | exact Nat.le_of_ble_eq_true rfl | simp [cat_rf, Value.category]) (fun A ow τ M sz hH hV => ?_)
  refine g_const hX dL_refuses_907 ?_
  refine yf_icmp_ne hX dL_refuses_909 (ya_in rfl) (ya_in rfl) (by decide) ?_
  refine g_iload hX dL_refuses_912 rfl ?_
  refine z_if_eq hX dL_refuses_913 rn2 (fun c9 => ?_) (fun c9 => ?_)
  · exact rf_g10 hX hst hR hmt rm9 rn0 rn1 rn2 rn3 hK hH hV (by omega) (by omega)
  refine g_aload hX dL_refuses_916 rfl rfl ?_
  refine g_iload hX dL_refuses_917 rfl ?_
  refine g_const hX dL_refuses_919 ?_
  refine g_iload hX dL_refuses_920 rfl ?_
  refine g_const hX dL_refuses_922 ?_
  refine g_const hX dL_refuses_923 ?_
  refine l_act hX hst dL_refuses_924 hH hV (ya_in rfl) (ya_in rfl) (ya_in rfl) (ya_in rfl) (ya_in rfl) (ra20b ⟨by omega, by omega⟩ (by decide +kernel)) (show cs + 10 + 10 ≤ 2700 by omega) (show ss + 250 + 250 ≤ 67500 by omega) (by first | exact Nat.le_of_ble_eq_true rfl | simp [cat_rf, Value.category]) (fun A ow τ M sz hH hV => ?_)
  refine g_const hX dL_refuses_927 ?_
  refine yf_icmp_ne hX dL_refuses_929 (ya_in rfl) (ya_in rfl) (by decide) ?_
  exact rf_g10 hX hst hR hmt rm9 rn0 rn1 rn2 rn3 hK hH hV (by omega) (by omega)

set_option maxRecDepth 20000 in
theorem rf_g8 {X : hX} (hX : Cok X mL_refuses) (hst : X.1.2.1.stackTraces = false) {M0 : hM} {sz0 : Nat} {K : hK} (hR : Ret X mL_refuses M0 sz0 K) {h : Nat} {σ : SG} {mt : Int} (hmt : metK σ (σ 1 0 0).toNat = mt) (rm9 : inR mt) (rn0 : inR (σ 0 0 0)) (rn1 : inR (σ 1 0 0)) (rn2 : inR (σ 2 0 0)) (rn3 : inR (σ 3 0 0)) (hK : ∀ (A' : Nat → Nat → Nat) (ow' : Nat → Nat × Nat) (τ' : Nat → Nat → Int) (M' : hM) (s9 : Nat), HX X.2.2.2.2.2.2.2.2.2 h A' ow' σ τ' M' → SV σ → K (.inl (some (.int (iZ 1)))) M' s9) {A : Nat → Nat → Nat} {ow : Nat → Nat × Nat} {τ : Nat → Nat → Int} {M : hM} {sz cs ss : Nat} (hH : HX X.2.2.2.2.2.2.2.2.2 h A ow σ τ M) (hV : SV σ) (hc : cs + 2230 ≤ 2700) (hs : ss + 55750 ≤ 67500) : G X 876 [.ref h, .int (iZ (σ 0 0 0)), .int (iZ (σ 1 0 0)), .int (iZ (σ 2 0 0)), .int (iZ (σ 3 0 0)), .int (iZ 2147483647), .int (iZ mt), .int (iZ 0), .int (iZ (-1)), .int (iZ (-1)), .int (iZ (-1)), .int (iZ (-1)), .int (iZ 1599), .int (iZ 1499), .int (iZ 0), .int (iZ (-1)), .int (iZ 0), .int (iZ 0), .int (iZ 1), .int (iZ 18)] [.int (iZ 1)] M sz cs ss := by
  have hn := hV.n
  unfold SVn at hn
  refine g_goto hX dL_refuses_876 ?_
  refine g_istore hX dL_refuses_880 ?_
  dsimp only [List.set]
  refine g_iload hX dL_refuses_882 rfl ?_
  refine g_const hX dL_refuses_884 ?_
  refine yf_icmp_eq hX dL_refuses_886 (ya_in rfl) (ya_in rfl) (by decide) ?_
  refine g_iload hX dL_refuses_889 rfl ?_
  refine g_const hX dL_refuses_891 ?_
  refine yt_icmp_ne hX dL_refuses_893 (ya_in rfl) (ya_in rfl) (by decide) ?_
  refine y_iinc (c := 19) hX dL_refuses_939 rfl (by decide) ?_
  dsimp only [List.set]
  refine g_goto hX dL_refuses_942 ?_
  refine g_iload hX dL_refuses_746 rfl ?_
  refine g_const hX dL_refuses_748 ?_
  refine yf_icmp_ge hX dL_refuses_750 (ya_in rfl) (ya_in rfl) (by decide) ?_
  refine g_iload hX dL_refuses_753 rfl ?_
  refine yf_if_eq hX dL_refuses_755 (ya_in rfl) (by decide) ?_
  refine g_iload hX dL_refuses_758 rfl ?_
  refine g_const hX dL_refuses_760 ?_
  refine yf_icmp_eq hX dL_refuses_762 (ya_in rfl) (ya_in rfl) (by decide) ?_
  refine g_iload hX dL_refuses_765 rfl ?_
  refine g_const hX dL_refuses_767 ?_
  refine yf_icmp_eq hX dL_refuses_769 (ya_in rfl) (ya_in rfl) (by decide) ?_
  refine g_iload hX dL_refuses_772 rfl ?_
  refine g_const hX dL_refuses_774 ?_
  refine yf_icmp_eq hX dL_refuses_776 (ya_in rfl) (ya_in rfl) (by decide) ?_
  refine g_iload hX dL_refuses_779 rfl ?_
  refine g_const hX dL_refuses_781 ?_
  refine yt_icmp_ne hX dL_refuses_783 (ya_in rfl) (ya_in rfl) (by decide) ?_
  refine g_iload hX dL_refuses_882 rfl ?_
  refine g_const hX dL_refuses_884 ?_
  refine yt_icmp_eq hX dL_refuses_886 (ya_in rfl) (ya_in rfl) (by decide) ?_
  refine g_aload hX dL_refuses_896 rfl rfl ?_
  refine g_iload hX dL_refuses_897 rfl ?_
  refine g_iload hX dL_refuses_899 rfl ?_
  refine g_const hX dL_refuses_901 ?_
  refine g_const hX dL_refuses_902 ?_
  refine g_const hX dL_refuses_903 ?_
  refine l_act hX hst dL_refuses_904 hH hV (ya_in rfl) (ya_in rfl) (ya_in rfl) (ya_in rfl) (ya_in rfl) (ra19a (fun q => by have q1 := q.1; have q2 := q.2; omega)) (show cs + 10 ≤ 2700 by omega) (show ss + 250 ≤ 67500 by omega) (by first | exact Nat.le_of_ble_eq_true rfl | simp [cat_rf, Value.category]) (fun A ow τ M sz hH hV => ?_)
  refine g_const hX dL_refuses_907 ?_
  refine yf_icmp_ne hX dL_refuses_909 (ya_in rfl) (ya_in rfl) (by decide) ?_
  refine g_iload hX dL_refuses_912 rfl ?_
  refine z_if_eq hX dL_refuses_913 rn2 (fun c9 => ?_) (fun c9 => ?_)
  · exact rf_g9 hX hst hR hmt rm9 rn0 rn1 rn2 rn3 hK hH hV (by omega) (by omega)
  refine g_aload hX dL_refuses_916 rfl rfl ?_
  refine g_iload hX dL_refuses_917 rfl ?_
  refine g_const hX dL_refuses_919 ?_
  refine g_iload hX dL_refuses_920 rfl ?_
  refine g_const hX dL_refuses_922 ?_
  refine g_const hX dL_refuses_923 ?_
  refine l_act hX hst dL_refuses_924 hH hV (ya_in rfl) (ya_in rfl) (ya_in rfl) (ya_in rfl) (ya_in rfl) (ra19b ⟨by omega, by omega⟩ (by decide +kernel)) (show cs + 10 + 10 ≤ 2700 by omega) (show ss + 250 + 250 ≤ 67500 by omega) (by first | exact Nat.le_of_ble_eq_true rfl | simp [cat_rf, Value.category]) (fun A ow τ M sz hH hV => ?_)
  refine g_const hX dL_refuses_927 ?_
  refine yf_icmp_ne hX dL_refuses_929 (ya_in rfl) (ya_in rfl) (by decide) ?_
  exact rf_g9 hX hst hR hmt rm9 rn0 rn1 rn2 rn3 hK hH hV (by omega) (by omega)

set_option maxRecDepth 20000 in
theorem rf_g7 {X : hX} (hX : Cok X mL_refuses) (hst : X.1.2.1.stackTraces = false) {M0 : hM} {sz0 : Nat} {K : hK} (hR : Ret X mL_refuses M0 sz0 K) {h : Nat} {σ : SG} {mt : Int} (hmt : metK σ (σ 1 0 0).toNat = mt) (rm9 : inR mt) (rn0 : inR (σ 0 0 0)) (rn1 : inR (σ 1 0 0)) (rn2 : inR (σ 2 0 0)) (rn3 : inR (σ 3 0 0)) (hK : ∀ (A' : Nat → Nat → Nat) (ow' : Nat → Nat × Nat) (τ' : Nat → Nat → Int) (M' : hM) (s9 : Nat), HX X.2.2.2.2.2.2.2.2.2 h A' ow' σ τ' M' → SV σ → K (.inl (some (.int (iZ 1)))) M' s9) {A : Nat → Nat → Nat} {ow : Nat → Nat × Nat} {τ : Nat → Nat → Int} {M : hM} {sz cs ss : Nat} (hH : HX X.2.2.2.2.2.2.2.2.2 h A ow σ τ M) (hV : SV σ) (hc : cs + 2280 ≤ 2700) (hs : ss + 57000 ≤ 67500) : G X 774 [.ref h, .int (iZ (σ 0 0 0)), .int (iZ (σ 1 0 0)), .int (iZ (σ 2 0 0)), .int (iZ (σ 3 0 0)), .int (iZ 2147483647), .int (iZ mt), .int (iZ 0), .int (iZ (-1)), .int (iZ (-1)), .int (iZ (-1)), .int (iZ (-1)), .int (iZ 1599), .int (iZ 1499), .int (iZ 0), .int (iZ (-1)), .int (iZ 0), .int (iZ 0), .int (iZ 1), .int (iZ 17)] [.int (iZ 17)] M sz cs ss := by
  have hn := hV.n
  unfold SVn at hn
  refine g_const hX dL_refuses_774 ?_
  refine yf_icmp_eq hX dL_refuses_776 (ya_in rfl) (ya_in rfl) (by decide) ?_
  refine g_iload hX dL_refuses_779 rfl ?_
  refine g_const hX dL_refuses_781 ?_
  refine yt_icmp_ne hX dL_refuses_783 (ya_in rfl) (ya_in rfl) (by decide) ?_
  refine g_iload hX dL_refuses_882 rfl ?_
  refine g_const hX dL_refuses_884 ?_
  refine yf_icmp_eq hX dL_refuses_886 (ya_in rfl) (ya_in rfl) (by decide) ?_
  refine g_iload hX dL_refuses_889 rfl ?_
  refine g_const hX dL_refuses_891 ?_
  refine yt_icmp_ne hX dL_refuses_893 (ya_in rfl) (ya_in rfl) (by decide) ?_
  refine y_iinc (c := 18) hX dL_refuses_939 rfl (by decide) ?_
  dsimp only [List.set]
  refine g_goto hX dL_refuses_942 ?_
  refine g_iload hX dL_refuses_746 rfl ?_
  refine g_const hX dL_refuses_748 ?_
  refine yf_icmp_ge hX dL_refuses_750 (ya_in rfl) (ya_in rfl) (by decide) ?_
  refine g_iload hX dL_refuses_753 rfl ?_
  refine yf_if_eq hX dL_refuses_755 (ya_in rfl) (by decide) ?_
  refine g_iload hX dL_refuses_758 rfl ?_
  refine g_const hX dL_refuses_760 ?_
  refine yf_icmp_eq hX dL_refuses_762 (ya_in rfl) (ya_in rfl) (by decide) ?_
  refine g_iload hX dL_refuses_765 rfl ?_
  refine g_const hX dL_refuses_767 ?_
  refine yt_icmp_eq hX dL_refuses_769 (ya_in rfl) (ya_in rfl) (by decide) ?_
  refine g_aload hX dL_refuses_786 rfl rfl ?_
  refine g_iload hX dL_refuses_787 rfl ?_
  refine g_iload hX dL_refuses_789 rfl ?_
  refine g_const hX dL_refuses_791 ?_
  refine g_const hX dL_refuses_792 ?_
  refine g_const hX dL_refuses_793 ?_
  refine l_act hX hst dL_refuses_794 hH hV (ya_in rfl) (ya_in rfl) (ya_in rfl) (ya_in rfl) (ya_in rfl) (ra18a (by decide +kernel)) (show cs + 10 ≤ 2700 by omega) (show ss + 250 ≤ 67500 by omega) (by first | exact Nat.le_of_ble_eq_true rfl | simp [cat_rf, Value.category]) (fun A ow τ M sz hH hV => ?_)
  refine g_const hX dL_refuses_797 ?_
  refine yf_icmp_ne hX dL_refuses_799 (ya_in rfl) (ya_in rfl) (by decide) ?_
  refine g_aload hX dL_refuses_802 rfl rfl ?_
  refine g_iload hX dL_refuses_803 rfl ?_
  refine g_const hX dL_refuses_805 ?_
  refine g_iload hX dL_refuses_808 rfl ?_
  refine g_const hX dL_refuses_810 ?_
  refine g_const hX dL_refuses_811 ?_
  refine l_act hX hst dL_refuses_812 hH hV (ya_in rfl) (ya_in rfl) (ya_in rfl) (ya_in rfl) (ya_in rfl) (ra18a (by decide +kernel)) (show cs + 10 + 10 ≤ 2700 by omega) (show ss + 250 + 250 ≤ 67500 by omega) (by first | exact Nat.le_of_ble_eq_true rfl | simp [cat_rf, Value.category]) (fun A ow τ M sz hH hV => ?_)
  refine g_const hX dL_refuses_815 ?_
  refine yf_icmp_ne hX dL_refuses_817 (ya_in rfl) (ya_in rfl) (by decide) ?_
  refine g_aload hX dL_refuses_820 rfl rfl ?_
  refine g_iload hX dL_refuses_821 rfl ?_
  refine g_const hX dL_refuses_823 ?_
  refine g_const hX dL_refuses_826 ?_
  refine g_iload hX dL_refuses_827 rfl ?_
  refine g_const hX dL_refuses_829 ?_
  refine l_act hX hst dL_refuses_830 hH hV (ya_in rfl) (ya_in rfl) (ya_in rfl) (ya_in rfl) (ya_in rfl) (ra18a (by decide +kernel)) (show cs + 10 + 10 + 10 ≤ 2700 by omega) (show ss + 250 + 250 + 250 ≤ 67500 by omega) (by first | exact Nat.le_of_ble_eq_true rfl | simp [cat_rf, Value.category]) (fun A ow τ M sz hH hV => ?_)
  refine g_const hX dL_refuses_833 ?_
  refine yf_icmp_ne hX dL_refuses_835 (ya_in rfl) (ya_in rfl) (by decide) ?_
  refine g_aload hX dL_refuses_838 rfl rfl ?_
  refine g_iload hX dL_refuses_839 rfl ?_
  refine g_const hX dL_refuses_841 ?_
  refine g_const hX dL_refuses_844 ?_
  refine g_const hX dL_refuses_845 ?_
  refine g_const hX dL_refuses_847 ?_
  refine l_act hX hst dL_refuses_848 hH hV (ya_in rfl) (ya_in rfl) (ya_in rfl) (ya_in rfl) (ya_in rfl) (ra18a (by decide +kernel)) (show cs + 10 + 10 + 10 + 10 ≤ 2700 by omega) (show ss + 250 + 250 + 250 + 250 ≤ 67500 by omega) (by first | exact Nat.le_of_ble_eq_true rfl | simp [cat_rf, Value.category]) (fun A ow τ M sz hH hV => ?_)
  refine g_const hX dL_refuses_851 ?_
  refine yf_icmp_ne hX dL_refuses_853 (ya_in rfl) (ya_in rfl) (by decide) ?_
  refine g_aload hX dL_refuses_856 rfl rfl ?_
  refine g_iload hX dL_refuses_857 rfl ?_
  refine g_const hX dL_refuses_859 ?_
  refine g_const hX dL_refuses_862 ?_
  refine g_const hX dL_refuses_864 ?_
  refine g_const hX dL_refuses_866 ?_
  refine l_act hX hst dL_refuses_867 hH hV (ya_in rfl) (ya_in rfl) (ya_in rfl) (ya_in rfl) (ya_in rfl) (ra18a (by decide +kernel)) (show cs + 10 + 10 + 10 + 10 + 10 ≤ 2700 by omega) (show ss + 250 + 250 + 250 + 250 + 250 ≤ 67500 by omega) (by first | exact Nat.le_of_ble_eq_true rfl | simp [cat_rf, Value.category]) (fun A ow τ M sz hH hV => ?_)
  refine g_const hX dL_refuses_870 ?_
  refine yf_icmp_ne hX dL_refuses_872 (ya_in rfl) (ya_in rfl) (by decide) ?_
  refine g_const hX dL_refuses_875 ?_
  exact rf_g8 hX hst hR hmt rm9 rn0 rn1 rn2 rn3 hK hH hV (by omega) (by omega)

set_option maxRecDepth 20000 in
theorem rf_g6 {X : hX} (hX : Cok X mL_refuses) (hst : X.1.2.1.stackTraces = false) {M0 : hM} {sz0 : Nat} {K : hK} (hR : Ret X mL_refuses M0 sz0 K) {h : Nat} {σ : SG} {mt : Int} (hmt : metK σ (σ 1 0 0).toNat = mt) (rm9 : inR mt) (rn0 : inR (σ 0 0 0)) (rn1 : inR (σ 1 0 0)) (rn2 : inR (σ 2 0 0)) (rn3 : inR (σ 3 0 0)) (hK : ∀ (A' : Nat → Nat → Nat) (ow' : Nat → Nat × Nat) (τ' : Nat → Nat → Int) (M' : hM) (s9 : Nat), HX X.2.2.2.2.2.2.2.2.2 h A' ow' σ τ' M' → SV σ → K (.inl (some (.int (iZ 1)))) M' s9) {A : Nat → Nat → Nat} {ow : Nat → Nat × Nat} {τ : Nat → Nat → Int} {M : hM} {sz cs ss : Nat} (hH : HX X.2.2.2.2.2.2.2.2.2 h A ow σ τ M) (hV : SV σ) (hc : cs + 2280 ≤ 2700) (hs : ss + 57000 ≤ 67500) : G X 886 [.ref h, .int (iZ (σ 0 0 0)), .int (iZ (σ 1 0 0)), .int (iZ (σ 2 0 0)), .int (iZ (σ 3 0 0)), .int (iZ 2147483647), .int (iZ mt), .int (iZ 0), .int (iZ (-1)), .int (iZ (-1)), .int (iZ (-1)), .int (iZ (-1)), .int (iZ 1599), .int (iZ 1499), .int (iZ 0), .int (iZ (-1)), .int (iZ 0), .int (iZ 0), .int (iZ 1), .int (iZ 14)] [.int (iZ 19), .int (iZ 14)] M sz cs ss := by
  have hn := hV.n
  unfold SVn at hn
  refine yf_icmp_eq hX dL_refuses_886 (ya_in rfl) (ya_in rfl) (by decide) ?_
  refine g_iload hX dL_refuses_889 rfl ?_
  refine g_const hX dL_refuses_891 ?_
  refine yt_icmp_ne hX dL_refuses_893 (ya_in rfl) (ya_in rfl) (by decide) ?_
  refine y_iinc (c := 15) hX dL_refuses_939 rfl (by decide) ?_
  dsimp only [List.set]
  refine g_goto hX dL_refuses_942 ?_
  refine g_iload hX dL_refuses_746 rfl ?_
  refine g_const hX dL_refuses_748 ?_
  refine yf_icmp_ge hX dL_refuses_750 (ya_in rfl) (ya_in rfl) (by decide) ?_
  refine g_iload hX dL_refuses_753 rfl ?_
  refine yf_if_eq hX dL_refuses_755 (ya_in rfl) (by decide) ?_
  refine g_iload hX dL_refuses_758 rfl ?_
  refine g_const hX dL_refuses_760 ?_
  refine yf_icmp_eq hX dL_refuses_762 (ya_in rfl) (ya_in rfl) (by decide) ?_
  refine g_iload hX dL_refuses_765 rfl ?_
  refine g_const hX dL_refuses_767 ?_
  refine yf_icmp_eq hX dL_refuses_769 (ya_in rfl) (ya_in rfl) (by decide) ?_
  refine g_iload hX dL_refuses_772 rfl ?_
  refine g_const hX dL_refuses_774 ?_
  refine yf_icmp_eq hX dL_refuses_776 (ya_in rfl) (ya_in rfl) (by decide) ?_
  refine g_iload hX dL_refuses_779 rfl ?_
  refine g_const hX dL_refuses_781 ?_
  refine yt_icmp_ne hX dL_refuses_783 (ya_in rfl) (ya_in rfl) (by decide) ?_
  refine g_iload hX dL_refuses_882 rfl ?_
  refine g_const hX dL_refuses_884 ?_
  refine yf_icmp_eq hX dL_refuses_886 (ya_in rfl) (ya_in rfl) (by decide) ?_
  refine g_iload hX dL_refuses_889 rfl ?_
  refine g_const hX dL_refuses_891 ?_
  refine yt_icmp_ne hX dL_refuses_893 (ya_in rfl) (ya_in rfl) (by decide) ?_
  refine y_iinc (c := 16) hX dL_refuses_939 rfl (by decide) ?_
  dsimp only [List.set]
  refine g_goto hX dL_refuses_942 ?_
  refine g_iload hX dL_refuses_746 rfl ?_
  refine g_const hX dL_refuses_748 ?_
  refine yf_icmp_ge hX dL_refuses_750 (ya_in rfl) (ya_in rfl) (by decide) ?_
  refine g_iload hX dL_refuses_753 rfl ?_
  refine yf_if_eq hX dL_refuses_755 (ya_in rfl) (by decide) ?_
  refine g_iload hX dL_refuses_758 rfl ?_
  refine g_const hX dL_refuses_760 ?_
  refine yf_icmp_eq hX dL_refuses_762 (ya_in rfl) (ya_in rfl) (by decide) ?_
  refine g_iload hX dL_refuses_765 rfl ?_
  refine g_const hX dL_refuses_767 ?_
  refine yf_icmp_eq hX dL_refuses_769 (ya_in rfl) (ya_in rfl) (by decide) ?_
  refine g_iload hX dL_refuses_772 rfl ?_
  refine g_const hX dL_refuses_774 ?_
  refine yf_icmp_eq hX dL_refuses_776 (ya_in rfl) (ya_in rfl) (by decide) ?_
  refine g_iload hX dL_refuses_779 rfl ?_
  refine g_const hX dL_refuses_781 ?_
  refine yt_icmp_ne hX dL_refuses_783 (ya_in rfl) (ya_in rfl) (by decide) ?_
  refine g_iload hX dL_refuses_882 rfl ?_
  refine g_const hX dL_refuses_884 ?_
  refine yf_icmp_eq hX dL_refuses_886 (ya_in rfl) (ya_in rfl) (by decide) ?_
  refine g_iload hX dL_refuses_889 rfl ?_
  refine g_const hX dL_refuses_891 ?_
  refine yt_icmp_ne hX dL_refuses_893 (ya_in rfl) (ya_in rfl) (by decide) ?_
  refine y_iinc (c := 17) hX dL_refuses_939 rfl (by decide) ?_
  dsimp only [List.set]
  refine g_goto hX dL_refuses_942 ?_
  refine g_iload hX dL_refuses_746 rfl ?_
  refine g_const hX dL_refuses_748 ?_
  refine yf_icmp_ge hX dL_refuses_750 (ya_in rfl) (ya_in rfl) (by decide) ?_
  refine g_iload hX dL_refuses_753 rfl ?_
  refine yf_if_eq hX dL_refuses_755 (ya_in rfl) (by decide) ?_
  refine g_iload hX dL_refuses_758 rfl ?_
  refine g_const hX dL_refuses_760 ?_
  refine yf_icmp_eq hX dL_refuses_762 (ya_in rfl) (ya_in rfl) (by decide) ?_
  refine g_iload hX dL_refuses_765 rfl ?_
  refine g_const hX dL_refuses_767 ?_
  refine yf_icmp_eq hX dL_refuses_769 (ya_in rfl) (ya_in rfl) (by decide) ?_
  refine g_iload hX dL_refuses_772 rfl ?_
  exact rf_g7 hX hst hR hmt rm9 rn0 rn1 rn2 rn3 hK hH hV (by omega) (by omega)

set_option maxRecDepth 20000 in
theorem rf_g5 {X : hX} (hX : Cok X mL_refuses) (hst : X.1.2.1.stackTraces = false) {M0 : hM} {sz0 : Nat} {K : hK} (hR : Ret X mL_refuses M0 sz0 K) {h : Nat} {σ : SG} {mt : Int} (hmt : metK σ (σ 1 0 0).toNat = mt) (rm9 : inR mt) (rn0 : inR (σ 0 0 0)) (rn1 : inR (σ 1 0 0)) (rn2 : inR (σ 2 0 0)) (rn3 : inR (σ 3 0 0)) (hK : ∀ (A' : Nat → Nat → Nat) (ow' : Nat → Nat × Nat) (τ' : Nat → Nat → Int) (M' : hM) (s9 : Nat), HX X.2.2.2.2.2.2.2.2.2 h A' ow' σ τ' M' → SV σ → K (.inl (some (.int (iZ 1)))) M' s9) {A : Nat → Nat → Nat} {ow : Nat → Nat × Nat} {τ : Nat → Nat → Int} {M : hM} {sz cs ss : Nat} (hH : HX X.2.2.2.2.2.2.2.2.2 h A ow σ τ M) (hV : SV σ) (hc : cs + 2330 ≤ 2700) (hs : ss + 58250 ≤ 67500) : G X 794 [.ref h, .int (iZ (σ 0 0 0)), .int (iZ (σ 1 0 0)), .int (iZ (σ 2 0 0)), .int (iZ (σ 3 0 0)), .int (iZ 2147483647), .int (iZ mt), .int (iZ 0), .int (iZ (-1)), .int (iZ (-1)), .int (iZ (-1)), .int (iZ (-1)), .int (iZ 1599), .int (iZ 1499), .int (iZ 0), .int (iZ (-1)), .int (iZ 0), .int (iZ 0), .int (iZ 1), .int (iZ 13)] [.int (iZ 0), .int (iZ 1), .int (iZ 1), .int (iZ 1599), .int (iZ 13), .ref h] M sz cs ss := by
  have hn := hV.n
  unfold SVn at hn
  refine l_act hX hst dL_refuses_794 hH hV (ya_in rfl) (ya_in rfl) (ya_in rfl) (ya_in rfl) (ya_in rfl) (ra13a (by decide +kernel)) (show cs + 10 ≤ 2700 by omega) (show ss + 250 ≤ 67500 by omega) (by first | exact Nat.le_of_ble_eq_true rfl | simp [cat_rf, Value.category]) (fun A ow τ M sz hH hV => ?_)
  refine g_const hX dL_refuses_797 ?_
  refine yf_icmp_ne hX dL_refuses_799 (ya_in rfl) (ya_in rfl) (by decide) ?_
  refine g_aload hX dL_refuses_802 rfl rfl ?_
  refine g_iload hX dL_refuses_803 rfl ?_
  refine g_const hX dL_refuses_805 ?_
  refine g_iload hX dL_refuses_808 rfl ?_
  refine g_const hX dL_refuses_810 ?_
  refine g_const hX dL_refuses_811 ?_
  refine l_act hX hst dL_refuses_812 hH hV (ya_in rfl) (ya_in rfl) (ya_in rfl) (ya_in rfl) (ya_in rfl) (ra13a (by decide +kernel)) (show cs + 10 + 10 ≤ 2700 by omega) (show ss + 250 + 250 ≤ 67500 by omega) (by first | exact Nat.le_of_ble_eq_true rfl | simp [cat_rf, Value.category]) (fun A ow τ M sz hH hV => ?_)
  refine g_const hX dL_refuses_815 ?_
  refine yf_icmp_ne hX dL_refuses_817 (ya_in rfl) (ya_in rfl) (by decide) ?_
  refine g_aload hX dL_refuses_820 rfl rfl ?_
  refine g_iload hX dL_refuses_821 rfl ?_
  refine g_const hX dL_refuses_823 ?_
  refine g_const hX dL_refuses_826 ?_
  refine g_iload hX dL_refuses_827 rfl ?_
  refine g_const hX dL_refuses_829 ?_
  refine l_act hX hst dL_refuses_830 hH hV (ya_in rfl) (ya_in rfl) (ya_in rfl) (ya_in rfl) (ya_in rfl) (ra13a (by decide +kernel)) (show cs + 10 + 10 + 10 ≤ 2700 by omega) (show ss + 250 + 250 + 250 ≤ 67500 by omega) (by first | exact Nat.le_of_ble_eq_true rfl | simp [cat_rf, Value.category]) (fun A ow τ M sz hH hV => ?_)
  refine g_const hX dL_refuses_833 ?_
  refine yf_icmp_ne hX dL_refuses_835 (ya_in rfl) (ya_in rfl) (by decide) ?_
  refine g_aload hX dL_refuses_838 rfl rfl ?_
  refine g_iload hX dL_refuses_839 rfl ?_
  refine g_const hX dL_refuses_841 ?_
  refine g_const hX dL_refuses_844 ?_
  refine g_const hX dL_refuses_845 ?_
  refine g_const hX dL_refuses_847 ?_
  refine l_act hX hst dL_refuses_848 hH hV (ya_in rfl) (ya_in rfl) (ya_in rfl) (ya_in rfl) (ya_in rfl) (ra13a (by decide +kernel)) (show cs + 10 + 10 + 10 + 10 ≤ 2700 by omega) (show ss + 250 + 250 + 250 + 250 ≤ 67500 by omega) (by first | exact Nat.le_of_ble_eq_true rfl | simp [cat_rf, Value.category]) (fun A ow τ M sz hH hV => ?_)
  refine g_const hX dL_refuses_851 ?_
  refine yf_icmp_ne hX dL_refuses_853 (ya_in rfl) (ya_in rfl) (by decide) ?_
  refine g_aload hX dL_refuses_856 rfl rfl ?_
  refine g_iload hX dL_refuses_857 rfl ?_
  refine g_const hX dL_refuses_859 ?_
  refine g_const hX dL_refuses_862 ?_
  refine g_const hX dL_refuses_864 ?_
  refine g_const hX dL_refuses_866 ?_
  refine l_act hX hst dL_refuses_867 hH hV (ya_in rfl) (ya_in rfl) (ya_in rfl) (ya_in rfl) (ya_in rfl) (ra13a (by decide +kernel)) (show cs + 10 + 10 + 10 + 10 + 10 ≤ 2700 by omega) (show ss + 250 + 250 + 250 + 250 + 250 ≤ 67500 by omega) (by first | exact Nat.le_of_ble_eq_true rfl | simp [cat_rf, Value.category]) (fun A ow τ M sz hH hV => ?_)
  refine g_const hX dL_refuses_870 ?_
  refine yf_icmp_ne hX dL_refuses_872 (ya_in rfl) (ya_in rfl) (by decide) ?_
  refine g_const hX dL_refuses_875 ?_
  refine g_goto hX dL_refuses_876 ?_
  refine g_istore hX dL_refuses_880 ?_
  dsimp only [List.set]
  refine g_iload hX dL_refuses_882 rfl ?_
  refine g_const hX dL_refuses_884 ?_
  refine yf_icmp_eq hX dL_refuses_886 (ya_in rfl) (ya_in rfl) (by decide) ?_
  refine g_iload hX dL_refuses_889 rfl ?_
  refine g_const hX dL_refuses_891 ?_
  refine yt_icmp_ne hX dL_refuses_893 (ya_in rfl) (ya_in rfl) (by decide) ?_
  refine y_iinc (c := 14) hX dL_refuses_939 rfl (by decide) ?_
  dsimp only [List.set]
  refine g_goto hX dL_refuses_942 ?_
  refine g_iload hX dL_refuses_746 rfl ?_
  refine g_const hX dL_refuses_748 ?_
  refine yf_icmp_ge hX dL_refuses_750 (ya_in rfl) (ya_in rfl) (by decide) ?_
  refine g_iload hX dL_refuses_753 rfl ?_
  refine yf_if_eq hX dL_refuses_755 (ya_in rfl) (by decide) ?_
  refine g_iload hX dL_refuses_758 rfl ?_
  refine g_const hX dL_refuses_760 ?_
  refine yf_icmp_eq hX dL_refuses_762 (ya_in rfl) (ya_in rfl) (by decide) ?_
  refine g_iload hX dL_refuses_765 rfl ?_
  refine g_const hX dL_refuses_767 ?_
  refine yf_icmp_eq hX dL_refuses_769 (ya_in rfl) (ya_in rfl) (by decide) ?_
  refine g_iload hX dL_refuses_772 rfl ?_
  refine g_const hX dL_refuses_774 ?_
  refine yf_icmp_eq hX dL_refuses_776 (ya_in rfl) (ya_in rfl) (by decide) ?_
  refine g_iload hX dL_refuses_779 rfl ?_
  refine g_const hX dL_refuses_781 ?_
  refine yt_icmp_ne hX dL_refuses_783 (ya_in rfl) (ya_in rfl) (by decide) ?_
  refine g_iload hX dL_refuses_882 rfl ?_
  refine g_const hX dL_refuses_884 ?_
  exact rf_g6 hX hst hR hmt rm9 rn0 rn1 rn2 rn3 hK hH hV (by omega) (by omega)

set_option maxRecDepth 20000 in
theorem rf_g4 {X : hX} (hX : Cok X mL_refuses) (hst : X.1.2.1.stackTraces = false) {M0 : hM} {sz0 : Nat} {K : hK} (hR : Ret X mL_refuses M0 sz0 K) {h : Nat} {σ : SG} {mt : Int} (hmt : metK σ (σ 1 0 0).toNat = mt) (rm9 : inR mt) (rn0 : inR (σ 0 0 0)) (rn1 : inR (σ 1 0 0)) (rn2 : inR (σ 2 0 0)) (rn3 : inR (σ 3 0 0)) (hK : ∀ (A' : Nat → Nat → Nat) (ow' : Nat → Nat × Nat) (τ' : Nat → Nat → Int) (M' : hM) (s9 : Nat), HX X.2.2.2.2.2.2.2.2.2 h A' ow' σ τ' M' → SV σ → K (.inl (some (.int (iZ 1)))) M' s9) {A : Nat → Nat → Nat} {ow : Nat → Nat × Nat} {τ : Nat → Nat → Int} {M : hM} {sz cs ss : Nat} (hH : HX X.2.2.2.2.2.2.2.2.2 h A ow σ τ M) (hV : SV σ) (hc : cs + 2380 ≤ 2700) (hs : ss + 59500 ≤ 67500) : G X 610 [.ref h, .int (iZ (σ 0 0 0)), .int (iZ (σ 1 0 0)), .int (iZ (σ 2 0 0)), .int (iZ (σ 3 0 0)), .int (iZ 2147483647), .int (iZ mt), .int (iZ 0), .int (iZ (-1)), .int (iZ (-1)), .int (iZ (-1)), .int (iZ (-1)), .int (iZ 1599), .int (iZ 1499), .int (iZ 0), .int (iZ (-1)), .int (iZ 0), .int (iZ 0), U9, U9] [.int (iZ (-61)), .int (iZ 1), .int (iZ 1), .int (iZ 15), .ref h] M sz cs ss := by
  have hn := hV.n
  unfold SVn at hn
  refine g_goto hX dL_refuses_610 ?_
  refine g_const hX dL_refuses_626 ?_
  refine l_act hX hst dL_refuses_627 hH hV (ya_in rfl) (ya_in rfl) (ya_in rfl) (ya_in rfl) (ya_in rfl) (ra15a (by decide +kernel)) (show cs + 10 ≤ 2700 by omega) (show ss + 250 ≤ 67500 by omega) (by first | exact Nat.le_of_ble_eq_true rfl | simp [cat_rf, Value.category]) (fun A ow τ M sz hH hV => ?_)
  refine g_const hX dL_refuses_630 ?_
  refine yf_icmp_ne hX dL_refuses_632 (ya_in rfl) (ya_in rfl) (by decide) ?_
  refine g_aload hX dL_refuses_635 rfl rfl ?_
  refine g_const hX dL_refuses_636 ?_
  refine g_iload hX dL_refuses_638 rfl ?_
  refine g_const hX dL_refuses_640 ?_
  refine yt_icmp_ne hX dL_refuses_641 (ya_in rfl) (ya_in rfl) (by decide) ?_
  refine g_iload hX dL_refuses_649 rfl ?_
  refine g_const hX dL_refuses_651 ?_
  refine g_const hX dL_refuses_652 ?_
  refine g_const hX dL_refuses_653 ?_
  refine l_act hX hst dL_refuses_654 hH hV (ya_in rfl) (ya_in rfl) (ya_in rfl) (ya_in rfl) (ya_in rfl) (ra16a (by decide +kernel)) (show cs + 10 + 10 ≤ 2700 by omega) (show ss + 250 + 250 ≤ 67500 by omega) (by first | exact Nat.le_of_ble_eq_true rfl | simp [cat_rf, Value.category]) (fun A ow τ M sz hH hV => ?_)
  refine g_const hX dL_refuses_657 ?_
  refine yf_icmp_ne hX dL_refuses_659 (ya_in rfl) (ya_in rfl) (by decide) ?_
  refine g_aload hX dL_refuses_662 rfl rfl ?_
  refine g_const hX dL_refuses_663 ?_
  refine g_iload hX dL_refuses_665 rfl ?_
  refine g_const hX dL_refuses_667 ?_
  refine g_const hX dL_refuses_669 ?_
  refine g_const hX dL_refuses_671 ?_
  refine l_act hX hst dL_refuses_672 hH hV (ya_in rfl) (ya_in rfl) (ya_in rfl) (ya_in rfl) (ya_in rfl) (ra17a (fun q => by
    rcases q with q | q
    · omega
    · have q1 := q.1
      have q2 := q.2
      omega)) (show cs + 10 + 10 + 10 ≤ 2700 by omega) (show ss + 250 + 250 + 250 ≤ 67500 by omega) (by first | exact Nat.le_of_ble_eq_true rfl | simp [cat_rf, Value.category]) (fun A ow τ M sz hH hV => ?_)
  refine g_const hX dL_refuses_675 ?_
  refine yf_icmp_ne hX dL_refuses_677 (ya_in rfl) (ya_in rfl) (by decide) ?_
  refine g_aload hX dL_refuses_680 rfl rfl ?_
  refine g_const hX dL_refuses_681 ?_
  refine g_const hX dL_refuses_683 ?_
  refine g_iload hX dL_refuses_685 rfl ?_
  refine g_const hX dL_refuses_687 ?_
  refine yt_icmp_ne hX dL_refuses_688 (ya_in rfl) (ya_in rfl) (by decide) ?_
  refine g_iload hX dL_refuses_695 rfl ?_
  refine g_const hX dL_refuses_697 ?_
  refine g_const hX dL_refuses_698 ?_
  refine l_act hX hst dL_refuses_699 hH hV (ya_in rfl) (ya_in rfl) (ya_in rfl) (ya_in rfl) (ya_in rfl) (ra17b (Or.inl rfl) (by decide +kernel)) (show cs + 10 + 10 + 10 + 10 ≤ 2700 by omega) (show ss + 250 + 250 + 250 + 250 ≤ 67500 by omega) (by first | exact Nat.le_of_ble_eq_true rfl | simp [cat_rf, Value.category]) (fun A ow τ M sz hH hV => ?_)
  refine g_const hX dL_refuses_702 ?_
  refine yf_icmp_ne hX dL_refuses_704 (ya_in rfl) (ya_in rfl) (by decide) ?_
  refine g_aload hX dL_refuses_707 rfl rfl ?_
  refine g_const hX dL_refuses_708 ?_
  refine g_const hX dL_refuses_710 ?_
  refine g_const hX dL_refuses_712 ?_
  refine g_iload hX dL_refuses_713 rfl ?_
  refine g_const hX dL_refuses_715 ?_
  refine yt_icmp_ne hX dL_refuses_716 (ya_in rfl) (ya_in rfl) (by decide) ?_
  refine g_iload hX dL_refuses_724 rfl ?_
  refine g_const hX dL_refuses_726 ?_
  refine l_act hX hst dL_refuses_727 hH hV (ya_in rfl) (ya_in rfl) (ya_in rfl) (ya_in rfl) (ya_in rfl) (ra17b (Or.inl rfl) (by decide +kernel)) (show cs + 10 + 10 + 10 + 10 + 10 ≤ 2700 by omega) (show ss + 250 + 250 + 250 + 250 + 250 ≤ 67500 by omega) (by first | exact Nat.le_of_ble_eq_true rfl | simp [cat_rf, Value.category]) (fun A ow τ M sz hH hV => ?_)
  refine g_const hX dL_refuses_730 ?_
  refine yf_icmp_ne hX dL_refuses_732 (ya_in rfl) (ya_in rfl) (by decide) ?_
  refine g_const hX dL_refuses_735 ?_
  refine g_goto hX dL_refuses_736 ?_
  refine g_istore hX dL_refuses_740 ?_
  dsimp only [List.set]
  refine g_const hX dL_refuses_742 ?_
  refine g_istore hX dL_refuses_744 ?_
  dsimp only [List.set]
  refine g_iload hX dL_refuses_746 rfl ?_
  refine g_const hX dL_refuses_748 ?_
  refine yf_icmp_ge hX dL_refuses_750 (ya_in rfl) (ya_in rfl) (by decide) ?_
  refine g_iload hX dL_refuses_753 rfl ?_
  refine yf_if_eq hX dL_refuses_755 (ya_in rfl) (by decide) ?_
  refine g_iload hX dL_refuses_758 rfl ?_
  refine g_const hX dL_refuses_760 ?_
  refine yt_icmp_eq hX dL_refuses_762 (ya_in rfl) (ya_in rfl) (by decide) ?_
  refine g_aload hX dL_refuses_786 rfl rfl ?_
  refine g_iload hX dL_refuses_787 rfl ?_
  refine g_iload hX dL_refuses_789 rfl ?_
  refine g_const hX dL_refuses_791 ?_
  refine g_const hX dL_refuses_792 ?_
  refine g_const hX dL_refuses_793 ?_
  exact rf_g5 hX hst hR hmt rm9 rn0 rn1 rn2 rn3 hK hH hV (by omega) (by omega)

set_option maxRecDepth 20000 in
theorem rf_g3 {X : hX} (hX : Cok X mL_refuses) (hst : X.1.2.1.stackTraces = false) {M0 : hM} {sz0 : Nat} {K : hK} (hR : Ret X mL_refuses M0 sz0 K) {h : Nat} {σ : SG} {mt : Int} (hmt : metK σ (σ 1 0 0).toNat = mt) (rm9 : inR mt) (rn0 : inR (σ 0 0 0)) (rn1 : inR (σ 1 0 0)) (rn2 : inR (σ 2 0 0)) (rn3 : inR (σ 3 0 0)) (hK : ∀ (A' : Nat → Nat → Nat) (ow' : Nat → Nat × Nat) (τ' : Nat → Nat → Int) (M' : hM) (s9 : Nat), HX X.2.2.2.2.2.2.2.2.2 h A' ow' σ τ' M' → SV σ → K (.inl (some (.int (iZ 1)))) M' s9) {A : Nat → Nat → Nat} {ow : Nat → Nat × Nat} {τ : Nat → Nat → Int} {M : hM} {sz cs ss : Nat} (hH : HX X.2.2.2.2.2.2.2.2.2 h A ow σ τ M) (hV : SV σ) (hc : cs + 2450 ≤ 2700) (hs : ss + 61250 ≤ 67500) : G X 482 [.ref h, .int (iZ (σ 0 0 0)), .int (iZ (σ 1 0 0)), .int (iZ (σ 2 0 0)), .int (iZ (σ 3 0 0)), .int (iZ 2147483647), .int (iZ mt), .int (iZ 0), .int (iZ (-1)), .int (iZ (-1)), .int (iZ (-1)), .int (iZ (-1)), .int (iZ 1599), .int (iZ 1499), .int (iZ 0), .int (iZ (-1)), .int (iZ 0), .int (iZ 0), U9, U9] [.int (iZ (-7000001)), .int (iZ (-7000001))] M sz cs ss := by
  have hn := hV.n
  unfold SVn at hn
  refine yf_icmp_ne hX dL_refuses_482 (ya_in rfl) (ya_in rfl) (by decide) ?_
  refine g_aload hX dL_refuses_485 rfl rfl ?_
  refine g_const hX dL_refuses_486 ?_
  refine g_iload hX dL_refuses_488 rfl ?_
  refine g_const hX dL_refuses_490 ?_
  refine g_const hX dL_refuses_492 ?_
  refine g_const hX dL_refuses_493 ?_
  refine l_act hX hst dL_refuses_494 hH hV (ya_in rfl) (ya_in rfl) (ya_in rfl) (ya_in rfl) (ya_in rfl) (ra10a (fun q => by have q1 := q.1; have q2 := q.2; omega)) (show cs + 10 ≤ 2700 by omega) (show ss + 250 ≤ 67500 by omega) (by first | exact Nat.le_of_ble_eq_true rfl | simp [cat_rf, Value.category]) (fun A ow τ M sz hH hV => ?_)
  refine g_const hX dL_refuses_497 ?_
  refine yf_icmp_ne hX dL_refuses_499 (ya_in rfl) (ya_in rfl) (by decide) ?_
  refine g_aload hX dL_refuses_502 rfl rfl ?_
  refine g_const hX dL_refuses_503 ?_
  refine g_iload hX dL_refuses_505 rfl ?_
  refine g_const hX dL_refuses_507 ?_
  refine g_const hX dL_refuses_508 ?_
  refine g_const hX dL_refuses_509 ?_
  refine l_act hX hst dL_refuses_510 hH hV (ya_in rfl) (ya_in rfl) (ya_in rfl) (ya_in rfl) (ya_in rfl) (ra11a (by decide +kernel)) (show cs + 10 + 10 ≤ 2700 by omega) (show ss + 250 + 250 ≤ 67500 by omega) (by first | exact Nat.le_of_ble_eq_true rfl | simp [cat_rf, Value.category]) (fun A ow τ M sz hH hV => ?_)
  refine g_const hX dL_refuses_513 ?_
  refine yf_icmp_ne hX dL_refuses_515 (ya_in rfl) (ya_in rfl) (by decide) ?_
  refine g_aload hX dL_refuses_518 rfl rfl ?_
  refine g_const hX dL_refuses_519 ?_
  refine g_iload hX dL_refuses_521 rfl ?_
  refine g_const hX dL_refuses_523 ?_
  refine g_const hX dL_refuses_524 ?_
  refine g_const hX dL_refuses_525 ?_
  refine l_act hX hst dL_refuses_526 hH hV (ya_in rfl) (ya_in rfl) (ya_in rfl) (ya_in rfl) (ya_in rfl) (ra12a (by decide +kernel)) (show cs + 10 + 10 + 10 ≤ 2700 by omega) (show ss + 250 + 250 + 250 ≤ 67500 by omega) (by first | exact Nat.le_of_ble_eq_true rfl | simp [cat_rf, Value.category]) (fun A ow τ M sz hH hV => ?_)
  refine g_const hX dL_refuses_529 ?_
  refine yf_icmp_ne hX dL_refuses_531 (ya_in rfl) (ya_in rfl) (by decide) ?_
  refine g_aload hX dL_refuses_534 rfl rfl ?_
  refine g_const hX dL_refuses_535 ?_
  refine g_iload hX dL_refuses_537 rfl ?_
  refine g_const hX dL_refuses_539 ?_
  refine g_const hX dL_refuses_540 ?_
  refine g_const hX dL_refuses_541 ?_
  refine l_act hX hst dL_refuses_542 hH hV (ya_in rfl) (ya_in rfl) (ya_in rfl) (ya_in rfl) (ya_in rfl) (ra14a (by decide +kernel)) (show cs + 10 + 10 + 10 + 10 ≤ 2700 by omega) (show ss + 250 + 250 + 250 + 250 ≤ 67500 by omega) (by first | exact Nat.le_of_ble_eq_true rfl | simp [cat_rf, Value.category]) (fun A ow τ M sz hH hV => ?_)
  refine g_const hX dL_refuses_545 ?_
  refine yf_icmp_ne hX dL_refuses_547 (ya_in rfl) (ya_in rfl) (by decide) ?_
  refine g_aload hX dL_refuses_550 rfl rfl ?_
  refine g_const hX dL_refuses_551 ?_
  refine g_const hX dL_refuses_553 ?_
  refine g_const hX dL_refuses_554 ?_
  refine g_iload hX dL_refuses_555 rfl ?_
  refine g_const hX dL_refuses_557 ?_
  refine l_act hX hst dL_refuses_558 hH hV (ya_in rfl) (ya_in rfl) (ya_in rfl) (ya_in rfl) (ya_in rfl) (ra14a (by decide +kernel)) (show cs + 10 + 10 + 10 + 10 + 10 ≤ 2700 by omega) (show ss + 250 + 250 + 250 + 250 + 250 ≤ 67500 by omega) (by first | exact Nat.le_of_ble_eq_true rfl | simp [cat_rf, Value.category]) (fun A ow τ M sz hH hV => ?_)
  refine g_const hX dL_refuses_561 ?_
  refine yf_icmp_ne hX dL_refuses_563 (ya_in rfl) (ya_in rfl) (by decide) ?_
  refine g_aload hX dL_refuses_566 rfl rfl ?_
  refine g_const hX dL_refuses_567 ?_
  refine g_const hX dL_refuses_569 ?_
  refine g_const hX dL_refuses_570 ?_
  refine g_const hX dL_refuses_571 ?_
  refine g_iload hX dL_refuses_572 rfl ?_
  refine l_act hX hst dL_refuses_574 hH hV (ya_in rfl) (ya_in rfl) (ya_in rfl) (ya_in rfl) (ya_in rfl) (ra14a (by decide +kernel)) (show cs + 10 + 10 + 10 + 10 + 10 + 10 ≤ 2700 by omega) (show ss + 250 + 250 + 250 + 250 + 250 + 250 ≤ 67500 by omega) (by first | exact Nat.le_of_ble_eq_true rfl | simp [cat_rf, Value.category]) (fun A ow τ M sz hH hV => ?_)
  refine g_const hX dL_refuses_577 ?_
  refine yf_icmp_ne hX dL_refuses_579 (ya_in rfl) (ya_in rfl) (by decide) ?_
  refine g_aload hX dL_refuses_582 rfl rfl ?_
  refine g_const hX dL_refuses_583 ?_
  refine g_iload hX dL_refuses_585 rfl ?_
  refine g_const hX dL_refuses_587 ?_
  refine g_const hX dL_refuses_588 ?_
  refine g_const hX dL_refuses_589 ?_
  refine l_act hX hst dL_refuses_590 hH hV (ya_in rfl) (ya_in rfl) (ya_in rfl) (ya_in rfl) (ya_in rfl) (ra15a (by decide +kernel)) (show cs + 10 + 10 + 10 + 10 + 10 + 10 + 10 ≤ 2700 by omega) (show ss + 250 + 250 + 250 + 250 + 250 + 250 + 250 ≤ 67500 by omega) (by first | exact Nat.le_of_ble_eq_true rfl | simp [cat_rf, Value.category]) (fun A ow τ M sz hH hV => ?_)
  refine g_const hX dL_refuses_593 ?_
  refine yf_icmp_ne hX dL_refuses_595 (ya_in rfl) (ya_in rfl) (by decide) ?_
  refine g_aload hX dL_refuses_598 rfl rfl ?_
  refine g_const hX dL_refuses_599 ?_
  refine g_const hX dL_refuses_601 ?_
  refine g_const hX dL_refuses_602 ?_
  refine g_iload hX dL_refuses_603 rfl ?_
  refine yf_if_ne hX dL_refuses_605 (ya_in rfl) (by decide) ?_
  refine g_const hX dL_refuses_608 ?_
  exact rf_g4 hX hst hR hmt rm9 rn0 rn1 rn2 rn3 hK hH hV (by omega) (by omega)

set_option maxRecDepth 20000 in
theorem rf_g2 {X : hX} (hX : Cok X mL_refuses) (hst : X.1.2.1.stackTraces = false) {M0 : hM} {sz0 : Nat} {K : hK} (hR : Ret X mL_refuses M0 sz0 K) {h : Nat} {σ : SG} {mt : Int} (hmt : metK σ (σ 1 0 0).toNat = mt) (rm9 : inR mt) (rn0 : inR (σ 0 0 0)) (rn1 : inR (σ 1 0 0)) (rn2 : inR (σ 2 0 0)) (rn3 : inR (σ 3 0 0)) (hK : ∀ (A' : Nat → Nat → Nat) (ow' : Nat → Nat × Nat) (τ' : Nat → Nat → Int) (M' : hM) (s9 : Nat), HX X.2.2.2.2.2.2.2.2.2 h A' ow' σ τ' M' → SV σ → K (.inl (some (.int (iZ 1)))) M' s9) {A : Nat → Nat → Nat} {ow : Nat → Nat × Nat} {τ : Nat → Nat → Int} {M : hM} {sz cs ss : Nat} (hH : HX X.2.2.2.2.2.2.2.2.2 h A ow σ τ M) (hV : SV σ) (hc : cs + 2530 ≤ 2700) (hs : ss + 63250 ≤ 67500) : G X 361 [.ref h, .int (iZ (σ 0 0 0)), .int (iZ (σ 1 0 0)), .int (iZ (σ 2 0 0)), .int (iZ (σ 3 0 0)), .int (iZ 2147483647), .int (iZ mt), .int (iZ 0), .int (iZ (-1)), .int (iZ (-1)), .int (iZ (-1)), .int (iZ (-1)), .int (iZ 1599), .int (iZ 1499), .int (iZ 0), .int (iZ (-1)), .int (iZ 0), .int (iZ 0), U9, U9] [] M sz cs ss := by
  have hn := hV.n
  unfold SVn at hn
  refine g_aload hX dL_refuses_361 rfl rfl ?_
  refine g_const hX dL_refuses_362 ?_
  refine g_iload hX dL_refuses_363 rfl ?_
  refine g_const hX dL_refuses_365 ?_
  refine g_const hX dL_refuses_366 ?_
  refine g_const hX dL_refuses_367 ?_
  refine l_act hX hst dL_refuses_368 hH hV (ya_in rfl) (ya_in rfl) (ya_in rfl) (ya_in rfl) (ya_in rfl) (ra4a (fun q => by have q1 := q.1.1; have q2 := q.1.2; omega)) (show cs + 10 ≤ 2700 by omega) (show ss + 250 ≤ 67500 by omega) (by first | exact Nat.le_of_ble_eq_true rfl | simp [cat_rf, Value.category]) (fun A ow τ M sz hH hV => ?_)
  refine g_const hX dL_refuses_371 ?_
  refine yf_icmp_ne hX dL_refuses_373 (ya_in rfl) (ya_in rfl) (by decide) ?_
  refine g_aload hX dL_refuses_376 rfl rfl ?_
  refine g_const hX dL_refuses_377 ?_
  refine g_const hX dL_refuses_378 ?_
  refine g_iload hX dL_refuses_379 rfl ?_
  refine g_const hX dL_refuses_381 ?_
  refine g_const hX dL_refuses_382 ?_
  refine l_act hX hst dL_refuses_383 hH hV (ya_in rfl) (ya_in rfl) (ya_in rfl) (ya_in rfl) (ya_in rfl) (ra4a (fun q => by have q1 := q.2.1; have q2 := q.2.2; omega)) (show cs + 10 + 10 ≤ 2700 by omega) (show ss + 250 + 250 ≤ 67500 by omega) (by first | exact Nat.le_of_ble_eq_true rfl | simp [cat_rf, Value.category]) (fun A ow τ M sz hH hV => ?_)
  refine g_const hX dL_refuses_386 ?_
  refine yf_icmp_ne hX dL_refuses_388 (ya_in rfl) (ya_in rfl) (by decide) ?_
  refine g_aload hX dL_refuses_391 rfl rfl ?_
  refine g_const hX dL_refuses_392 ?_
  refine g_iload hX dL_refuses_393 rfl ?_
  refine g_const hX dL_refuses_395 ?_
  refine g_const hX dL_refuses_396 ?_
  refine g_const hX dL_refuses_397 ?_
  refine l_act hX hst dL_refuses_398 hH hV (ya_in rfl) (ya_in rfl) (ya_in rfl) (ya_in rfl) (ya_in rfl) (ra5a (fun q => by have q1 := q.1.1; have q2 := q.1.2; omega)) (show cs + 10 + 10 + 10 ≤ 2700 by omega) (show ss + 250 + 250 + 250 ≤ 67500 by omega) (by first | exact Nat.le_of_ble_eq_true rfl | simp [cat_rf, Value.category]) (fun A ow τ M sz hH hV => ?_)
  refine g_const hX dL_refuses_401 ?_
  refine yf_icmp_ne hX dL_refuses_403 (ya_in rfl) (ya_in rfl) (by decide) ?_
  refine g_aload hX dL_refuses_406 rfl rfl ?_
  refine g_const hX dL_refuses_407 ?_
  refine g_const hX dL_refuses_408 ?_
  refine g_iload hX dL_refuses_409 rfl ?_
  refine g_const hX dL_refuses_411 ?_
  refine g_const hX dL_refuses_412 ?_
  refine l_act hX hst dL_refuses_413 hH hV (ya_in rfl) (ya_in rfl) (ya_in rfl) (ya_in rfl) (ya_in rfl) (ra5a (fun q => by have q1 := q.2.1; have q2 := q.2.2; omega)) (show cs + 10 + 10 + 10 + 10 ≤ 2700 by omega) (show ss + 250 + 250 + 250 + 250 ≤ 67500 by omega) (by first | exact Nat.le_of_ble_eq_true rfl | simp [cat_rf, Value.category]) (fun A ow τ M sz hH hV => ?_)
  refine g_const hX dL_refuses_416 ?_
  refine yf_icmp_ne hX dL_refuses_418 (ya_in rfl) (ya_in rfl) (by decide) ?_
  refine g_aload hX dL_refuses_421 rfl rfl ?_
  refine g_const hX dL_refuses_422 ?_
  refine g_iload hX dL_refuses_424 rfl ?_
  refine g_const hX dL_refuses_426 ?_
  refine g_const hX dL_refuses_427 ?_
  refine g_const hX dL_refuses_428 ?_
  refine l_act hX hst dL_refuses_429 hH hV (ya_in rfl) (ya_in rfl) (ya_in rfl) (ya_in rfl) (ya_in rfl) (ra6a (fun q => by have q1 := q.1; have q2 := q.2; omega)) (show cs + 10 + 10 + 10 + 10 + 10 ≤ 2700 by omega) (show ss + 250 + 250 + 250 + 250 + 250 ≤ 67500 by omega) (by first | exact Nat.le_of_ble_eq_true rfl | simp [cat_rf, Value.category]) (fun A ow τ M sz hH hV => ?_)
  refine g_const hX dL_refuses_432 ?_
  refine yf_icmp_ne hX dL_refuses_434 (ya_in rfl) (ya_in rfl) (by decide) ?_
  refine g_aload hX dL_refuses_437 rfl rfl ?_
  refine g_const hX dL_refuses_438 ?_
  refine g_iload hX dL_refuses_440 rfl ?_
  refine g_const hX dL_refuses_442 ?_
  refine g_const hX dL_refuses_443 ?_
  refine g_const hX dL_refuses_444 ?_
  refine l_act hX hst dL_refuses_445 hH hV (ya_in rfl) (ya_in rfl) (ya_in rfl) (ya_in rfl) (ya_in rfl) (ra7a (fun q => by have q1 := q.1; have q2 := q.2; omega)) (show cs + 10 + 10 + 10 + 10 + 10 + 10 ≤ 2700 by omega) (show ss + 250 + 250 + 250 + 250 + 250 + 250 ≤ 67500 by omega) (by first | exact Nat.le_of_ble_eq_true rfl | simp [cat_rf, Value.category]) (fun A ow τ M sz hH hV => ?_)
  refine g_const hX dL_refuses_448 ?_
  refine yf_icmp_ne hX dL_refuses_450 (ya_in rfl) (ya_in rfl) (by decide) ?_
  refine g_aload hX dL_refuses_453 rfl rfl ?_
  refine g_const hX dL_refuses_454 ?_
  refine g_iload hX dL_refuses_456 rfl ?_
  refine g_const hX dL_refuses_458 ?_
  refine g_const hX dL_refuses_459 ?_
  refine g_const hX dL_refuses_460 ?_
  refine l_act hX hst dL_refuses_461 hH hV (ya_in rfl) (ya_in rfl) (ya_in rfl) (ya_in rfl) (ya_in rfl) (ra8a (fun q => by have q1 := q.1; have q2 := q.2; omega)) (show cs + 10 + 10 + 10 + 10 + 10 + 10 + 10 ≤ 2700 by omega) (show ss + 250 + 250 + 250 + 250 + 250 + 250 + 250 ≤ 67500 by omega) (by first | exact Nat.le_of_ble_eq_true rfl | simp [cat_rf, Value.category]) (fun A ow τ M sz hH hV => ?_)
  refine g_const hX dL_refuses_464 ?_
  refine yf_icmp_ne hX dL_refuses_466 (ya_in rfl) (ya_in rfl) (by decide) ?_
  refine g_aload hX dL_refuses_469 rfl rfl ?_
  refine g_const hX dL_refuses_470 ?_
  refine g_iload hX dL_refuses_472 rfl ?_
  refine g_const hX dL_refuses_474 ?_
  refine g_const hX dL_refuses_475 ?_
  refine g_const hX dL_refuses_476 ?_
  refine l_act hX hst dL_refuses_477 hH hV (ya_in rfl) (ya_in rfl) (ya_in rfl) (ya_in rfl) (ya_in rfl) (ra9a (fun q => by have q1 := q.1; have q2 := q.2; omega)) (show cs + 10 + 10 + 10 + 10 + 10 + 10 + 10 + 10 ≤ 2700 by omega) (show ss + 250 + 250 + 250 + 250 + 250 + 250 + 250 + 250 ≤ 67500 by omega) (by first | exact Nat.le_of_ble_eq_true rfl | simp [cat_rf, Value.category]) (fun A ow τ M sz hH hV => ?_)
  refine g_const hX dL_refuses_480 ?_
  exact rf_g3 hX hst hR hmt rm9 rn0 rn1 rn2 rn3 hK hH hV (by omega) (by omega)

set_option maxRecDepth 20000 in
theorem rf_g1 {X : hX} (hX : Cok X mL_refuses) (hst : X.1.2.1.stackTraces = false) {M0 : hM} {sz0 : Nat} {K : hK} (hR : Ret X mL_refuses M0 sz0 K) {h : Nat} {σ : SG} {mt : Int} (hmt : metK σ (σ 1 0 0).toNat = mt) (rm9 : inR mt) (rn0 : inR (σ 0 0 0)) (rn1 : inR (σ 1 0 0)) (rn2 : inR (σ 2 0 0)) (rn3 : inR (σ 3 0 0)) (hK : ∀ (A' : Nat → Nat → Nat) (ow' : Nat → Nat × Nat) (τ' : Nat → Nat → Int) (M' : hM) (s9 : Nat), HX X.2.2.2.2.2.2.2.2.2 h A' ow' σ τ' M' → SV σ → K (.inl (some (.int (iZ 1)))) M' s9) {A : Nat → Nat → Nat} {ow : Nat → Nat × Nat} {τ : Nat → Nat → Int} {M : hM} {sz cs ss : Nat} (hH : HX X.2.2.2.2.2.2.2.2.2 h A ow σ τ M) (hV : SV σ) (hc : cs + 2600 ≤ 2700) (hs : ss + 65000 ≤ 67500) : G X 227 [.ref h, .int (iZ (σ 0 0 0)), .int (iZ (σ 1 0 0)), .int (iZ (σ 2 0 0)), .int (iZ (σ 3 0 0)), .int (iZ 2147483647), .int (iZ mt), .int (iZ 0), .int (iZ (-1)), .int (iZ (-1)), .int (iZ (-1)), .int (iZ (-1)), .int (iZ 1599), .int (iZ 1499), .int (iZ 0), .int (iZ (-1)), .int (iZ 0), U9, U9, U9] [.int (iZ 0)] M sz cs ss := by
  have hn := hV.n
  unfold SVn at hn
  refine g_istore hX dL_refuses_227 ?_
  dsimp only [List.set]
  refine g_aload hX dL_refuses_229 rfl rfl ?_
  refine g_const hX dL_refuses_230 ?_
  refine g_iload hX dL_refuses_231 rfl ?_
  refine g_const hX dL_refuses_233 ?_
  refine g_const hX dL_refuses_234 ?_
  refine g_const hX dL_refuses_235 ?_
  refine l_act hX hst dL_refuses_236 hH hV (ya_in rfl) (ya_in rfl) (ya_in rfl) (ya_in rfl) (ya_in rfl) (ra0a (by decide +kernel)) (show cs + 10 ≤ 2700 by omega) (show ss + 250 ≤ 67500 by omega) (by first | exact Nat.le_of_ble_eq_true rfl | simp [cat_rf, Value.category]) (fun A ow τ M sz hH hV => ?_)
  refine g_const hX dL_refuses_239 ?_
  refine yf_icmp_ne hX dL_refuses_241 (ya_in rfl) (ya_in rfl) (by decide) ?_
  refine g_aload hX dL_refuses_244 rfl rfl ?_
  refine g_const hX dL_refuses_245 ?_
  refine g_const hX dL_refuses_246 ?_
  refine g_iload hX dL_refuses_249 rfl ?_
  refine g_const hX dL_refuses_251 ?_
  refine yt_icmp_ne hX dL_refuses_252 (ya_in rfl) (ya_in rfl) (by decide) ?_
  refine g_iload hX dL_refuses_260 rfl ?_
  refine g_const hX dL_refuses_262 ?_
  refine g_const hX dL_refuses_263 ?_
  refine l_act hX hst dL_refuses_264 hH hV (ya_in rfl) (ya_in rfl) (ya_in rfl) (ya_in rfl) (ya_in rfl) (ra0a (by decide +kernel)) (show cs + 10 + 10 ≤ 2700 by omega) (show ss + 250 + 250 ≤ 67500 by omega) (by first | exact Nat.le_of_ble_eq_true rfl | simp [cat_rf, Value.category]) (fun A ow τ M sz hH hV => ?_)
  refine g_const hX dL_refuses_267 ?_
  refine yf_icmp_ne hX dL_refuses_269 (ya_in rfl) (ya_in rfl) (by decide) ?_
  refine g_aload hX dL_refuses_272 rfl rfl ?_
  refine g_const hX dL_refuses_273 ?_
  refine g_iload hX dL_refuses_274 rfl ?_
  refine g_const hX dL_refuses_276 ?_
  refine g_const hX dL_refuses_277 ?_
  refine g_const hX dL_refuses_278 ?_
  refine l_act hX hst dL_refuses_279 hH hV (ya_in rfl) (ya_in rfl) (ya_in rfl) (ya_in rfl) (ya_in rfl) (ra1a (fun q => by have q1 := q.1; have q2 := q.2; omega)) (show cs + 10 + 10 + 10 ≤ 2700 by omega) (show ss + 250 + 250 + 250 ≤ 67500 by omega) (by first | exact Nat.le_of_ble_eq_true rfl | simp [cat_rf, Value.category]) (fun A ow τ M sz hH hV => ?_)
  refine g_const hX dL_refuses_282 ?_
  refine yf_icmp_ne hX dL_refuses_284 (ya_in rfl) (ya_in rfl) (by decide) ?_
  refine g_aload hX dL_refuses_287 rfl rfl ?_
  refine g_const hX dL_refuses_288 ?_
  refine g_iload hX dL_refuses_289 rfl ?_
  refine g_const hX dL_refuses_291 ?_
  refine g_const hX dL_refuses_292 ?_
  refine g_const hX dL_refuses_293 ?_
  refine l_act hX hst dL_refuses_294 hH hV (ya_in rfl) (ya_in rfl) (ya_in rfl) (ya_in rfl) (ya_in rfl) (ra2a (by decide +kernel)) (show cs + 10 + 10 + 10 + 10 ≤ 2700 by omega) (show ss + 250 + 250 + 250 + 250 ≤ 67500 by omega) (by first | exact Nat.le_of_ble_eq_true rfl | simp [cat_rf, Value.category]) (fun A ow τ M sz hH hV => ?_)
  refine g_const hX dL_refuses_297 ?_
  refine yf_icmp_ne hX dL_refuses_299 (ya_in rfl) (ya_in rfl) (by decide) ?_
  refine g_aload hX dL_refuses_302 rfl rfl ?_
  refine g_const hX dL_refuses_303 ?_
  refine g_const hX dL_refuses_304 ?_
  refine g_iload hX dL_refuses_307 rfl ?_
  refine g_const hX dL_refuses_309 ?_
  refine g_const hX dL_refuses_311 ?_
  refine l_act hX hst dL_refuses_312 hH hV (ya_in rfl) (ya_in rfl) (ya_in rfl) (ya_in rfl) (ya_in rfl) (ra2a (by decide +kernel)) (show cs + 10 + 10 + 10 + 10 + 10 ≤ 2700 by omega) (show ss + 250 + 250 + 250 + 250 + 250 ≤ 67500 by omega) (by first | exact Nat.le_of_ble_eq_true rfl | simp [cat_rf, Value.category]) (fun A ow τ M sz hH hV => ?_)
  refine g_const hX dL_refuses_315 ?_
  refine yf_icmp_ne hX dL_refuses_317 (ya_in rfl) (ya_in rfl) (by decide) ?_
  refine g_aload hX dL_refuses_320 rfl rfl ?_
  refine g_const hX dL_refuses_321 ?_
  refine g_const hX dL_refuses_322 ?_
  refine g_const hX dL_refuses_325 ?_
  refine g_iload hX dL_refuses_326 rfl ?_
  refine yf_if_ne hX dL_refuses_328 (ya_in rfl) (by decide) ?_
  refine g_const hX dL_refuses_331 ?_
  refine g_goto hX dL_refuses_332 ?_
  refine g_const hX dL_refuses_337 ?_
  refine l_act hX hst dL_refuses_338 hH hV (ya_in rfl) (ya_in rfl) (ya_in rfl) (ya_in rfl) (ya_in rfl) (ra2a (by decide +kernel)) (show cs + 10 + 10 + 10 + 10 + 10 + 10 ≤ 2700 by omega) (show ss + 250 + 250 + 250 + 250 + 250 + 250 ≤ 67500 by omega) (by first | exact Nat.le_of_ble_eq_true rfl | simp [cat_rf, Value.category]) (fun A ow τ M sz hH hV => ?_)
  refine g_const hX dL_refuses_341 ?_
  refine yf_icmp_ne hX dL_refuses_343 (ya_in rfl) (ya_in rfl) (by decide) ?_
  refine g_aload hX dL_refuses_346 rfl rfl ?_
  refine g_const hX dL_refuses_347 ?_
  refine g_iload hX dL_refuses_348 rfl ?_
  refine g_const hX dL_refuses_350 ?_
  refine g_const hX dL_refuses_351 ?_
  refine g_const hX dL_refuses_352 ?_
  refine l_act hX hst dL_refuses_353 hH hV (ya_in rfl) (ya_in rfl) (ya_in rfl) (ya_in rfl) (ya_in rfl) (ra3a (fun q => by have q1 := q.1; have q2 := q.2; omega)) (show cs + 10 + 10 + 10 + 10 + 10 + 10 + 10 ≤ 2700 by omega) (show ss + 250 + 250 + 250 + 250 + 250 + 250 + 250 ≤ 67500 by omega) (by first | exact Nat.le_of_ble_eq_true rfl | simp [cat_rf, Value.category]) (fun A ow τ M sz hH hV => ?_)
  refine g_const hX dL_refuses_356 ?_
  refine yf_icmp_ne hX dL_refuses_358 (ya_in rfl) (ya_in rfl) (by decide) ?_
  exact rf_g2 hX hst hR hmt rm9 rn0 rn1 rn2 rn3 hK hH hV (by omega) (by omega)

set_option maxRecDepth 20000 in
theorem rf_g0 {X : hX} (hX : Cok X mL_refuses) (hst : X.1.2.1.stackTraces = false) {M0 : hM} {sz0 : Nat} {K : hK} (hR : Ret X mL_refuses M0 sz0 K) {h : Nat} {σ : SG} {mt : Int} (hmt : metK σ (σ 1 0 0).toNat = mt) (rm9 : inR mt) (rn0 : inR (σ 0 0 0)) (rn1 : inR (σ 1 0 0)) (rn2 : inR (σ 2 0 0)) (rn3 : inR (σ 3 0 0)) (hK : ∀ (A' : Nat → Nat → Nat) (ow' : Nat → Nat × Nat) (τ' : Nat → Nat → Int) (M' : hM) (s9 : Nat), HX X.2.2.2.2.2.2.2.2.2 h A' ow' σ τ' M' → SV σ → K (.inl (some (.int (iZ 1)))) M' s9) {A : Nat → Nat → Nat} {ow : Nat → Nat × Nat} {τ : Nat → Nat → Int} {M : hM} {sz cs ss : Nat} (hH : HX X.2.2.2.2.2.2.2.2.2 h A ow σ τ M) (hV : SV σ) (hc : cs + 2600 ≤ 2700) (hs : ss + 65000 ≤ 67500) : G X 0 [.ref h, .int (iZ (σ 0 0 0)), .int (iZ (σ 1 0 0)), .int (iZ (σ 2 0 0)), .int (iZ (σ 3 0 0)), U9, U9, U9, U9, U9, U9, U9, U9, U9, U9, U9, U9, U9, U9, U9] [] M sz cs ss := by
  have hn := hV.n
  unfold SVn at hn
  refine g_const hX dL_refuses_0 ?_
  refine g_istore hX dL_refuses_2 ?_
  dsimp only [List.set]
  refine g_aload hX dL_refuses_4 rfl rfl ?_
  refine l_metres hX hst dL_refuses_5 hH hV (show oc_metres σ = (0, mt, σ) from by rw [← hmt]; rfl) (show cs + 0 ≤ 2700 by omega) (show ss + 0 ≤ 67500 by omega) (by first | exact Nat.le_of_ble_eq_true rfl | simp [cat_rf, Value.category]) (fun A ow τ M sz hH hV => ?_)
  refine g_istore hX dL_refuses_8 ?_
  dsimp only [List.set]
  refine g_const hX dL_refuses_10 ?_
  refine g_istore hX dL_refuses_11 ?_
  dsimp only [List.set]
  refine g_iload hX dL_refuses_13 rfl ?_
  refine g_const hX dL_refuses_15 ?_
  refine yf_icmp_ge hX dL_refuses_16 (ya_in rfl) (ya_in rfl) (by decide) ?_
  refine g_iload hX dL_refuses_19 rfl ?_
  refine yf_if_ne hX dL_refuses_21 (ya_in rfl) (by decide) ?_
  refine g_const hX dL_refuses_24 ?_
  refine g_goto hX dL_refuses_25 ?_
  refine g_istore hX dL_refuses_44 ?_
  dsimp only [List.set]
  refine g_iload hX dL_refuses_46 rfl ?_
  refine g_const hX dL_refuses_48 ?_
  refine yt_icmp_ne hX dL_refuses_49 (ya_in rfl) (ya_in rfl) (by decide) ?_
  refine g_iload hX dL_refuses_56 rfl ?_
  refine g_istore hX dL_refuses_58 ?_
  dsimp only [List.set]
  refine g_iload hX dL_refuses_60 rfl ?_
  refine g_const hX dL_refuses_62 ?_
  refine yt_icmp_ne hX dL_refuses_63 (ya_in rfl) (ya_in rfl) (by decide) ?_
  refine g_iload hX dL_refuses_70 rfl ?_
  refine g_istore hX dL_refuses_72 ?_
  dsimp only [List.set]
  refine g_iload hX dL_refuses_74 rfl ?_
  refine g_const hX dL_refuses_76 ?_
  refine yt_icmp_ne hX dL_refuses_77 (ya_in rfl) (ya_in rfl) (by decide) ?_
  refine g_iload hX dL_refuses_84 rfl ?_
  refine g_istore hX dL_refuses_86 ?_
  dsimp only [List.set]
  refine g_iload hX dL_refuses_88 rfl ?_
  refine yf_if_ne hX dL_refuses_90 (ya_in rfl) (by decide) ?_
  refine g_const hX dL_refuses_93 ?_
  refine g_goto hX dL_refuses_96 ?_
  refine g_istore hX dL_refuses_113 ?_
  dsimp only [List.set]
  refine g_iload hX dL_refuses_115 rfl ?_
  refine yf_if_ne hX dL_refuses_117 (ya_in rfl) (by decide) ?_
  refine g_const hX dL_refuses_120 ?_
  refine g_goto hX dL_refuses_123 ?_
  refine g_istore hX dL_refuses_140 ?_
  dsimp only [List.set]
  refine g_iload hX dL_refuses_142 rfl ?_
  refine yf_if_ne hX dL_refuses_144 (ya_in rfl) (by decide) ?_
  refine g_const hX dL_refuses_147 ?_
  refine g_goto hX dL_refuses_148 ?_
  refine g_istore hX dL_refuses_164 ?_
  dsimp only [List.set]
  refine g_iload hX dL_refuses_166 rfl ?_
  refine g_const hX dL_refuses_168 ?_
  refine yt_icmp_ne hX dL_refuses_169 (ya_in rfl) (ya_in rfl) (by decide) ?_
  refine g_iload hX dL_refuses_177 rfl ?_
  refine g_istore hX dL_refuses_179 ?_
  dsimp only [List.set]
  refine g_iload hX dL_refuses_181 rfl ?_
  refine yf_if_ne hX dL_refuses_183 (ya_in rfl) (by decide) ?_
  refine g_const hX dL_refuses_186 ?_
  refine g_goto hX dL_refuses_187 ?_
  refine g_istore hX dL_refuses_203 ?_
  dsimp only [List.set]
  refine g_iload hX dL_refuses_205 rfl ?_
  refine yf_if_ne hX dL_refuses_207 (ya_in rfl) (by decide) ?_
  refine g_const hX dL_refuses_210 ?_
  refine g_goto hX dL_refuses_211 ?_
  exact rf_g1 hX hst hR hmt rm9 rn0 rn1 rn2 rn3 hK hH hV (by omega) (by omega)

def sp_L_refuses (g : hG) : hS := fun as M sz K => ∃ (h : Nat) (A : Nat → Nat → Nat) (ow : Nat → Nat × Nat) (σ : SG) (τ : Nat → Nat → Int), as = [.ref h, .int (iZ (σ 0 0 0)), .int (iZ (σ 1 0 0)), .int (iZ (σ 2 0 0)), .int (iZ (σ 3 0 0))] ∧ HX g.2.2.2.2 h A ow σ τ M ∧ SV σ ∧ (∀ (A' : Nat → Nat → Nat) (ow' : Nat → Nat × Nat) (τ' : Nat → Nat → Int) (M' : hM) (s9 : Nat), HX g.2.2.2.2 h A' ow' σ τ' M' → SV σ → K (.inl (some (.int (iZ 1)))) M' s9)
theorem s_L_refuses {l : Launch} {g : hG} (hst : l.stackTraces = false) : Ctr l g mL_refuses (sp_L_refuses g) := by
  refine Ctr.mk9 hst (by decide) ?_ ?_
  · rintro as M sz K ⟨h, A, ow, σ, τ, rfl, hH, hV, hK⟩
    exact ⟨by simp [mL_refuses], cat_ok rfl⟩
  rintro X as M sz K hX rfl rfl hR ⟨h, A, ow, σ, τ, rfl, hH, hV, hK⟩
  show G X 0 [.ref h, .int (iZ (σ 0 0 0)), .int (iZ (σ 1 0 0)), .int (iZ (σ 2 0 0)), .int (iZ (σ 3 0 0)), U9, U9, U9, U9, U9, U9, U9, U9, U9, U9, U9, U9, U9, U9, U9] [] M sz 0 0
  have hn := hV.n
  unfold SVn at hn
  have hmk := metK_r σ (σ 1 0 0).toNat
  exact rf_g0 hX hst hR rfl (by constructor <;> omega) (by constructor <;> omega) (by constructor <;> omega) (by constructor <;> omega) (by constructor <;> omega) hK hH hV (by omega) (by omega)

section Y4
variable {X : hX} {d : hD} {pc n t i : Nat} {lv st rest : List Value} {M : hM} {sz cs ss : Nat} {h : Nat} {A : Nat → Nat → Nat} {ow : Nat → Nat × Nat} {σ : SG} {τ : Nat → Nat → Int} {m0 m1 m2 m3 : Int}
theorem l_refuses (hX : Cok X d) (hst : X.1.2.1.stackTraces = false) (hat : AtS d pc mL_refuses 5 n) (hH : HX X.2.2.2.2.2.2.2.2.2 h A ow σ τ M) (hV : SV σ) (e0 : σ 0 0 0 = m0) (e1 : σ 1 0 0 = m1) (e2 : σ 2 0 0 = m2) (e3 : σ 3 0 0 = m3) (hc : cs + 2700 ≤ d.2.2.2.2.1.cells) (hs : ss + 67500 ≤ d.2.2.2.2.1.slots) (hW : (rest.map fun v => v.category).sum ≤ 8) (kk : ∀ (A' : Nat → Nat → Nat) (ow' : Nat → Nat × Nat) (τ' : Nat → Nat → Int) (M' : hM) (s9 : Nat), HX X.2.2.2.2.2.2.2.2.2 h A' ow' σ τ' M' → SV σ → G X n lv (.int (iZ 1) :: rest) M' s9 (cs + 2700) (ss + 67500)) : G X pc lv (.int (iZ m3) :: .int (iZ m2) :: .int (iZ m1) :: .int (iZ m0) :: .ref h :: rest) M sz cs ss := by
  subst e0
  subst e1
  subst e2
  subst e3
  refine g_cS5 (c2 := cs + 2700) (s2 := ss + 67500) hX (s_L_refuses hst) hat hW ⟨rfl, rfl, hc, hs⟩ ?_
  exact ⟨h, A, ow, σ, τ, rfl, hH, hV, fun A1 ow1 τ1 M1 s1 hH1 hV1 => Kc_i (kk A1 ow1 τ1 M1 s1 hH1 hV1)⟩
end Y4

