/-! the law's drawn calls: the ways through its loop -/
set_option maxRecDepth 20000 in
theorem lawA1 {X : hX} (hX : Cok X mL_law) (hst : X.1.2.1.stackTraces = false) {b h : Nat} {n0 n1 n2 n3 k w y z Y : Int} {u7 u12 u13 u14 u15 u16 u17 : Value} {σ : SG} {A : Nat → Nat → Nat} {ow : Nat → Nat × Nat} {τ : Nat → Nat → Int} {M : hM} {sz cs ss : Nat} (rk : inR k) (hw : 0 ≤ w ∧ w < 13) (hy : 0 ≤ y ∧ y ≤ 1290555) (hz : 0 ≤ z ∧ z ≤ 21509) (hY : 1600 ≤ Y ∧ Y ≤ 2399) (hH : HX X.2.2.2.2.2.2.2.2.2 h A ow σ τ M) (hV : SV σ) (e0 : σ 0 0 0 = n0) (e1 : σ 1 0 0 = n1) (e2 : σ 2 0 0 = n2) (e3 : σ 3 0 0 = n3)  (q : n0 < 12) {c9 s8 : Nat} (hc : cs + 10 ≤ c9) (hs : ss + 250 ≤ s8) (hc9 : c9 ≤ 600104) (hs8 : s8 ≤ 7301314) (hn : ∀ (σ' : SG) (A' : Nat → Nat → Nat) (ow' : Nat → Nat × Nat) (τ' : Nat → Nat → Int) (M' : hM) (s9 : Nat) (m0 m1 m2 m3 : Int) (u7 u8 u9 u10 u11 u12 u13 u14 u15 u16 u17 : Value), HX X.2.2.2.2.2.2.2.2.2 h A' ow' σ' τ' M' → SV σ' → σ' 0 0 0 = m0 → σ' 1 0 0 = m1 → σ' 2 0 0 = m2 → σ' 3 0 0 = m3 → G X 1123 [.ref b, .ref h, .int (iZ m0), .int (iZ m1), .int (iZ m2), .int (iZ m3), .int (iZ k), u7, u8, u9, u10, u11, u12, u13, u14, u15, u16, u17] [] M' s9 c9 s8) : G X 103 [.ref b, .ref h, .int (iZ n0), .int (iZ n1), .int (iZ n2), .int (iZ n3), .int (iZ k), u7, .int (iZ w), .int (iZ y), .int (iZ z), .int (iZ Y), u12, u13, u14, u15, u16, u17] [] M sz cs ss := by
  have hsn := hV.n
  unfold SVn at hsn
  have rn0 : inR n0 := by constructor <;> omega
  have rn1 : inR n1 := by constructor <;> omega
  have rn2 : inR n2 := by constructor <;> omega
  have rn3 : inR n3 := by constructor <;> omega
  have rw9 : inR w := by constructor <;> omega
  have ry : inR y := by constructor <;> omega
  have rz : inR z := by constructor <;> omega
  have rY : inR Y := by constructor <;> omega
  refine g_aload hX dL_law_103 rfl rfl ?_
  refine g_const hX dL_law_104 ?_
  refine g_const hX dL_law_105 ?_
  refine g_iload hX dL_law_108 rfl ?_
  refine g_const hX dL_law_110 ?_
  obtain ⟨yr900, hyr900⟩ : ∃ c : Int, y % 900 = c := ⟨_, rfl⟩
  have byr900 : 0 ≤ yr900 ∧ yr900 < 900 := by omega
  refine y_irem (c := yr900) hX dL_law_113 ry (ya_in rfl) (by omega) (by omega) hyr900 ?_
  refine z_iadd hX dL_law_114 ?_
  refine g_iload hX dL_law_115 rfl ?_
  refine g_const hX dL_law_117 ?_
  obtain ⟨zr65536, hzr65536⟩ : ∃ c : Int, z % 65536 = c := ⟨_, rfl⟩
  have bzr65536 : 0 ≤ zr65536 ∧ zr65536 < 65536 := by omega
  refine y_irem (c := zr65536) hX dL_law_119 rz (ya_in rfl) (by omega) (by omega) hzr65536 ?_
  refine g_const hX dL_law_120 ?_
  refine g_const hX dL_law_121 ?_
  refine l_act hX hst dL_law_122 hH hV (ya_in rfl) (by constructor <;> omega) (by constructor <;> omega) (ya_in rfl) (ya_in rfl) (show ya_act σ 0 (1500 + yr900) zr65536 0 0 = (n0, adT σ (1500 + yr900) zr65536) from by rw [← e0]; exact yb_text1 (by omega) (by omega) (by omega)) (show cs + 10 ≤ 600104 by omega) (show ss + 250 ≤ 7301314 by omega) (by first | exact Nat.le_of_ble_eq_true rfl | simp [cat_rf, Value.category]) (fun A ow τ M sz hH hV => ?_)
  have hct := yb_adT σ (1500 + yr900) zr65536
  refine g_iload hX dL_law_125 rfl ?_
  refine g_const hX dL_law_126 ?_
  refine yf_icmp_ge hX dL_law_128 rn0 (ya_in rfl) (by omega) ?_
  refine g_iload hX dL_law_131 rfl ?_
  refine g_goto hX dL_law_132 ?_
  refine yt_icmp_eq hX dL_law_137 rn0 rn0 rfl ?_
  refine g_iload hX dL_law_142 rfl ?_
  refine g_iload hX dL_law_143 rfl ?_
  refine g_const hX dL_law_144 ?_
  refine yf_icmp_ge hX dL_law_146 rn0 (ya_in rfl) (by omega) ?_
  refine g_const hX dL_law_149 ?_
  refine g_goto hX dL_law_150 ?_
  refine z_iadd hX dL_law_154 ?_
  refine g_istore hX dL_law_155 ?_
  dsimp only [List.set]
  refine g_goto hX dL_law_156 ?_
  exact g_wide (by omega) (by omega) (hn _ _ _ _ _ _ _ _ _ _ _ _ _ _ _ _ _ _ _ _ _ hH hV (by rw [hct.1, e0]) (hct.2.1.trans e1) (hct.2.2.1.trans e2) (hct.2.2.2.trans e3))

set_option maxRecDepth 20000 in
theorem lawA2 {X : hX} (hX : Cok X mL_law) (hst : X.1.2.1.stackTraces = false) {b h : Nat} {n0 n1 n2 n3 k w y z Y : Int} {u7 u12 u13 u14 u15 u16 u17 : Value} {σ : SG} {A : Nat → Nat → Nat} {ow : Nat → Nat × Nat} {τ : Nat → Nat → Int} {M : hM} {sz cs ss : Nat} (rk : inR k) (hw : 0 ≤ w ∧ w < 13) (hy : 0 ≤ y ∧ y ≤ 1290555) (hz : 0 ≤ z ∧ z ≤ 21509) (hY : 1600 ≤ Y ∧ Y ≤ 2399) (hH : HX X.2.2.2.2.2.2.2.2.2 h A ow σ τ M) (hV : SV σ) (e0 : σ 0 0 0 = n0) (e1 : σ 1 0 0 = n1) (e2 : σ 2 0 0 = n2) (e3 : σ 3 0 0 = n3)  (q : n0 = 12) {c9 s8 : Nat} (hc : cs + 10 ≤ c9) (hs : ss + 250 ≤ s8) (hc9 : c9 ≤ 600104) (hs8 : s8 ≤ 7301314) (hn : ∀ (σ' : SG) (A' : Nat → Nat → Nat) (ow' : Nat → Nat × Nat) (τ' : Nat → Nat → Int) (M' : hM) (s9 : Nat) (m0 m1 m2 m3 : Int) (u7 u8 u9 u10 u11 u12 u13 u14 u15 u16 u17 : Value), HX X.2.2.2.2.2.2.2.2.2 h A' ow' σ' τ' M' → SV σ' → σ' 0 0 0 = m0 → σ' 1 0 0 = m1 → σ' 2 0 0 = m2 → σ' 3 0 0 = m3 → G X 1123 [.ref b, .ref h, .int (iZ m0), .int (iZ m1), .int (iZ m2), .int (iZ m3), .int (iZ k), u7, u8, u9, u10, u11, u12, u13, u14, u15, u16, u17] [] M' s9 c9 s8) : G X 103 [.ref b, .ref h, .int (iZ n0), .int (iZ n1), .int (iZ n2), .int (iZ n3), .int (iZ k), u7, .int (iZ w), .int (iZ y), .int (iZ z), .int (iZ Y), u12, u13, u14, u15, u16, u17] [] M sz cs ss := by
  have hsn := hV.n
  unfold SVn at hsn
  have rn0 : inR n0 := by constructor <;> omega
  have rn1 : inR n1 := by constructor <;> omega
  have rn2 : inR n2 := by constructor <;> omega
  have rn3 : inR n3 := by constructor <;> omega
  have rw9 : inR w := by constructor <;> omega
  have ry : inR y := by constructor <;> omega
  have rz : inR z := by constructor <;> omega
  have rY : inR Y := by constructor <;> omega
  refine g_aload hX dL_law_103 rfl rfl ?_
  refine g_const hX dL_law_104 ?_
  refine g_const hX dL_law_105 ?_
  refine g_iload hX dL_law_108 rfl ?_
  refine g_const hX dL_law_110 ?_
  obtain ⟨yr900, hyr900⟩ : ∃ c : Int, y % 900 = c := ⟨_, rfl⟩
  have byr900 : 0 ≤ yr900 ∧ yr900 < 900 := by omega
  refine y_irem (c := yr900) hX dL_law_113 ry (ya_in rfl) (by omega) (by omega) hyr900 ?_
  refine z_iadd hX dL_law_114 ?_
  refine g_iload hX dL_law_115 rfl ?_
  refine g_const hX dL_law_117 ?_
  obtain ⟨zr65536, hzr65536⟩ : ∃ c : Int, z % 65536 = c := ⟨_, rfl⟩
  have bzr65536 : 0 ≤ zr65536 ∧ zr65536 < 65536 := by omega
  refine y_irem (c := zr65536) hX dL_law_119 rz (ya_in rfl) (by omega) (by omega) hzr65536 ?_
  refine g_const hX dL_law_120 ?_
  refine g_const hX dL_law_121 ?_
  refine l_act hX hst dL_law_122 hH hV (ya_in rfl) (by constructor <;> omega) (by constructor <;> omega) (ya_in rfl) (ya_in rfl) (yb_text2 (by omega) (by omega) (by omega)) (show cs + 10 ≤ 600104 by omega) (show ss + 250 ≤ 7301314 by omega) (by first | exact Nat.le_of_ble_eq_true rfl | simp [cat_rf, Value.category]) (fun A ow τ M sz hH hV => ?_)
  refine g_iload hX dL_law_125 rfl ?_
  refine g_const hX dL_law_126 ?_
  refine yt_icmp_ge hX dL_law_128 rn0 (ya_in rfl) (by omega) ?_
  refine g_const hX dL_law_135 ?_
  refine yt_icmp_eq hX dL_law_137 (ya_in rfl) (ya_in rfl) rfl ?_
  refine g_iload hX dL_law_142 rfl ?_
  refine g_iload hX dL_law_143 rfl ?_
  refine g_const hX dL_law_144 ?_
  refine yt_icmp_ge hX dL_law_146 rn0 (ya_in rfl) (by omega) ?_
  refine g_const hX dL_law_153 ?_
  refine y_iadd (c := n0) hX dL_law_154 (by omega) ?_
  refine g_istore hX dL_law_155 ?_
  dsimp only [List.set]
  refine g_goto hX dL_law_156 ?_
  exact g_wide (by omega) (by omega) (hn _ _ _ _ _ _ _ _ _ _ _ _ _ _ _ _ _ _ _ _ _ hH hV e0 e1 e2 e3)

set_option maxRecDepth 20000 in
theorem lawB1 {X : hX} (hX : Cok X mL_law) (hst : X.1.2.1.stackTraces = false) {b h : Nat} {n0 n1 n2 n3 k w y z Y : Int} {u7 u12 u13 u14 u15 u16 u17 : Value} {σ : SG} {A : Nat → Nat → Nat} {ow : Nat → Nat × Nat} {τ : Nat → Nat → Int} {M : hM} {sz cs ss : Nat} (rk : inR k) (hw : 0 ≤ w ∧ w < 13) (hy : 0 ≤ y ∧ y ≤ 1290555) (hz : 0 ≤ z ∧ z ≤ 21509) (hY : 1600 ≤ Y ∧ Y ≤ 2399) (hH : HX X.2.2.2.2.2.2.2.2.2 h A ow σ τ M) (hV : SV σ) (e0 : σ 0 0 0 = n0) (e1 : σ 1 0 0 = n1) (e2 : σ 2 0 0 = n2) (e3 : σ 3 0 0 = n3)  (q : n1 < 12) {c9 s8 : Nat} (hc : cs + 10 ≤ c9) (hs : ss + 250 ≤ s8) (hc9 : c9 ≤ 600104) (hs8 : s8 ≤ 7301314) (hn : ∀ (σ' : SG) (A' : Nat → Nat → Nat) (ow' : Nat → Nat × Nat) (τ' : Nat → Nat → Int) (M' : hM) (s9 : Nat) (m0 m1 m2 m3 : Int) (u7 u8 u9 u10 u11 u12 u13 u14 u15 u16 u17 : Value), HX X.2.2.2.2.2.2.2.2.2 h A' ow' σ' τ' M' → SV σ' → σ' 0 0 0 = m0 → σ' 1 0 0 = m1 → σ' 2 0 0 = m2 → σ' 3 0 0 = m3 → G X 1123 [.ref b, .ref h, .int (iZ m0), .int (iZ m1), .int (iZ m2), .int (iZ m3), .int (iZ k), u7, u8, u9, u10, u11, u12, u13, u14, u15, u16, u17] [] M' s9 c9 s8) : G X 169 [.ref b, .ref h, .int (iZ n0), .int (iZ n1), .int (iZ n2), .int (iZ n3), .int (iZ k), u7, .int (iZ w), .int (iZ y), .int (iZ z), .int (iZ Y), u12, u13, u14, u15, u16, u17] [] M sz cs ss := by
  have hsn := hV.n
  unfold SVn at hsn
  have rn0 : inR n0 := by constructor <;> omega
  have rn1 : inR n1 := by constructor <;> omega
  have rn2 : inR n2 := by constructor <;> omega
  have rn3 : inR n3 := by constructor <;> omega
  have rw9 : inR w := by constructor <;> omega
  have ry : inR y := by constructor <;> omega
  have rz : inR z := by constructor <;> omega
  have rY : inR Y := by constructor <;> omega
  refine g_aload hX dL_law_169 rfl rfl ?_
  refine g_const hX dL_law_170 ?_
  refine g_const hX dL_law_171 ?_
  refine g_iload hX dL_law_174 rfl ?_
  refine g_const hX dL_law_176 ?_
  obtain ⟨yr900, hyr900⟩ : ∃ c : Int, y % 900 = c := ⟨_, rfl⟩
  have byr900 : 0 ≤ yr900 ∧ yr900 < 900 := by omega
  refine y_irem (c := yr900) hX dL_law_179 ry (ya_in rfl) (by omega) (by omega) hyr900 ?_
  refine z_iadd hX dL_law_180 ?_
  refine g_iload hX dL_law_181 rfl ?_
  refine g_const hX dL_law_183 ?_
  obtain ⟨zr20, hzr20⟩ : ∃ c : Int, z % 20 = c := ⟨_, rfl⟩
  have bzr20 : 0 ≤ zr20 ∧ zr20 < 20 := by omega
  refine y_irem (c := zr20) hX dL_law_185 rz (ya_in rfl) (by omega) (by omega) hzr20 ?_
  refine g_const hX dL_law_186 ?_
  refine g_iload hX dL_law_188 rfl ?_
  refine g_const hX dL_law_190 ?_
  obtain ⟨yr21, hyr21⟩ : ∃ c : Int, y % 21 = c := ⟨_, rfl⟩
  have byr21 : 0 ≤ yr21 ∧ yr21 < 21 := by omega
  refine y_irem (c := yr21) hX dL_law_192 ry (ya_in rfl) (by omega) (by omega) hyr21 ?_
  refine z_iadd hX dL_law_193 ?_
  refine g_const hX dL_law_194 ?_
  refine l_act hX hst dL_law_195 hH hV (ya_in rfl) (by constructor <;> omega) (by constructor <;> omega) (by constructor <;> omega) (ya_in rfl) (show ya_act σ 2 (1500 + yr900) zr20 (20 + yr21) 0 = (n1, adU σ (1500 + yr900) zr20 (20 + yr21)) from by rw [← e1]; exact yb_tune1 (by omega) (by omega) (by omega)) (show cs + 10 ≤ 600104 by omega) (show ss + 250 ≤ 7301314 by omega) (by first | exact Nat.le_of_ble_eq_true rfl | simp [cat_rf, Value.category]) (fun A ow τ M sz hH hV => ?_)
  have hct := yb_adU σ (1500 + yr900) zr20 (20 + yr21)
  refine g_iload hX dL_law_198 rfl ?_
  refine g_const hX dL_law_199 ?_
  refine yf_icmp_ge hX dL_law_201 rn1 (ya_in rfl) (by omega) ?_
  refine g_iload hX dL_law_204 rfl ?_
  refine g_goto hX dL_law_205 ?_
  refine yt_icmp_eq hX dL_law_210 rn1 rn1 rfl ?_
  refine g_iload hX dL_law_215 rfl ?_
  refine g_iload hX dL_law_216 rfl ?_
  refine g_const hX dL_law_217 ?_
  refine yf_icmp_ge hX dL_law_219 rn1 (ya_in rfl) (by omega) ?_
  refine g_const hX dL_law_222 ?_
  refine g_goto hX dL_law_223 ?_
  refine z_iadd hX dL_law_227 ?_
  refine g_istore hX dL_law_228 ?_
  dsimp only [List.set]
  refine g_goto hX dL_law_229 ?_
  exact g_wide (by omega) (by omega) (hn _ _ _ _ _ _ _ _ _ _ _ _ _ _ _ _ _ _ _ _ _ hH hV (hct.1.trans e0) (by rw [hct.2.1, e1]) (hct.2.2.1.trans e2) (hct.2.2.2.trans e3))

set_option maxRecDepth 20000 in
theorem lawB2 {X : hX} (hX : Cok X mL_law) (hst : X.1.2.1.stackTraces = false) {b h : Nat} {n0 n1 n2 n3 k w y z Y : Int} {u7 u12 u13 u14 u15 u16 u17 : Value} {σ : SG} {A : Nat → Nat → Nat} {ow : Nat → Nat × Nat} {τ : Nat → Nat → Int} {M : hM} {sz cs ss : Nat} (rk : inR k) (hw : 0 ≤ w ∧ w < 13) (hy : 0 ≤ y ∧ y ≤ 1290555) (hz : 0 ≤ z ∧ z ≤ 21509) (hY : 1600 ≤ Y ∧ Y ≤ 2399) (hH : HX X.2.2.2.2.2.2.2.2.2 h A ow σ τ M) (hV : SV σ) (e0 : σ 0 0 0 = n0) (e1 : σ 1 0 0 = n1) (e2 : σ 2 0 0 = n2) (e3 : σ 3 0 0 = n3)  (q : n1 = 12) {c9 s8 : Nat} (hc : cs + 10 ≤ c9) (hs : ss + 250 ≤ s8) (hc9 : c9 ≤ 600104) (hs8 : s8 ≤ 7301314) (hn : ∀ (σ' : SG) (A' : Nat → Nat → Nat) (ow' : Nat → Nat × Nat) (τ' : Nat → Nat → Int) (M' : hM) (s9 : Nat) (m0 m1 m2 m3 : Int) (u7 u8 u9 u10 u11 u12 u13 u14 u15 u16 u17 : Value), HX X.2.2.2.2.2.2.2.2.2 h A' ow' σ' τ' M' → SV σ' → σ' 0 0 0 = m0 → σ' 1 0 0 = m1 → σ' 2 0 0 = m2 → σ' 3 0 0 = m3 → G X 1123 [.ref b, .ref h, .int (iZ m0), .int (iZ m1), .int (iZ m2), .int (iZ m3), .int (iZ k), u7, u8, u9, u10, u11, u12, u13, u14, u15, u16, u17] [] M' s9 c9 s8) : G X 169 [.ref b, .ref h, .int (iZ n0), .int (iZ n1), .int (iZ n2), .int (iZ n3), .int (iZ k), u7, .int (iZ w), .int (iZ y), .int (iZ z), .int (iZ Y), u12, u13, u14, u15, u16, u17] [] M sz cs ss := by
  have hsn := hV.n
  unfold SVn at hsn
  have rn0 : inR n0 := by constructor <;> omega
  have rn1 : inR n1 := by constructor <;> omega
  have rn2 : inR n2 := by constructor <;> omega
  have rn3 : inR n3 := by constructor <;> omega
  have rw9 : inR w := by constructor <;> omega
  have ry : inR y := by constructor <;> omega
  have rz : inR z := by constructor <;> omega
  have rY : inR Y := by constructor <;> omega
  refine g_aload hX dL_law_169 rfl rfl ?_
  refine g_const hX dL_law_170 ?_
  refine g_const hX dL_law_171 ?_
  refine g_iload hX dL_law_174 rfl ?_
  refine g_const hX dL_law_176 ?_
  obtain ⟨yr900, hyr900⟩ : ∃ c : Int, y % 900 = c := ⟨_, rfl⟩
  have byr900 : 0 ≤ yr900 ∧ yr900 < 900 := by omega
  refine y_irem (c := yr900) hX dL_law_179 ry (ya_in rfl) (by omega) (by omega) hyr900 ?_
  refine z_iadd hX dL_law_180 ?_
  refine g_iload hX dL_law_181 rfl ?_
  refine g_const hX dL_law_183 ?_
  obtain ⟨zr20, hzr20⟩ : ∃ c : Int, z % 20 = c := ⟨_, rfl⟩
  have bzr20 : 0 ≤ zr20 ∧ zr20 < 20 := by omega
  refine y_irem (c := zr20) hX dL_law_185 rz (ya_in rfl) (by omega) (by omega) hzr20 ?_
  refine g_const hX dL_law_186 ?_
  refine g_iload hX dL_law_188 rfl ?_
  refine g_const hX dL_law_190 ?_
  obtain ⟨yr21, hyr21⟩ : ∃ c : Int, y % 21 = c := ⟨_, rfl⟩
  have byr21 : 0 ≤ yr21 ∧ yr21 < 21 := by omega
  refine y_irem (c := yr21) hX dL_law_192 ry (ya_in rfl) (by omega) (by omega) hyr21 ?_
  refine z_iadd hX dL_law_193 ?_
  refine g_const hX dL_law_194 ?_
  refine l_act hX hst dL_law_195 hH hV (ya_in rfl) (by constructor <;> omega) (by constructor <;> omega) (by constructor <;> omega) (ya_in rfl) (yb_tune2 (by omega) (by omega) (by omega)) (show cs + 10 ≤ 600104 by omega) (show ss + 250 ≤ 7301314 by omega) (by first | exact Nat.le_of_ble_eq_true rfl | simp [cat_rf, Value.category]) (fun A ow τ M sz hH hV => ?_)
  refine g_iload hX dL_law_198 rfl ?_
  refine g_const hX dL_law_199 ?_
  refine yt_icmp_ge hX dL_law_201 rn1 (ya_in rfl) (by omega) ?_
  refine g_const hX dL_law_208 ?_
  refine yt_icmp_eq hX dL_law_210 (ya_in rfl) (ya_in rfl) rfl ?_
  refine g_iload hX dL_law_215 rfl ?_
  refine g_iload hX dL_law_216 rfl ?_
  refine g_const hX dL_law_217 ?_
  refine yt_icmp_ge hX dL_law_219 rn1 (ya_in rfl) (by omega) ?_
  refine g_const hX dL_law_226 ?_
  refine y_iadd (c := n1) hX dL_law_227 (by omega) ?_
  refine g_istore hX dL_law_228 ?_
  dsimp only [List.set]
  refine g_goto hX dL_law_229 ?_
  exact g_wide (by omega) (by omega) (hn _ _ _ _ _ _ _ _ _ _ _ _ _ _ _ _ _ _ _ _ _ hH hV e0 e1 e2 e3)

set_option maxRecDepth 20000 in
theorem lawC4 {X : hX} (hX : Cok X mL_law) (hst : X.1.2.1.stackTraces = false) {b h : Nat} {n0 n1 n2 n3 k w y z Y : Int} {u7 u12 u13 u14 u15 u16 u17 : Value} {σ : SG} {A : Nat → Nat → Nat} {ow : Nat → Nat × Nat} {τ : Nat → Nat → Int} {M : hM} {sz cs ss : Nat} (rk : inR k) (hw : 0 ≤ w ∧ w < 13) (hy : 0 ≤ y ∧ y ≤ 1290555) (hz : 0 ≤ z ∧ z ≤ 21509) (hY : 1600 ≤ Y ∧ Y ≤ 2399) (hH : HX X.2.2.2.2.2.2.2.2.2 h A ow σ τ M) (hV : SV σ) (e0 : σ 0 0 0 = n0) (e1 : σ 1 0 0 = n1) (e2 : σ 2 0 0 = n2) (e3 : σ 3 0 0 = n3)  (q0 : 0 < n0) (q1 : 0 < n1) {c9 s8 : Nat} (hc : cs + 1 ≤ c9) (hs : ss + 6 ≤ s8) (hc9 : c9 ≤ 600104) (hs8 : s8 ≤ 7301314) (hn : ∀ (σ' : SG) (A' : Nat → Nat → Nat) (ow' : Nat → Nat × Nat) (τ' : Nat → Nat → Int) (M' : hM) (s9 : Nat) (m0 m1 m2 m3 : Int) (u7 u8 u9 u10 u11 u12 u13 u14 u15 u16 u17 : Value), HX X.2.2.2.2.2.2.2.2.2 h A' ow' σ' τ' M' → SV σ' → σ' 0 0 0 = m0 → σ' 1 0 0 = m1 → σ' 2 0 0 = m2 → σ' 3 0 0 = m3 → G X 1123 [.ref b, .ref h, .int (iZ m0), .int (iZ m1), .int (iZ m2), .int (iZ m3), .int (iZ k), u7, u8, u9, u10, u11, u12, u13, u14, u15, u16, u17] [] M' s9 c9 s8) : G X 408 [.ref b, .ref h, .int (iZ n0), .int (iZ n1), .int (iZ n2), .int (iZ n3), .int (iZ k), u7, .int (iZ w), .int (iZ y), .int (iZ z), .int (iZ Y), u12, u13, u14, u15, u16, u17] [] M sz cs ss := by
  have hsn := hV.n
  unfold SVn at hsn
  have rn0 : inR n0 := by constructor <;> omega
  have rn1 : inR n1 := by constructor <;> omega
  have rn2 : inR n2 := by constructor <;> omega
  have rn3 : inR n3 := by constructor <;> omega
  have rw9 : inR w := by constructor <;> omega
  have ry : inR y := by constructor <;> omega
  have rz : inR z := by constructor <;> omega
  have rY : inR Y := by constructor <;> omega
  refine g_aload hX dL_law_408 rfl rfl ?_
  refine g_iload hX dL_law_409 rfl ?_
  refine g_iload hX dL_law_411 rfl ?_
  obtain ⟨zrn1, hzrn1⟩ : ∃ c : Int, z % n1 = c := ⟨_, rfl⟩
  have bzrn1 : 0 ≤ zrn1 ∧ zrn1 < n1 := by rw [← hzrn1]; exact ⟨Int.emod_nonneg _ (by omega), Int.emod_lt_of_pos _ (by omega)⟩
  refine y_irem (c := zrn1) hX dL_law_412 rz rn1 (by omega) (by omega) hzrn1 ?_
  have ha9 := yb_alk1 σ zrn1.toNat (σ 1 0 0).toNat (by omega)
  have ha8 := alkK_r σ zrn1.toNat (σ 1 0 0).toNat
  obtain ⟨al, hal⟩ : ∃ al, alkK σ zrn1.toNat (σ 1 0 0).toNat = al := ⟨_, rfl⟩
  rw [hal] at ha9 ha8
  refine l_alike hX hst dL_law_413 hH hV (by constructor <;> omega) (show oc_alike σ zrn1 = (0, al, σ) from by rw [← hal]; exact yb_alike ⟨by omega, by omega⟩) (show cs + 1 ≤ 600104 by omega) (show ss + 6 ≤ 7301314 by omega) (by first | exact Nat.le_of_ble_eq_true rfl | simp [cat_rf, Value.category]) (fun A ow τ M sz hH hV => ?_)
  refine g_const hX dL_law_416 ?_
  refine yf_icmp_lt hX dL_law_417 (by constructor <;> omega) (ya_in rfl) (by omega) ?_
  refine g_aload hX dL_law_420 rfl rfl ?_
  have hm9 := yb_met1 σ (σ 1 0 0).toNat (by omega)
  have hm8 := metK_r σ (σ 1 0 0).toNat
  obtain ⟨me, hme⟩ : ∃ me, metK σ (σ 1 0 0).toNat = me := ⟨_, rfl⟩
  rw [hme] at hm9 hm8
  refine l_metres hX hst dL_law_421 hH hV  (show oc_metres σ = (0, me, σ) from by rw [← hme]; rfl) (show cs + 1 + 0 ≤ 600104 by omega) (show ss + 6 + 0 ≤ 7301314 by omega) (by first | exact Nat.le_of_ble_eq_true rfl | simp [cat_rf, Value.category]) (fun A ow τ M sz hH hV => ?_)
  refine g_const hX dL_law_424 ?_
  refine yf_icmp_lt hX dL_law_425 (by constructor <;> omega) (ya_in rfl) (by omega) ?_
  refine g_aload hX dL_law_428 rfl rfl ?_
  refine l_metres hX hst dL_law_429 hH hV  (show oc_metres σ = (0, me, σ) from by rw [← hme]; rfl) (show cs + 1 + 0 + 0 ≤ 600104 by omega) (show ss + 6 + 0 + 0 ≤ 7301314 by omega) (by first | exact Nat.le_of_ble_eq_true rfl | simp [cat_rf, Value.category]) (fun A ow τ M sz hH hV => ?_)
  refine g_iload hX dL_law_432 rfl ?_
  refine yt_icmp_le hX dL_law_433 (by constructor <;> omega) rn1 (by omega) ?_
  refine g_goto hX dL_law_438 ?_
  exact g_wide (by omega) (by omega) (hn _ _ _ _ _ _ _ _ _ _ _ _ _ _ _ _ _ _ _ _ _ hH hV e0 e1 e2 e3)

set_option maxRecDepth 20000 in
theorem lawC3a {X : hX} (hX : Cok X mL_law) (hst : X.1.2.1.stackTraces = false) {b h : Nat} {n0 n1 n2 n3 k w y z Y : Int} {u7 u12 u13 u14 u15 u16 u17 : Value} {σ : SG} {A : Nat → Nat → Nat} {ow : Nat → Nat × Nat} {τ : Nat → Nat → Int} {M : hM} {sz cs ss : Nat} (rk : inR k) (hw : 0 ≤ w ∧ w < 13) (hy : 0 ≤ y ∧ y ≤ 1290555) (hz : 0 ≤ z ∧ z ≤ 21509) (hY : 1600 ≤ Y ∧ Y ≤ 2399) (hH : HX X.2.2.2.2.2.2.2.2.2 h A ow σ τ M) (hV : SV σ) (e0 : σ 0 0 0 = n0) (e1 : σ 1 0 0 = n1) (e2 : σ 2 0 0 = n2) (e3 : σ 3 0 0 = n3)  (q0 : 0 < n0) (q1 : 0 < n1) (hft0 : fitZ σ (y % n0).toNat (z % n1).toNat = 0) {c9 s8 : Nat} (hc : cs + 14 ≤ c9) (hs : ss + 274 ≤ s8) (hc9 : c9 ≤ 600104) (hs8 : s8 ≤ 7301314) (hn : ∀ (σ' : SG) (A' : Nat → Nat → Nat) (ow' : Nat → Nat × Nat) (τ' : Nat → Nat → Int) (M' : hM) (s9 : Nat) (m0 m1 m2 m3 : Int) (u7 u8 u9 u10 u11 u12 u13 u14 u15 u16 u17 : Value), HX X.2.2.2.2.2.2.2.2.2 h A' ow' σ' τ' M' → SV σ' → σ' 0 0 0 = m0 → σ' 1 0 0 = m1 → σ' 2 0 0 = m2 → σ' 3 0 0 = m3 → G X 1123 [.ref b, .ref h, .int (iZ m0), .int (iZ m1), .int (iZ m2), .int (iZ m3), .int (iZ k), u7, u8, u9, u10, u11, u12, u13, u14, u15, u16, u17] [] M' s9 c9 s8) : G X 317 [.ref b, .ref h, .int (iZ n0), .int (iZ n1), .int (iZ n2), .int (iZ n3), .int (iZ k), u7, .int (iZ w), .int (iZ y), .int (iZ z), .int (iZ Y), u12, u13, u14, u15, u16, u17] [] M sz cs ss := by
  have hsn := hV.n
  unfold SVn at hsn
  have rn0 : inR n0 := by constructor <;> omega
  have rn1 : inR n1 := by constructor <;> omega
  have rn2 : inR n2 := by constructor <;> omega
  have rn3 : inR n3 := by constructor <;> omega
  have rw9 : inR w := by constructor <;> omega
  have ry : inR y := by constructor <;> omega
  have rz : inR z := by constructor <;> omega
  have rY : inR Y := by constructor <;> omega
  refine g_aload hX dL_law_317 rfl rfl ?_
  refine g_iload hX dL_law_318 rfl ?_
  refine g_iload hX dL_law_320 rfl ?_
  obtain ⟨yrn0, hyrn0⟩ : ∃ c : Int, y % n0 = c := ⟨_, rfl⟩
  have byrn0 : 0 ≤ yrn0 ∧ yrn0 < n0 := by rw [← hyrn0]; exact ⟨Int.emod_nonneg _ (by omega), Int.emod_lt_of_pos _ (by omega)⟩
  refine y_irem (c := yrn0) hX dL_law_321 ry rn0 (by omega) (by omega) hyrn0 ?_
  refine g_iload hX dL_law_322 rfl ?_
  refine g_iload hX dL_law_324 rfl ?_
  obtain ⟨zrn1, hzrn1⟩ : ∃ c : Int, z % n1 = c := ⟨_, rfl⟩
  have bzrn1 : 0 ≤ zrn1 ∧ zrn1 < n1 := by rw [← hzrn1]; exact ⟨Int.emod_nonneg _ (by omega), Int.emod_lt_of_pos _ (by omega)⟩
  refine y_irem (c := zrn1) hX dL_law_325 rz rn1 (by omega) (by omega) hzrn1 ?_
  have hft : fitZ σ yrn0.toNat zrn1.toNat = 0 := by rw [← hyrn0, ← hzrn1]; exact hft0
  have hfr := fit_r σ yrn0.toNat zrn1.toNat
  rw [hft] at hfr
  refine l_fits hX hst dL_law_326 hH hV (by constructor <;> omega) (by constructor <;> omega) (show oc_fits σ yrn0 zrn1 = (0, 0, σ) from (yb_fits ⟨by omega, by omega⟩ ⟨by omega, by omega⟩).trans (by rw [hft])) (show cs + 2 ≤ 600104 by omega) (show ss + 12 ≤ 7301314 by omega) (by first | exact Nat.le_of_ble_eq_true rfl | simp [cat_rf, Value.category]) (fun A ow τ M sz hH hV => ?_)
  refine g_istore hX dL_law_329 ?_
  dsimp only [List.set]
  refine g_aload hX dL_law_331 rfl rfl ?_
  refine g_const hX dL_law_332 ?_
  refine g_iload hX dL_law_333 rfl ?_
  refine g_iload hX dL_law_335 rfl ?_
  refine y_irem (c := yrn0) hX dL_law_336 ry rn0 (by omega) (by omega) hyrn0 ?_
  refine g_iload hX dL_law_337 rfl ?_
  refine g_iload hX dL_law_339 rfl ?_
  refine y_irem (c := zrn1) hX dL_law_340 rz rn1 (by omega) (by omega) hzrn1 ?_
  refine g_const hX dL_law_341 ?_
  refine g_const hX dL_law_342 ?_
  refine l_act hX hst dL_law_343 hH hV (ya_in rfl) (by constructor <;> omega) (by constructor <;> omega) (ya_in rfl) (ya_in rfl) (yb_cl0 ⟨by omega, by omega⟩ ⟨by omega, by omega⟩ hft) (show cs + 2 + 10 ≤ 600104 by omega) (show ss + 12 + 250 ≤ 7301314 by omega) (by first | exact Nat.le_of_ble_eq_true rfl | simp [cat_rf, Value.category]) (fun A ow τ M sz hH hV => ?_)
  refine g_istore hX dL_law_346 ?_
  dsimp only [List.set]
  refine g_aload hX dL_law_348 rfl rfl ?_
  refine g_iload hX dL_law_349 rfl ?_
  refine g_iload hX dL_law_351 rfl ?_
  refine y_irem (c := yrn0) hX dL_law_352 ry rn0 (by omega) (by omega) hyrn0 ?_
  obtain ⟨be, hbe⟩ : ∃ be, bstZ σ yrn0.toNat 0 0 = be := ⟨_, rfl⟩
  have hbr := bstZ_r hV yrn0.toNat 0 0
  rw [hbe] at hbr
  have rbe : inR be := by constructor <;> omega
  refine l_best hX hst dL_law_353 hH hV (by constructor <;> omega) (show oc_best σ yrn0 = (0, be, σ) from by rw [← hbe]; exact yb_best ⟨by omega, by omega⟩) (show cs + 2 + 10 + 1 ≤ 600104 by omega) (show ss + 12 + 250 + 6 ≤ 7301314 by omega) (by first | exact Nat.le_of_ble_eq_true rfl | simp [cat_rf, Value.category]) (fun A ow τ M sz hH hV => ?_)
  refine g_istore hX dL_law_356 ?_
  dsimp only [List.set]
  refine g_iload hX dL_law_358 rfl ?_
  refine yf_if_ne hX dL_law_360 (ya_in rfl) rfl ?_
  refine g_const hX dL_law_363 ?_
  refine g_goto hX dL_law_364 ?_
  refine g_iload hX dL_law_368 rfl ?_
  refine g_const hX dL_law_370 ?_
  refine yf_icmp_ne hX dL_law_372 (ya_in rfl) (ya_in rfl) rfl ?_
  refine g_const hX dL_law_375 ?_
  refine g_goto hX dL_law_376 ?_
  refine yf_icmp_ne hX dL_law_380 (ya_in rfl) (ya_in rfl) rfl ?_
  refine g_iload hX dL_law_383 rfl ?_
  refine yt_if_le hX dL_law_385 (ya_in rfl) (by decide) ?_
  exact lawC4 hX hst rk hw hy hz hY hH hV e0 e1 e2 e3 q0 q1 (by omega) (by omega) hc9 hs8 hn

set_option maxRecDepth 20000 in
theorem lawC3b {X : hX} (hX : Cok X mL_law) (hst : X.1.2.1.stackTraces = false) {b h : Nat} {n0 n1 n2 n3 k w y z Y : Int} {u7 u12 u13 u14 u15 u16 u17 : Value} {σ : SG} {A : Nat → Nat → Nat} {ow : Nat → Nat × Nat} {τ : Nat → Nat → Int} {M : hM} {sz cs ss : Nat} (rk : inR k) (hw : 0 ≤ w ∧ w < 13) (hy : 0 ≤ y ∧ y ≤ 1290555) (hz : 0 ≤ z ∧ z ≤ 21509) (hY : 1600 ≤ Y ∧ Y ≤ 2399) (hH : HX X.2.2.2.2.2.2.2.2.2 h A ow σ τ M) (hV : SV σ) (e0 : σ 0 0 0 = n0) (e1 : σ 1 0 0 = n1) (e2 : σ 2 0 0 = n2) (e3 : σ 3 0 0 = n3)  (q0 : 0 < n0) (q1 : 0 < n1) {ft : Int} (hft1 : fitZ σ (y % n0).toNat (z % n1).toNat = ft) (hft0 : ft ≠ 0) {c9 s8 : Nat} (hc : cs + 17 ≤ c9) (hs : ss + 292 ≤ s8) (hc9 : c9 ≤ 600104) (hs8 : s8 ≤ 7301314) (hn : ∀ (σ' : SG) (A' : Nat → Nat → Nat) (ow' : Nat → Nat × Nat) (τ' : Nat → Nat → Int) (M' : hM) (s9 : Nat) (m0 m1 m2 m3 : Int) (u7 u8 u9 u10 u11 u12 u13 u14 u15 u16 u17 : Value), HX X.2.2.2.2.2.2.2.2.2 h A' ow' σ' τ' M' → SV σ' → σ' 0 0 0 = m0 → σ' 1 0 0 = m1 → σ' 2 0 0 = m2 → σ' 3 0 0 = m3 → G X 1123 [.ref b, .ref h, .int (iZ m0), .int (iZ m1), .int (iZ m2), .int (iZ m3), .int (iZ k), u7, u8, u9, u10, u11, u12, u13, u14, u15, u16, u17] [] M' s9 c9 s8) : G X 317 [.ref b, .ref h, .int (iZ n0), .int (iZ n1), .int (iZ n2), .int (iZ n3), .int (iZ k), u7, .int (iZ w), .int (iZ y), .int (iZ z), .int (iZ Y), u12, u13, u14, u15, u16, u17] [] M sz cs ss := by
  have hsn := hV.n
  unfold SVn at hsn
  have rn0 : inR n0 := by constructor <;> omega
  have rn1 : inR n1 := by constructor <;> omega
  have rn2 : inR n2 := by constructor <;> omega
  have rn3 : inR n3 := by constructor <;> omega
  have rw9 : inR w := by constructor <;> omega
  have ry : inR y := by constructor <;> omega
  have rz : inR z := by constructor <;> omega
  have rY : inR Y := by constructor <;> omega
  refine g_aload hX dL_law_317 rfl rfl ?_
  refine g_iload hX dL_law_318 rfl ?_
  refine g_iload hX dL_law_320 rfl ?_
  obtain ⟨yrn0, hyrn0⟩ : ∃ c : Int, y % n0 = c := ⟨_, rfl⟩
  have byrn0 : 0 ≤ yrn0 ∧ yrn0 < n0 := by rw [← hyrn0]; exact ⟨Int.emod_nonneg _ (by omega), Int.emod_lt_of_pos _ (by omega)⟩
  refine y_irem (c := yrn0) hX dL_law_321 ry rn0 (by omega) (by omega) hyrn0 ?_
  refine g_iload hX dL_law_322 rfl ?_
  refine g_iload hX dL_law_324 rfl ?_
  obtain ⟨zrn1, hzrn1⟩ : ∃ c : Int, z % n1 = c := ⟨_, rfl⟩
  have bzrn1 : 0 ≤ zrn1 ∧ zrn1 < n1 := by rw [← hzrn1]; exact ⟨Int.emod_nonneg _ (by omega), Int.emod_lt_of_pos _ (by omega)⟩
  refine y_irem (c := zrn1) hX dL_law_325 rz rn1 (by omega) (by omega) hzrn1 ?_
  have hft : fitZ σ yrn0.toNat zrn1.toNat = ft := by rw [← hyrn0, ← hzrn1]; exact hft1
  have hfr := fit_r σ yrn0.toNat zrn1.toNat
  rw [hft] at hfr
  refine l_fits hX hst dL_law_326 hH hV (by constructor <;> omega) (by constructor <;> omega) (show oc_fits σ yrn0 zrn1 = (0, ft, σ) from (yb_fits ⟨by omega, by omega⟩ ⟨by omega, by omega⟩).trans (by rw [hft])) (show cs + 2 ≤ 600104 by omega) (show ss + 12 ≤ 7301314 by omega) (by first | exact Nat.le_of_ble_eq_true rfl | simp [cat_rf, Value.category]) (fun A ow τ M sz hH hV => ?_)
  refine g_istore hX dL_law_329 ?_
  dsimp only [List.set]
  refine g_aload hX dL_law_331 rfl rfl ?_
  refine g_const hX dL_law_332 ?_
  refine g_iload hX dL_law_333 rfl ?_
  refine g_iload hX dL_law_335 rfl ?_
  refine y_irem (c := yrn0) hX dL_law_336 ry rn0 (by omega) (by omega) hyrn0 ?_
  refine g_iload hX dL_law_337 rfl ?_
  refine g_iload hX dL_law_339 rfl ?_
  refine y_irem (c := zrn1) hX dL_law_340 rz rn1 (by omega) (by omega) hzrn1 ?_
  refine g_const hX dL_law_341 ?_
  refine g_const hX dL_law_342 ?_
  have hf1 : fitZ σ yrn0.toNat zrn1.toNat ≠ 0 := by rw [hft]; exact hft0
  obtain ⟨cz, hcz⟩ : ∃ cz, clZ σ yrn0.toNat zrn1.toNat = cz := ⟨_, rfl⟩
  have hcr := cl_r hV yrn0.toNat zrn1.toNat
  rw [hcz] at hcr
  refine l_act hX hst dL_law_343 hH hV (ya_in rfl) (by constructor <;> omega) (by constructor <;> omega) (ya_in rfl) (ya_in rfl) (show ya_act σ 5 yrn0 zrn1 0 0 = (cz, σ) from by rw [← hcz]; exact yb_cl1 ⟨by omega, by omega⟩ ⟨by omega, by omega⟩ hf1) (show cs + 2 + 10 ≤ 600104 by omega) (show ss + 12 + 250 ≤ 7301314 by omega) (by first | exact Nat.le_of_ble_eq_true rfl | simp [cat_rf, Value.category]) (fun A ow τ M sz hH hV => ?_)
  refine g_istore hX dL_law_346 ?_
  dsimp only [List.set]
  refine g_aload hX dL_law_348 rfl rfl ?_
  refine g_iload hX dL_law_349 rfl ?_
  refine g_iload hX dL_law_351 rfl ?_
  refine y_irem (c := yrn0) hX dL_law_352 ry rn0 (by omega) (by omega) hyrn0 ?_
  obtain ⟨be, hbe⟩ : ∃ be, bstZ σ yrn0.toNat 0 0 = be := ⟨_, rfl⟩
  have hbr := bstZ_r hV yrn0.toNat 0 0
  rw [hbe] at hbr
  have rbe : inR be := by constructor <;> omega
  have hmn := yb_min hV (u := zrn1) ⟨by omega, by omega⟩ yrn0.toNat hf1
  rw [hbe] at hmn
  have hm1 := hmn.1.1
  have hm2 := hmn.1.2
  refine l_best hX hst dL_law_353 hH hV (by constructor <;> omega) (show oc_best σ yrn0 = (0, be, σ) from by rw [← hbe]; exact yb_best ⟨by omega, by omega⟩) (show cs + 2 + 10 + 1 ≤ 600104 by omega) (show ss + 12 + 250 + 6 ≤ 7301314 by omega) (by first | exact Nat.le_of_ble_eq_true rfl | simp [cat_rf, Value.category]) (fun A ow τ M sz hH hV => ?_)
  refine g_istore hX dL_law_356 ?_
  dsimp only [List.set]
  refine g_iload hX dL_law_358 rfl ?_
  refine yt_if_ne hX dL_law_360 (by constructor <;> omega) (by omega) ?_
  refine g_const hX dL_law_367 ?_
  refine g_iload hX dL_law_368 rfl ?_
  refine g_const hX dL_law_370 ?_
  refine yt_icmp_ne hX dL_law_372 (by constructor <;> omega) (ya_in rfl) (by omega) ?_
  refine g_const hX dL_law_379 ?_
  refine yf_icmp_ne hX dL_law_380 (ya_in rfl) (ya_in rfl) rfl ?_
  refine g_iload hX dL_law_383 rfl ?_
  refine yf_if_le hX dL_law_385 (by constructor <;> omega) (by omega) ?_
  refine g_iload hX dL_law_388 rfl ?_
  refine yf_if_lt hX dL_law_390 rbe (by omega) ?_
  refine g_aload hX dL_law_393 rfl rfl ?_
  refine g_iload hX dL_law_394 rfl ?_
  refine g_iload hX dL_law_396 rfl ?_
  refine y_irem (c := yrn0) hX dL_law_397 ry rn0 (by omega) (by omega) hyrn0 ?_
  refine g_iload hX dL_law_398 rfl ?_
  obtain ⟨cb, hcb⟩ : ∃ cb, clZ σ yrn0.toNat be.toNat = cb := ⟨_, rfl⟩
  have hcr2 := cl_r hV yrn0.toNat be.toNat
  rw [hcb] at hcr2 hmn
  rw [hcz] at hmn
  refine l_clashes hX hst dL_law_400 hH hV (by constructor <;> omega) rbe (show oc_clashes σ yrn0 be = (0, cb, σ) from by rw [← hcb]; exact yb_cl2 ⟨by omega, by omega⟩ hmn.1 hmn.2.1) (show cs + 2 + 10 + 1 + 3 ≤ 600104 by omega) (show ss + 12 + 250 + 6 + 18 ≤ 7301314 by omega) (by first | exact Nat.le_of_ble_eq_true rfl | simp [cat_rf, Value.category]) (fun A ow τ M sz hH hV => ?_)
  refine g_iload hX dL_law_403 rfl ?_
  refine yf_icmp_gt hX dL_law_405 (by constructor <;> omega) (by constructor <;> omega) (by omega) ?_
  exact lawC4 hX hst rk hw hy hz hY hH hV e0 e1 e2 e3 q0 q1 (by omega) (by omega) hc9 hs8 hn

set_option maxRecDepth 20000 in
theorem lawC2 {X : hX} (hX : Cok X mL_law) (hst : X.1.2.1.stackTraces = false) {b h : Nat} {n0 n1 n2 n3 k w y z Y : Int} {u7 u12 u13 u14 u15 u16 u17 : Value} {σ : SG} {A : Nat → Nat → Nat} {ow : Nat → Nat × Nat} {τ : Nat → Nat → Int} {M : hM} {sz cs ss : Nat} (rk : inR k) (hw : 0 ≤ w ∧ w < 13) (hy : 0 ≤ y ∧ y ≤ 1290555) (hz : 0 ≤ z ∧ z ≤ 21509) (hY : 1600 ≤ Y ∧ Y ≤ 2399) (hH : HX X.2.2.2.2.2.2.2.2.2 h A ow σ τ M) (hV : SV σ) (e0 : σ 0 0 0 = n0) (e1 : σ 1 0 0 = n1) (e2 : σ 2 0 0 = n2) (e3 : σ 3 0 0 = n3) {p13 p14 : Int} (q0 : 0 < n0) (q1 : 0 < n1) (hb1 : 1 ≤ p14 ∨ p14 = -7000003) (rp : inR p14) {c9 s8 : Nat} (hc : cs + 40 ≤ c9) (hs : ss + 1000 ≤ s8) (hc9 : c9 ≤ 600104) (hs8 : s8 ≤ 7301314) (hn : ∀ (σ' : SG) (A' : Nat → Nat → Nat) (ow' : Nat → Nat × Nat) (τ' : Nat → Nat → Int) (M' : hM) (s9 : Nat) (m0 m1 m2 m3 : Int) (u7 u8 u9 u10 u11 u12 u13 u14 u15 u16 u17 : Value), HX X.2.2.2.2.2.2.2.2.2 h A' ow' σ' τ' M' → SV σ' → σ' 0 0 0 = m0 → σ' 1 0 0 = m1 → σ' 2 0 0 = m2 → σ' 3 0 0 = m3 → G X 1123 [.ref b, .ref h, .int (iZ m0), .int (iZ m1), .int (iZ m2), .int (iZ m3), .int (iZ k), u7, u8, u9, u10, u11, u12, u13, u14, u15, u16, u17] [] M' s9 c9 s8) : G X 302 [.ref b, .ref h, .int (iZ n0), .int (iZ n1), .int (iZ n2), .int (iZ n3), .int (iZ k), u7, .int (iZ w), .int (iZ y), .int (iZ z), .int (iZ Y), u12, .int (iZ p13), .int (iZ p14), u15, u16, u17] [] M sz cs ss := by
  have hsn := hV.n
  unfold SVn at hsn
  have rn0 : inR n0 := by constructor <;> omega
  have rn1 : inR n1 := by constructor <;> omega
  have rn2 : inR n2 := by constructor <;> omega
  have rn3 : inR n3 := by constructor <;> omega
  have rw9 : inR w := by constructor <;> omega
  have ry : inR y := by constructor <;> omega
  have rz : inR z := by constructor <;> omega
  have rY : inR Y := by constructor <;> omega
  have j : G X 317 [.ref b, .ref h, .int (iZ n0), .int (iZ n1), .int (iZ n2), .int (iZ n3), .int (iZ k), u7, .int (iZ w), .int (iZ y), .int (iZ z), .int (iZ Y), u12, .int (iZ p13), .int (iZ p14), u15, u16, u17] [] M sz cs ss := by
    by_cases qf : fitZ σ (y % n0).toNat (z % n1).toNat = 0
    · exact lawC3a hX hst rk hw hy hz hY hH hV e0 e1 e2 e3 q0 q1 qf (by omega) (by omega) hc9 hs8 hn
    · exact lawC3b hX hst rk hw hy hz hY hH hV e0 e1 e2 e3 q0 q1 rfl qf (by omega) (by omega) hc9 hs8 hn
  refine g_iload hX dL_law_302 rfl ?_
  refine g_const hX dL_law_304 ?_
  rcases hb1 with q | q
  · refine yt_icmp_ge hX dL_law_305 rp (ya_in rfl) (by omega) ?_
    exact j
  · refine yf_icmp_ge hX dL_law_305 rp (ya_in rfl) (by omega) ?_
    refine g_iload hX dL_law_308 rfl ?_
    refine g_const hX dL_law_310 ?_
    refine yt_icmp_eq hX dL_law_312 rp (ya_in rfl) q ?_
    exact j

set_option maxRecDepth 20000 in
theorem lawC1 {X : hX} (hX : Cok X mL_law) (hst : X.1.2.1.stackTraces = false) {b h : Nat} {n0 n1 n2 n3 k w y z Y : Int} {u7 u12 u13 u14 u15 u16 u17 : Value} {σ : SG} {A : Nat → Nat → Nat} {ow : Nat → Nat × Nat} {τ : Nat → Nat → Int} {M : hM} {sz cs ss : Nat} (rk : inR k) (hw : 0 ≤ w ∧ w < 13) (hy : 0 ≤ y ∧ y ≤ 1290555) (hz : 0 ≤ z ∧ z ≤ 21509) (hY : 1600 ≤ Y ∧ Y ≤ 2399) (hH : HX X.2.2.2.2.2.2.2.2.2 h A ow σ τ M) (hV : SV σ) (e0 : σ 0 0 0 = n0) (e1 : σ 1 0 0 = n1) (e2 : σ 2 0 0 = n2) (e3 : σ 3 0 0 = n3) {p13 p14 : Int} (q0 : 0 < n0) (q1 : 0 < n1) (ha1 : 1 ≤ p13 ∨ p13 = -7000003) (ra : inR p13) (hb1 : 1 ≤ p14 ∨ p14 = -7000003) (rp : inR p14) {c9 s8 : Nat} (hc : cs + 40 ≤ c9) (hs : ss + 1000 ≤ s8) (hc9 : c9 ≤ 600104) (hs8 : s8 ≤ 7301314) (hn : ∀ (σ' : SG) (A' : Nat → Nat → Nat) (ow' : Nat → Nat × Nat) (τ' : Nat → Nat → Int) (M' : hM) (s9 : Nat) (m0 m1 m2 m3 : Int) (u7 u8 u9 u10 u11 u12 u13 u14 u15 u16 u17 : Value), HX X.2.2.2.2.2.2.2.2.2 h A' ow' σ' τ' M' → SV σ' → σ' 0 0 0 = m0 → σ' 1 0 0 = m1 → σ' 2 0 0 = m2 → σ' 3 0 0 = m3 → G X 1123 [.ref b, .ref h, .int (iZ m0), .int (iZ m1), .int (iZ m2), .int (iZ m3), .int (iZ k), u7, u8, u9, u10, u11, u12, u13, u14, u15, u16, u17] [] M' s9 c9 s8) : G X 289 [.ref b, .ref h, .int (iZ n0), .int (iZ n1), .int (iZ n2), .int (iZ n3), .int (iZ k), u7, .int (iZ w), .int (iZ y), .int (iZ z), .int (iZ Y), u12, .int (iZ p13), .int (iZ p14), u15, u16, u17] [] M sz cs ss := by
  refine g_iload hX dL_law_289 rfl ?_
  refine g_const hX dL_law_291 ?_
  have j : G X 302 [.ref b, .ref h, .int (iZ n0), .int (iZ n1), .int (iZ n2), .int (iZ n3), .int (iZ k), u7, .int (iZ w), .int (iZ y), .int (iZ z), .int (iZ Y), u12, .int (iZ p13), .int (iZ p14), u15, u16, u17] [] M sz cs ss := lawC2 (u13 := u13) (u14 := u14) hX hst rk hw hy hz hY hH hV e0 e1 e2 e3 q0 q1 hb1 rp hc hs hc9 hs8 hn
  rcases ha1 with q | q
  · refine yt_icmp_ge hX dL_law_292 ra (ya_in rfl) (by omega) ?_
    exact j
  · refine yf_icmp_ge hX dL_law_292 ra (ya_in rfl) (by omega) ?_
    refine g_iload hX dL_law_295 rfl ?_
    refine g_const hX dL_law_297 ?_
    refine yf_icmp_ne hX dL_law_299 ra (ya_in rfl) q ?_
    exact j

set_option maxRecDepth 20000 in
theorem lawC0 {X : hX} (hX : Cok X mL_law) (hst : X.1.2.1.stackTraces = false) {b h : Nat} {n0 n1 n2 n3 k w y z Y : Int} {u7 u12 u13 u14 u15 u16 u17 : Value} {σ : SG} {A : Nat → Nat → Nat} {ow : Nat → Nat × Nat} {τ : Nat → Nat → Int} {M : hM} {sz cs ss : Nat} (rk : inR k) (hw : 0 ≤ w ∧ w < 13) (hy : 0 ≤ y ∧ y ≤ 1290555) (hz : 0 ≤ z ∧ z ≤ 21509) (hY : 1600 ≤ Y ∧ Y ≤ 2399) (hH : HX X.2.2.2.2.2.2.2.2.2 h A ow σ τ M) (hV : SV σ) (e0 : σ 0 0 0 = n0) (e1 : σ 1 0 0 = n1) (e2 : σ 2 0 0 = n2) (e3 : σ 3 0 0 = n3)  (q0 : 0 < n0) (q1 : 0 < n1) {c9 s8 : Nat} (hc : cs + 60 ≤ c9) (hs : ss + 1500 ≤ s8) (hc9 : c9 ≤ 600104) (hs8 : s8 ≤ 7301314) (hn : ∀ (σ' : SG) (A' : Nat → Nat → Nat) (ow' : Nat → Nat × Nat) (τ' : Nat → Nat → Int) (M' : hM) (s9 : Nat) (m0 m1 m2 m3 : Int) (u7 u8 u9 u10 u11 u12 u13 u14 u15 u16 u17 : Value), HX X.2.2.2.2.2.2.2.2.2 h A' ow' σ' τ' M' → SV σ' → σ' 0 0 0 = m0 → σ' 1 0 0 = m1 → σ' 2 0 0 = m2 → σ' 3 0 0 = m3 → G X 1123 [.ref b, .ref h, .int (iZ m0), .int (iZ m1), .int (iZ m2), .int (iZ m3), .int (iZ k), u7, u8, u9, u10, u11, u12, u13, u14, u15, u16, u17] [] M' s9 c9 s8) : G X 238 [.ref b, .ref h, .int (iZ n0), .int (iZ n1), .int (iZ n2), .int (iZ n3), .int (iZ k), u7, .int (iZ w), .int (iZ y), .int (iZ z), .int (iZ Y), u12, u13, u14, u15, u16, u17] [] M sz cs ss := by
  have hsn := hV.n
  unfold SVn at hsn
  have rn0 : inR n0 := by constructor <;> omega
  have rn1 : inR n1 := by constructor <;> omega
  have rn2 : inR n2 := by constructor <;> omega
  have rn3 : inR n3 := by constructor <;> omega
  have rw9 : inR w := by constructor <;> omega
  have ry : inR y := by constructor <;> omega
  have rz : inR z := by constructor <;> omega
  have rY : inR Y := by constructor <;> omega
  refine g_const hX dL_law_238 ?_
  refine g_iload hX dL_law_239 rfl ?_
  refine g_const hX dL_law_241 ?_
  obtain ⟨zr2, hzr2⟩ : ∃ c : Int, z % 2 = c := ⟨_, rfl⟩
  have bzr2 : 0 ≤ zr2 ∧ zr2 < 2 := by omega
  refine y_irem (c := zr2) hX dL_law_242 rz (ya_in rfl) (by omega) (by omega) hzr2 ?_
  refine z_iadd hX dL_law_243 ?_
  refine g_istore hX dL_law_244 ?_
  dsimp only [List.set]
  refine g_aload hX dL_law_246 rfl rfl ?_
  refine g_const hX dL_law_247 ?_
  refine g_iload hX dL_law_248 rfl ?_
  refine g_iload hX dL_law_250 rfl ?_
  obtain ⟨yrn0, hyrn0⟩ : ∃ c : Int, y % n0 = c := ⟨_, rfl⟩
  have byrn0 : 0 ≤ yrn0 ∧ yrn0 < n0 := by rw [← hyrn0]; exact ⟨Int.emod_nonneg _ (by omega), Int.emod_lt_of_pos _ (by omega)⟩
  refine y_irem (c := yrn0) hX dL_law_251 ry rn0 (by omega) (by omega) hyrn0 ?_
  refine g_iload hX dL_law_252 rfl ?_
  refine g_iload hX dL_law_254 rfl ?_
  refine g_const hX dL_law_256 ?_
  refine g_iload hX dL_law_257 rfl ?_
  refine g_ishl hX dL_law_259 ?_
  rw [yb_ishl (m := 1 + zr2) (by omega)]
  obtain ⟨p9, hp9, hp8⟩ : ∃ p : Int, 2 ^ (1 + zr2).toNat = p ∧ (p = 2 ∨ p = 4) := by
    rcases (show zr2 = 0 ∨ zr2 = 1 by omega) with e | e <;> rw [e] <;> exact ⟨_, rfl, by decide⟩
  rw [hp9]
  obtain ⟨zrp9, hzrp9⟩ : ∃ c : Int, z % p9 = c := ⟨_, rfl⟩
  have bzrp9 : 0 ≤ zrp9 ∧ zrp9 < p9 := by rw [← hzrp9]; exact ⟨Int.emod_nonneg _ (by omega), Int.emod_lt_of_pos _ (by omega)⟩
  refine y_irem (c := zrp9) hX dL_law_260 rz (by constructor <;> omega) (by omega) (by omega) hzrp9 ?_
  refine g_const hX dL_law_261 ?_
  obtain ⟨p13, σ1, ea, ha1, ha2, hC1⟩ := yb_line (d := 0) hV (t := yrn0) (m := 1 + zr2) (s := zrp9) ⟨by omega, by omega⟩ (by omega) ⟨by omega, by rw [hp9]; omega⟩
  refine l_act hX hst dL_law_262 hH hV (ya_in rfl) (by constructor <;> omega) (by constructor <;> omega) (by constructor <;> omega) (ya_in rfl) ea (show cs + 10 ≤ 600104 by omega) (show ss + 250 ≤ 7301314 by omega) (by first | exact Nat.le_of_ble_eq_true rfl | simp [cat_rf, Value.category]) (fun A ow τ M sz hH hV => ?_)
  unfold yb_C at hC1
  refine g_istore hX dL_law_265 ?_
  dsimp only [List.set]
  refine g_aload hX dL_law_267 rfl rfl ?_
  refine g_const hX dL_law_268 ?_
  refine g_iload hX dL_law_269 rfl ?_
  refine g_iload hX dL_law_271 rfl ?_
  obtain ⟨zrn1, hzrn1⟩ : ∃ c : Int, z % n1 = c := ⟨_, rfl⟩
  have bzrn1 : 0 ≤ zrn1 ∧ zrn1 < n1 := by rw [← hzrn1]; exact ⟨Int.emod_nonneg _ (by omega), Int.emod_lt_of_pos _ (by omega)⟩
  refine y_irem (c := zrn1) hX dL_law_272 rz rn1 (by omega) (by omega) hzrn1 ?_
  refine g_const hX dL_law_273 ?_
  refine g_iload hX dL_law_274 rfl ?_
  refine g_const hX dL_law_276 ?_
  obtain ⟨yr2, hyr2⟩ : ∃ c : Int, y % 2 = c := ⟨_, rfl⟩
  have byr2 : 0 ≤ yr2 ∧ yr2 < 2 := by omega
  refine y_irem (c := yr2) hX dL_law_277 ry (ya_in rfl) (by omega) (by omega) hyr2 ?_
  refine z_iadd hX dL_law_278 ?_
  refine g_iload hX dL_law_279 rfl ?_
  refine g_const hX dL_law_281 ?_
  refine y_irem (c := yr2) hX dL_law_282 ry (ya_in rfl) (by omega) (by omega) hyr2 ?_
  refine g_const hX dL_law_283 ?_
  obtain ⟨p14, σ2, eb, hb1, hb2, hC2⟩ := yb_phrase (d := 0) hV (t := zrn1) (m := 1 + yr2) (s := yr2) ⟨by omega, by omega⟩ (by omega) ⟨by omega, by rcases (show yr2 = 0 ∨ yr2 = 1 by omega) with e | e <;> rw [e] <;> decide⟩
  refine l_act hX hst dL_law_284 hH hV (ya_in rfl) (by constructor <;> omega) (by constructor <;> omega) (by constructor <;> omega) (ya_in rfl) eb (show cs + 10 + 10 ≤ 600104 by omega) (show ss + 250 + 250 ≤ 7301314 by omega) (by first | exact Nat.le_of_ble_eq_true rfl | simp [cat_rf, Value.category]) (fun A ow τ M sz hH hV => ?_)
  unfold yb_C at hC2
  refine g_istore hX dL_law_287 ?_
  dsimp only [List.set]
  exact lawC1 (u13 := .null) (u14 := .null) hX hst rk hw hy hz hY hH hV (by omega) (by omega) (by omega) (by omega) q0 q1 ha1 ha2 hb1 hb2 (by omega) (by omega) hc9 hs8 hn

set_option maxRecDepth 20000 in
theorem lawD3a {X : hX} (hX : Cok X mL_law) (hst : X.1.2.1.stackTraces = false) {b h : Nat} {n0 n1 n2 n3 k w y z Y : Int} {u7 u12 u13 u14 u15 u16 u17 : Value} {σ : SG} {A : Nat → Nat → Nat} {ow : Nat → Nat × Nat} {τ : Nat → Nat → Int} {M : hM} {sz cs ss : Nat} (rk : inR k) (hw : 0 ≤ w ∧ w < 13) (hy : 0 ≤ y ∧ y ≤ 1290555) (hz : 0 ≤ z ∧ z ≤ 21509) (hY : 1600 ≤ Y ∧ Y ≤ 2399) (hH : HX X.2.2.2.2.2.2.2.2.2 h A ow σ τ M) (hV : SV σ) (e0 : σ 0 0 0 = n0) (e1 : σ 1 0 0 = n1) (e2 : σ 2 0 0 = n2 + 1) (q9 : 0 ≤ n2) (e3 : σ 3 0 0 = n3)  (q : n2 < 20) {c9 s8 : Nat} (hc : cs + 6 ≤ c9) (hs : ss + 36 ≤ s8) (hc9 : c9 ≤ 600104) (hs8 : s8 ≤ 7301314) (hn : ∀ (σ' : SG) (A' : Nat → Nat → Nat) (ow' : Nat → Nat × Nat) (τ' : Nat → Nat → Int) (M' : hM) (s9 : Nat) (m0 m1 m2 m3 : Int) (u7 u8 u9 u10 u11 u12 u13 u14 u15 u16 u17 : Value), HX X.2.2.2.2.2.2.2.2.2 h A' ow' σ' τ' M' → SV σ' → σ' 0 0 0 = m0 → σ' 1 0 0 = m1 → σ' 2 0 0 = m2 → σ' 3 0 0 = m3 → G X 1123 [.ref b, .ref h, .int (iZ m0), .int (iZ m1), .int (iZ m2), .int (iZ m3), .int (iZ k), u7, u8, u9, u10, u11, u12, u13, u14, u15, u16, u17] [] M' s9 c9 s8) : G X 514 [.ref b, .ref h, .int (iZ n0), .int (iZ n1), .int (iZ n2), .int (iZ n3), .int (iZ k), u7, .int (iZ w), .int (iZ y), .int (iZ z), .int (iZ Y), u12, u13, u14, u15, u16, u17] [.int (iZ n2)] M sz cs ss := by
  have hsn := hV.n
  unfold SVn at hsn
  have rn0 : inR n0 := by constructor <;> omega
  have rn1 : inR n1 := by constructor <;> omega
  have rn2 : inR n2 := by constructor <;> omega
  have rn3 : inR n3 := by constructor <;> omega
  have rw9 : inR w := by constructor <;> omega
  have ry : inR y := by constructor <;> omega
  have rz : inR z := by constructor <;> omega
  have rY : inR Y := by constructor <;> omega
  refine g_istore hX dL_law_514 ?_
  dsimp only [List.set]
  refine g_iload hX dL_law_516 rfl ?_
  refine g_iload hX dL_law_518 rfl ?_
  refine g_const hX dL_law_520 ?_
  refine yf_icmp_ge hX dL_law_522 rn2 (ya_in rfl) (by omega) ?_
  refine g_iload hX dL_law_525 rfl ?_
  refine g_goto hX dL_law_527 ?_
  refine yt_icmp_eq hX dL_law_532 rn2 rn2 rfl ?_
  refine g_iload hX dL_law_537 rfl ?_
  refine g_iload hX dL_law_539 rfl ?_
  refine g_const hX dL_law_541 ?_
  refine yf_icmp_ge hX dL_law_543 rn2 (ya_in rfl) (by omega) ?_
  refine g_const hX dL_law_546 ?_
  refine g_goto hX dL_law_547 ?_
  refine z_iadd hX dL_law_551 ?_
  refine g_istore hX dL_law_552 ?_
  dsimp only [List.set]
  refine g_aload hX dL_law_554 rfl rfl ?_
  refine g_iload hX dL_law_555 rfl ?_
  refine g_const hX dL_law_557 ?_
  refine y_isub (c := n2) hX dL_law_558 (by omega) ?_
  refine g_iload hX dL_law_559 rfl ?_
  refine g_const hX dL_law_561 ?_
  obtain ⟨yr3, hyr3⟩ : ∃ c : Int, y % 3 = c := ⟨_, rfl⟩
  have byr3 : 0 ≤ yr3 ∧ yr3 < 3 := by omega
  refine y_irem (c := yr3) hX dL_law_562 ry (ya_in rfl) (by omega) (by omega) hyr3 ?_
  refine g_iload hX dL_law_563 rfl ?_
  refine g_const hX dL_law_565 ?_
  obtain ⟨zr16, hzr16⟩ : ∃ c : Int, z % 16 = c := ⟨_, rfl⟩
  have bzr16 : 0 ≤ zr16 ∧ zr16 < 16 := by omega
  refine y_irem (c := zr16) hX dL_law_567 rz (ya_in rfl) (by omega) (by omega) hzr16 ?_
  obtain ⟨v1, σ1, e1_, hv1, hC1⟩ := yb_read hV (a := n2) (b := yr3) (c := zr16) (Or.inr ⟨by omega, by omega⟩) (by omega) (by omega)
  refine l_reading hX hst dL_law_568 hH hV (by constructor <;> omega) (by constructor <;> omega) (by constructor <;> omega) e1_ (show cs + 3 ≤ 600104 by omega) (show ss + 18 ≤ 7301314 by omega) (by first | exact Nat.le_of_ble_eq_true rfl | simp [cat_rf, Value.category]) (fun A ow τ M sz hH hV => ?_)
  unfold yb_C at hC1
  refine g_pop hX dL_law_571 rfl ?_
  refine g_aload hX dL_law_572 rfl rfl ?_
  refine g_const hX dL_law_573 ?_
  refine g_iload hX dL_law_575 rfl ?_
  refine g_const hX dL_law_577 ?_
  obtain ⟨zr3, hzr3⟩ : ∃ c : Int, z % 3 = c := ⟨_, rfl⟩
  have bzr3 : 0 ≤ zr3 ∧ zr3 < 3 := by omega
  refine y_irem (c := zr3) hX dL_law_578 rz (ya_in rfl) (by omega) (by omega) hzr3 ?_
  refine g_iload hX dL_law_579 rfl ?_
  refine g_const hX dL_law_581 ?_
  obtain ⟨yr16, hyr16⟩ : ∃ c : Int, y % 16 = c := ⟨_, rfl⟩
  have byr16 : 0 ≤ yr16 ∧ yr16 < 16 := by omega
  refine y_irem (c := yr16) hX dL_law_583 ry (ya_in rfl) (by omega) (by omega) hyr16 ?_
  obtain ⟨v2, σ2, e2_, hv2, hC2⟩ := yb_read hV (a := -2) (b := zr3) (c := yr16) (Or.inl rfl) (by omega) (by omega)
  refine l_reading hX hst dL_law_584 hH hV (ya_in rfl) (by constructor <;> omega) (by constructor <;> omega) e2_ (show cs + 3 + 3 ≤ 600104 by omega) (show ss + 18 + 18 ≤ 7301314 by omega) (by first | exact Nat.le_of_ble_eq_true rfl | simp [cat_rf, Value.category]) (fun A ow τ M sz hH hV => ?_)
  unfold yb_C at hC2
  refine g_pop hX dL_law_587 rfl ?_
  refine g_goto hX dL_law_588 ?_
  exact g_wide (by omega) (by omega) (hn _ _ _ _ _ _ _ _ _ _ _ _ _ _ _ _ _ _ _ _ _ hH hV (by omega) (by omega) (by omega) (by omega))

set_option maxRecDepth 20000 in
theorem lawD3b {X : hX} (hX : Cok X mL_law) (hst : X.1.2.1.stackTraces = false) {b h : Nat} {n0 n1 n2 n3 k w y z Y : Int} {u7 u12 u13 u14 u15 u16 u17 : Value} {σ : SG} {A : Nat → Nat → Nat} {ow : Nat → Nat × Nat} {τ : Nat → Nat → Int} {M : hM} {sz cs ss : Nat} (rk : inR k) (hw : 0 ≤ w ∧ w < 13) (hy : 0 ≤ y ∧ y ≤ 1290555) (hz : 0 ≤ z ∧ z ≤ 21509) (hY : 1600 ≤ Y ∧ Y ≤ 2399) (hH : HX X.2.2.2.2.2.2.2.2.2 h A ow σ τ M) (hV : SV σ) (e0 : σ 0 0 0 = n0) (e1 : σ 1 0 0 = n1) (e2 : σ 2 0 0 = n2) (e3 : σ 3 0 0 = n3)  (q : n2 = 20) {c9 s8 : Nat} (hc : cs + 6 ≤ c9) (hs : ss + 36 ≤ s8) (hc9 : c9 ≤ 600104) (hs8 : s8 ≤ 7301314) (hn : ∀ (σ' : SG) (A' : Nat → Nat → Nat) (ow' : Nat → Nat × Nat) (τ' : Nat → Nat → Int) (M' : hM) (s9 : Nat) (m0 m1 m2 m3 : Int) (u7 u8 u9 u10 u11 u12 u13 u14 u15 u16 u17 : Value), HX X.2.2.2.2.2.2.2.2.2 h A' ow' σ' τ' M' → SV σ' → σ' 0 0 0 = m0 → σ' 1 0 0 = m1 → σ' 2 0 0 = m2 → σ' 3 0 0 = m3 → G X 1123 [.ref b, .ref h, .int (iZ m0), .int (iZ m1), .int (iZ m2), .int (iZ m3), .int (iZ k), u7, u8, u9, u10, u11, u12, u13, u14, u15, u16, u17] [] M' s9 c9 s8) : G X 514 [.ref b, .ref h, .int (iZ n0), .int (iZ n1), .int (iZ n2), .int (iZ n3), .int (iZ k), u7, .int (iZ w), .int (iZ y), .int (iZ z), .int (iZ Y), u12, u13, u14, u15, u16, u17] [.int (iZ (-7000003))] M sz cs ss := by
  have hsn := hV.n
  unfold SVn at hsn
  have rn0 : inR n0 := by constructor <;> omega
  have rn1 : inR n1 := by constructor <;> omega
  have rn2 : inR n2 := by constructor <;> omega
  have rn3 : inR n3 := by constructor <;> omega
  have rw9 : inR w := by constructor <;> omega
  have ry : inR y := by constructor <;> omega
  have rz : inR z := by constructor <;> omega
  have rY : inR Y := by constructor <;> omega
  refine g_istore hX dL_law_514 ?_
  dsimp only [List.set]
  refine g_iload hX dL_law_516 rfl ?_
  refine g_iload hX dL_law_518 rfl ?_
  refine g_const hX dL_law_520 ?_
  refine yt_icmp_ge hX dL_law_522 rn2 (ya_in rfl) (by omega) ?_
  refine g_const hX dL_law_530 ?_
  refine yt_icmp_eq hX dL_law_532 (ya_in rfl) (ya_in rfl) rfl ?_
  refine g_iload hX dL_law_537 rfl ?_
  refine g_iload hX dL_law_539 rfl ?_
  refine g_const hX dL_law_541 ?_
  refine yt_icmp_ge hX dL_law_543 rn2 (ya_in rfl) (by omega) ?_
  refine g_const hX dL_law_550 ?_
  refine y_iadd (c := n2) hX dL_law_551 (by omega) ?_
  refine g_istore hX dL_law_552 ?_
  dsimp only [List.set]
  refine g_aload hX dL_law_554 rfl rfl ?_
  refine g_iload hX dL_law_555 rfl ?_
  refine g_const hX dL_law_557 ?_
  refine z_isub hX dL_law_558 ?_
  refine g_iload hX dL_law_559 rfl ?_
  refine g_const hX dL_law_561 ?_
  obtain ⟨yr3, hyr3⟩ : ∃ c : Int, y % 3 = c := ⟨_, rfl⟩
  have byr3 : 0 ≤ yr3 ∧ yr3 < 3 := by omega
  refine y_irem (c := yr3) hX dL_law_562 ry (ya_in rfl) (by omega) (by omega) hyr3 ?_
  refine g_iload hX dL_law_563 rfl ?_
  refine g_const hX dL_law_565 ?_
  obtain ⟨zr16, hzr16⟩ : ∃ c : Int, z % 16 = c := ⟨_, rfl⟩
  have bzr16 : 0 ≤ zr16 ∧ zr16 < 16 := by omega
  refine y_irem (c := zr16) hX dL_law_567 rz (ya_in rfl) (by omega) (by omega) hzr16 ?_
  obtain ⟨v1, σ1, e1_, hv1, hC1⟩ := yb_read hV (a := n2 - 1) (b := yr3) (c := zr16) (Or.inr ⟨by omega, by omega⟩) (by omega) (by omega)
  refine l_reading hX hst dL_law_568 hH hV (by constructor <;> omega) (by constructor <;> omega) (by constructor <;> omega) e1_ (show cs + 3 ≤ 600104 by omega) (show ss + 18 ≤ 7301314 by omega) (by first | exact Nat.le_of_ble_eq_true rfl | simp [cat_rf, Value.category]) (fun A ow τ M sz hH hV => ?_)
  unfold yb_C at hC1
  refine g_pop hX dL_law_571 rfl ?_
  refine g_aload hX dL_law_572 rfl rfl ?_
  refine g_const hX dL_law_573 ?_
  refine g_iload hX dL_law_575 rfl ?_
  refine g_const hX dL_law_577 ?_
  obtain ⟨zr3, hzr3⟩ : ∃ c : Int, z % 3 = c := ⟨_, rfl⟩
  have bzr3 : 0 ≤ zr3 ∧ zr3 < 3 := by omega
  refine y_irem (c := zr3) hX dL_law_578 rz (ya_in rfl) (by omega) (by omega) hzr3 ?_
  refine g_iload hX dL_law_579 rfl ?_
  refine g_const hX dL_law_581 ?_
  obtain ⟨yr16, hyr16⟩ : ∃ c : Int, y % 16 = c := ⟨_, rfl⟩
  have byr16 : 0 ≤ yr16 ∧ yr16 < 16 := by omega
  refine y_irem (c := yr16) hX dL_law_583 ry (ya_in rfl) (by omega) (by omega) hyr16 ?_
  obtain ⟨v2, σ2, e2_, hv2, hC2⟩ := yb_read hV (a := -2) (b := zr3) (c := yr16) (Or.inl rfl) (by omega) (by omega)
  refine l_reading hX hst dL_law_584 hH hV (ya_in rfl) (by constructor <;> omega) (by constructor <;> omega) e2_ (show cs + 3 + 3 ≤ 600104 by omega) (show ss + 18 + 18 ≤ 7301314 by omega) (by first | exact Nat.le_of_ble_eq_true rfl | simp [cat_rf, Value.category]) (fun A ow τ M sz hH hV => ?_)
  unfold yb_C at hC2
  refine g_pop hX dL_law_587 rfl ?_
  refine g_goto hX dL_law_588 ?_
  exact g_wide (by omega) (by omega) (hn _ _ _ _ _ _ _ _ _ _ _ _ _ _ _ _ _ _ _ _ _ hH hV (by omega) (by omega) (by omega) (by omega))

set_option maxRecDepth 20000 in
theorem lawD1a {X : hX} (hX : Cok X mL_law) (hst : X.1.2.1.stackTraces = false) {b h : Nat} {n0 n1 n2 n3 k w y z Y : Int} {u7 u12 u13 u14 u15 u16 u17 : Value} {σ : SG} {A : Nat → Nat → Nat} {ow : Nat → Nat × Nat} {τ : Nat → Nat → Int} {M : hM} {sz cs ss : Nat} (rk : inR k) (hw : 0 ≤ w ∧ w < 13) (hy : 0 ≤ y ∧ y ≤ 1290555) (hz : 0 ≤ z ∧ z ≤ 21509) (hY : 1600 ≤ Y ∧ Y ≤ 2399) (hH : HX X.2.2.2.2.2.2.2.2.2 h A ow σ τ M) (hV : SV σ) (e0 : σ 0 0 0 = n0) (e1 : σ 1 0 0 = n1) (e2 : σ 2 0 0 = n2) (e3 : σ 3 0 0 = n3)  (hw4 : w = 4) (q : n2 < 20) {c9 s8 : Nat} (hc : cs + 16 ≤ c9) (hs : ss + 286 ≤ s8) (hc9 : c9 ≤ 600104) (hs8 : s8 ≤ 7301314) (hn : ∀ (σ' : SG) (A' : Nat → Nat → Nat) (ow' : Nat → Nat × Nat) (τ' : Nat → Nat → Int) (M' : hM) (s9 : Nat) (m0 m1 m2 m3 : Int) (u7 u8 u9 u10 u11 u12 u13 u14 u15 u16 u17 : Value), HX X.2.2.2.2.2.2.2.2.2 h A' ow' σ' τ' M' → SV σ' → σ' 0 0 0 = m0 → σ' 1 0 0 = m1 → σ' 2 0 0 = m2 → σ' 3 0 0 = m3 → G X 1123 [.ref b, .ref h, .int (iZ m0), .int (iZ m1), .int (iZ m2), .int (iZ m3), .int (iZ k), u7, u8, u9, u10, u11, u12, u13, u14, u15, u16, u17] [] M' s9 c9 s8) : G X 448 [.ref b, .ref h, .int (iZ n0), .int (iZ n1), .int (iZ n2), .int (iZ n3), .int (iZ k), u7, .int (iZ w), .int (iZ y), .int (iZ z), .int (iZ Y), u12, u13, u14, u15, u16, u17] [] M sz cs ss := by
  have hsn := hV.n
  unfold SVn at hsn
  have rn0 : inR n0 := by constructor <;> omega
  have rn1 : inR n1 := by constructor <;> omega
  have rn2 : inR n2 := by constructor <;> omega
  have rn3 : inR n3 := by constructor <;> omega
  have rw9 : inR w := by constructor <;> omega
  have ry : inR y := by constructor <;> omega
  have rz : inR z := by constructor <;> omega
  have rY : inR Y := by constructor <;> omega
  refine g_iload hX dL_law_448 rfl ?_
  refine g_const hX dL_law_450 ?_
  refine yf_icmp_ne hX dL_law_451 rw9 (ya_in rfl) hw4 ?_
  refine g_aload hX dL_law_454 rfl rfl ?_
  refine g_const hX dL_law_455 ?_
  refine g_const hX dL_law_457 ?_
  refine g_iload hX dL_law_458 rfl ?_
  refine g_const hX dL_law_460 ?_
  obtain ⟨yr9, hyr9⟩ : ∃ c : Int, y % 9 = c := ⟨_, rfl⟩
  have byr9 : 0 ≤ yr9 ∧ yr9 < 9 := by omega
  refine y_irem (c := yr9) hX dL_law_462 ry (ya_in rfl) (by omega) (by omega) hyr9 ?_
  refine z_iadd hX dL_law_463 ?_
  refine g_iload hX dL_law_464 rfl ?_
  refine g_const hX dL_law_466 ?_
  obtain ⟨zr2, hzr2⟩ : ∃ c : Int, z % 2 = c := ⟨_, rfl⟩
  have bzr2 : 0 ≤ zr2 ∧ zr2 < 2 := by omega
  refine y_irem (c := zr2) hX dL_law_467 rz (ya_in rfl) (by omega) (by omega) hzr2 ?_
  refine g_const hX dL_law_468 ?_
  refine g_iload hX dL_law_469 rfl ?_
  refine g_const hX dL_law_471 ?_
  obtain ⟨zr12, hzr12⟩ : ∃ c : Int, z % 12 = c := ⟨_, rfl⟩
  have bzr12 : 0 ≤ zr12 ∧ zr12 < 12 := by omega
  refine y_irem (c := zr12) hX dL_law_473 rz (ya_in rfl) (by omega) (by omega) hzr12 ?_
  refine z_iadd hX dL_law_474 ?_
  refine g_const hX dL_law_475 ?_
  refine g_iload hX dL_law_476 rfl ?_
  refine g_const hX dL_law_478 ?_
  obtain ⟨yr28, hyr28⟩ : ∃ c : Int, y % 28 = c := ⟨_, rfl⟩
  have byr28 : 0 ≤ yr28 ∧ yr28 < 28 := by omega
  refine y_irem (c := yr28) hX dL_law_480 ry (ya_in rfl) (by omega) (by omega) hyr28 ?_
  refine z_iadd hX dL_law_481 ?_
  refine l_act hX hst dL_law_482 hH hV (ya_in rfl) (by constructor <;> omega) (by constructor <;> omega) (by constructor <;> omega) (by constructor <;> omega) (show ya_act σ 14 (1 + yr9) zr2 (1 + zr12) (1 + yr28) = (n2, adF σ (1 + yr9) (bZ (zr2 = 1)) (1 + zr12) (1 + yr28) 0) from by rw [← e2]; exact yb_feast1 (by omega) (yb_day ⟨by decide, by decide⟩ (by omega) (by omega)) (by omega)) (show cs + 10 ≤ 600104 by omega) (show ss + 250 ≤ 7301314 by omega) (by first | exact Nat.le_of_ble_eq_true rfl | simp [cat_rf, Value.category]) (fun A ow τ M sz hH hV => ?_)
  have hct := yb_adF σ (1 + yr9) (bZ (zr2 = 1)) (1 + zr12) (1 + yr28) 0
  refine g_goto hX dL_law_485 ?_
  exact lawD3a hX hst rk hw hy hz hY hH hV (hct.1.trans e0) (hct.2.1.trans e1) (by rw [hct.2.2.1, e2]) (by omega) (hct.2.2.2.trans e3) q (by omega) (by omega) hc9 hs8 hn

set_option maxRecDepth 20000 in
theorem lawD1b {X : hX} (hX : Cok X mL_law) (hst : X.1.2.1.stackTraces = false) {b h : Nat} {n0 n1 n2 n3 k w y z Y : Int} {u7 u12 u13 u14 u15 u16 u17 : Value} {σ : SG} {A : Nat → Nat → Nat} {ow : Nat → Nat × Nat} {τ : Nat → Nat → Int} {M : hM} {sz cs ss : Nat} (rk : inR k) (hw : 0 ≤ w ∧ w < 13) (hy : 0 ≤ y ∧ y ≤ 1290555) (hz : 0 ≤ z ∧ z ≤ 21509) (hY : 1600 ≤ Y ∧ Y ≤ 2399) (hH : HX X.2.2.2.2.2.2.2.2.2 h A ow σ τ M) (hV : SV σ) (e0 : σ 0 0 0 = n0) (e1 : σ 1 0 0 = n1) (e2 : σ 2 0 0 = n2) (e3 : σ 3 0 0 = n3)  (hw4 : w = 4) (q : n2 = 20) {c9 s8 : Nat} (hc : cs + 16 ≤ c9) (hs : ss + 286 ≤ s8) (hc9 : c9 ≤ 600104) (hs8 : s8 ≤ 7301314) (hn : ∀ (σ' : SG) (A' : Nat → Nat → Nat) (ow' : Nat → Nat × Nat) (τ' : Nat → Nat → Int) (M' : hM) (s9 : Nat) (m0 m1 m2 m3 : Int) (u7 u8 u9 u10 u11 u12 u13 u14 u15 u16 u17 : Value), HX X.2.2.2.2.2.2.2.2.2 h A' ow' σ' τ' M' → SV σ' → σ' 0 0 0 = m0 → σ' 1 0 0 = m1 → σ' 2 0 0 = m2 → σ' 3 0 0 = m3 → G X 1123 [.ref b, .ref h, .int (iZ m0), .int (iZ m1), .int (iZ m2), .int (iZ m3), .int (iZ k), u7, u8, u9, u10, u11, u12, u13, u14, u15, u16, u17] [] M' s9 c9 s8) : G X 448 [.ref b, .ref h, .int (iZ n0), .int (iZ n1), .int (iZ n2), .int (iZ n3), .int (iZ k), u7, .int (iZ w), .int (iZ y), .int (iZ z), .int (iZ Y), u12, u13, u14, u15, u16, u17] [] M sz cs ss := by
  have hsn := hV.n
  unfold SVn at hsn
  have rn0 : inR n0 := by constructor <;> omega
  have rn1 : inR n1 := by constructor <;> omega
  have rn2 : inR n2 := by constructor <;> omega
  have rn3 : inR n3 := by constructor <;> omega
  have rw9 : inR w := by constructor <;> omega
  have ry : inR y := by constructor <;> omega
  have rz : inR z := by constructor <;> omega
  have rY : inR Y := by constructor <;> omega
  refine g_iload hX dL_law_448 rfl ?_
  refine g_const hX dL_law_450 ?_
  refine yf_icmp_ne hX dL_law_451 rw9 (ya_in rfl) hw4 ?_
  refine g_aload hX dL_law_454 rfl rfl ?_
  refine g_const hX dL_law_455 ?_
  refine g_const hX dL_law_457 ?_
  refine g_iload hX dL_law_458 rfl ?_
  refine g_const hX dL_law_460 ?_
  obtain ⟨yr9, hyr9⟩ : ∃ c : Int, y % 9 = c := ⟨_, rfl⟩
  have byr9 : 0 ≤ yr9 ∧ yr9 < 9 := by omega
  refine y_irem (c := yr9) hX dL_law_462 ry (ya_in rfl) (by omega) (by omega) hyr9 ?_
  refine z_iadd hX dL_law_463 ?_
  refine g_iload hX dL_law_464 rfl ?_
  refine g_const hX dL_law_466 ?_
  obtain ⟨zr2, hzr2⟩ : ∃ c : Int, z % 2 = c := ⟨_, rfl⟩
  have bzr2 : 0 ≤ zr2 ∧ zr2 < 2 := by omega
  refine y_irem (c := zr2) hX dL_law_467 rz (ya_in rfl) (by omega) (by omega) hzr2 ?_
  refine g_const hX dL_law_468 ?_
  refine g_iload hX dL_law_469 rfl ?_
  refine g_const hX dL_law_471 ?_
  obtain ⟨zr12, hzr12⟩ : ∃ c : Int, z % 12 = c := ⟨_, rfl⟩
  have bzr12 : 0 ≤ zr12 ∧ zr12 < 12 := by omega
  refine y_irem (c := zr12) hX dL_law_473 rz (ya_in rfl) (by omega) (by omega) hzr12 ?_
  refine z_iadd hX dL_law_474 ?_
  refine g_const hX dL_law_475 ?_
  refine g_iload hX dL_law_476 rfl ?_
  refine g_const hX dL_law_478 ?_
  obtain ⟨yr28, hyr28⟩ : ∃ c : Int, y % 28 = c := ⟨_, rfl⟩
  have byr28 : 0 ≤ yr28 ∧ yr28 < 28 := by omega
  refine y_irem (c := yr28) hX dL_law_480 ry (ya_in rfl) (by omega) (by omega) hyr28 ?_
  refine z_iadd hX dL_law_481 ?_
  refine l_act hX hst dL_law_482 hH hV (ya_in rfl) (by constructor <;> omega) (by constructor <;> omega) (by constructor <;> omega) (by constructor <;> omega) (yb_feast2 (by omega) (yb_day ⟨by decide, by decide⟩ (by omega) (by omega)) (by omega)) (show cs + 10 ≤ 600104 by omega) (show ss + 250 ≤ 7301314 by omega) (by first | exact Nat.le_of_ble_eq_true rfl | simp [cat_rf, Value.category]) (fun A ow τ M sz hH hV => ?_)
  refine g_goto hX dL_law_485 ?_
  exact lawD3b hX hst rk hw hy hz hY hH hV e0 e1 e2 e3 q (by omega) (by omega) hc9 hs8 hn

set_option maxRecDepth 20000 in
theorem lawD2a {X : hX} (hX : Cok X mL_law) (hst : X.1.2.1.stackTraces = false) {b h : Nat} {n0 n1 n2 n3 k w y z Y : Int} {u7 u12 u13 u14 u15 u16 u17 : Value} {σ : SG} {A : Nat → Nat → Nat} {ow : Nat → Nat × Nat} {τ : Nat → Nat → Int} {M : hM} {sz cs ss : Nat} (rk : inR k) (hw : 0 ≤ w ∧ w < 13) (hy : 0 ≤ y ∧ y ≤ 1290555) (hz : 0 ≤ z ∧ z ≤ 21509) (hY : 1600 ≤ Y ∧ Y ≤ 2399) (hH : HX X.2.2.2.2.2.2.2.2.2 h A ow σ τ M) (hV : SV σ) (e0 : σ 0 0 0 = n0) (e1 : σ 1 0 0 = n1) (e2 : σ 2 0 0 = n2) (e3 : σ 3 0 0 = n3)  (hw4 : w = 5) (q : n2 < 20) {c9 s8 : Nat} (hc : cs + 16 ≤ c9) (hs : ss + 286 ≤ s8) (hc9 : c9 ≤ 600104) (hs8 : s8 ≤ 7301314) (hn : ∀ (σ' : SG) (A' : Nat → Nat → Nat) (ow' : Nat → Nat × Nat) (τ' : Nat → Nat → Int) (M' : hM) (s9 : Nat) (m0 m1 m2 m3 : Int) (u7 u8 u9 u10 u11 u12 u13 u14 u15 u16 u17 : Value), HX X.2.2.2.2.2.2.2.2.2 h A' ow' σ' τ' M' → SV σ' → σ' 0 0 0 = m0 → σ' 1 0 0 = m1 → σ' 2 0 0 = m2 → σ' 3 0 0 = m3 → G X 1123 [.ref b, .ref h, .int (iZ m0), .int (iZ m1), .int (iZ m2), .int (iZ m3), .int (iZ k), u7, u8, u9, u10, u11, u12, u13, u14, u15, u16, u17] [] M' s9 c9 s8) : G X 448 [.ref b, .ref h, .int (iZ n0), .int (iZ n1), .int (iZ n2), .int (iZ n3), .int (iZ k), u7, .int (iZ w), .int (iZ y), .int (iZ z), .int (iZ Y), u12, u13, u14, u15, u16, u17] [] M sz cs ss := by
  have hsn := hV.n
  unfold SVn at hsn
  have rn0 : inR n0 := by constructor <;> omega
  have rn1 : inR n1 := by constructor <;> omega
  have rn2 : inR n2 := by constructor <;> omega
  have rn3 : inR n3 := by constructor <;> omega
  have rw9 : inR w := by constructor <;> omega
  have ry : inR y := by constructor <;> omega
  have rz : inR z := by constructor <;> omega
  have rY : inR Y := by constructor <;> omega
  refine g_iload hX dL_law_448 rfl ?_
  refine g_const hX dL_law_450 ?_
  refine yt_icmp_ne hX dL_law_451 rw9 (ya_in rfl) (by omega) ?_
  refine g_aload hX dL_law_488 rfl rfl ?_
  refine g_const hX dL_law_489 ?_
  refine g_const hX dL_law_491 ?_
  refine g_iload hX dL_law_492 rfl ?_
  refine g_const hX dL_law_494 ?_
  obtain ⟨yr9, hyr9⟩ : ∃ c : Int, y % 9 = c := ⟨_, rfl⟩
  have byr9 : 0 ≤ yr9 ∧ yr9 < 9 := by omega
  refine y_irem (c := yr9) hX dL_law_496 ry (ya_in rfl) (by omega) (by omega) hyr9 ?_
  refine z_iadd hX dL_law_497 ?_
  refine g_iload hX dL_law_498 rfl ?_
  refine g_const hX dL_law_500 ?_
  obtain ⟨zr2, hzr2⟩ : ∃ c : Int, z % 2 = c := ⟨_, rfl⟩
  have bzr2 : 0 ≤ zr2 ∧ zr2 < 2 := by omega
  refine y_irem (c := zr2) hX dL_law_501 rz (ya_in rfl) (by omega) (by omega) hzr2 ?_
  refine g_iload hX dL_law_502 rfl ?_
  refine g_const hX dL_law_504 ?_
  obtain ⟨zr121, hzr121⟩ : ∃ c : Int, z % 121 = c := ⟨_, rfl⟩
  have bzr121 : 0 ≤ zr121 ∧ zr121 < 121 := by omega
  refine y_irem (c := zr121) hX dL_law_506 rz (ya_in rfl) (by omega) (by omega) hzr121 ?_
  refine g_const hX dL_law_507 ?_
  refine z_isub hX dL_law_509 ?_
  refine g_const hX dL_law_510 ?_
  refine l_act hX hst dL_law_511 hH hV (ya_in rfl) (by constructor <;> omega) (by constructor <;> omega) (by constructor <;> omega) (ya_in rfl) (show ya_act σ 15 (1 + yr9) zr2 (zr121 - 60) 0 = (n2, adF σ (1 + yr9) (bZ (zr2 = 1)) 0 (zr121 - 60) 1) from by rw [← e2]; exact yb_moving1 (by omega) (by omega) (by omega)) (show cs + 10 ≤ 600104 by omega) (show ss + 250 ≤ 7301314 by omega) (by first | exact Nat.le_of_ble_eq_true rfl | simp [cat_rf, Value.category]) (fun A ow τ M sz hH hV => ?_)
  have hct := yb_adF σ (1 + yr9) (bZ (zr2 = 1)) 0 (zr121 - 60) 1
  exact lawD3a hX hst rk hw hy hz hY hH hV (hct.1.trans e0) (hct.2.1.trans e1) (by rw [hct.2.2.1, e2]) (by omega) (hct.2.2.2.trans e3) q (by omega) (by omega) hc9 hs8 hn

set_option maxRecDepth 20000 in
theorem lawD2b {X : hX} (hX : Cok X mL_law) (hst : X.1.2.1.stackTraces = false) {b h : Nat} {n0 n1 n2 n3 k w y z Y : Int} {u7 u12 u13 u14 u15 u16 u17 : Value} {σ : SG} {A : Nat → Nat → Nat} {ow : Nat → Nat × Nat} {τ : Nat → Nat → Int} {M : hM} {sz cs ss : Nat} (rk : inR k) (hw : 0 ≤ w ∧ w < 13) (hy : 0 ≤ y ∧ y ≤ 1290555) (hz : 0 ≤ z ∧ z ≤ 21509) (hY : 1600 ≤ Y ∧ Y ≤ 2399) (hH : HX X.2.2.2.2.2.2.2.2.2 h A ow σ τ M) (hV : SV σ) (e0 : σ 0 0 0 = n0) (e1 : σ 1 0 0 = n1) (e2 : σ 2 0 0 = n2) (e3 : σ 3 0 0 = n3)  (hw4 : w = 5) (q : n2 = 20) {c9 s8 : Nat} (hc : cs + 16 ≤ c9) (hs : ss + 286 ≤ s8) (hc9 : c9 ≤ 600104) (hs8 : s8 ≤ 7301314) (hn : ∀ (σ' : SG) (A' : Nat → Nat → Nat) (ow' : Nat → Nat × Nat) (τ' : Nat → Nat → Int) (M' : hM) (s9 : Nat) (m0 m1 m2 m3 : Int) (u7 u8 u9 u10 u11 u12 u13 u14 u15 u16 u17 : Value), HX X.2.2.2.2.2.2.2.2.2 h A' ow' σ' τ' M' → SV σ' → σ' 0 0 0 = m0 → σ' 1 0 0 = m1 → σ' 2 0 0 = m2 → σ' 3 0 0 = m3 → G X 1123 [.ref b, .ref h, .int (iZ m0), .int (iZ m1), .int (iZ m2), .int (iZ m3), .int (iZ k), u7, u8, u9, u10, u11, u12, u13, u14, u15, u16, u17] [] M' s9 c9 s8) : G X 448 [.ref b, .ref h, .int (iZ n0), .int (iZ n1), .int (iZ n2), .int (iZ n3), .int (iZ k), u7, .int (iZ w), .int (iZ y), .int (iZ z), .int (iZ Y), u12, u13, u14, u15, u16, u17] [] M sz cs ss := by
  have hsn := hV.n
  unfold SVn at hsn
  have rn0 : inR n0 := by constructor <;> omega
  have rn1 : inR n1 := by constructor <;> omega
  have rn2 : inR n2 := by constructor <;> omega
  have rn3 : inR n3 := by constructor <;> omega
  have rw9 : inR w := by constructor <;> omega
  have ry : inR y := by constructor <;> omega
  have rz : inR z := by constructor <;> omega
  have rY : inR Y := by constructor <;> omega
  refine g_iload hX dL_law_448 rfl ?_
  refine g_const hX dL_law_450 ?_
  refine yt_icmp_ne hX dL_law_451 rw9 (ya_in rfl) (by omega) ?_
  refine g_aload hX dL_law_488 rfl rfl ?_
  refine g_const hX dL_law_489 ?_
  refine g_const hX dL_law_491 ?_
  refine g_iload hX dL_law_492 rfl ?_
  refine g_const hX dL_law_494 ?_
  obtain ⟨yr9, hyr9⟩ : ∃ c : Int, y % 9 = c := ⟨_, rfl⟩
  have byr9 : 0 ≤ yr9 ∧ yr9 < 9 := by omega
  refine y_irem (c := yr9) hX dL_law_496 ry (ya_in rfl) (by omega) (by omega) hyr9 ?_
  refine z_iadd hX dL_law_497 ?_
  refine g_iload hX dL_law_498 rfl ?_
  refine g_const hX dL_law_500 ?_
  obtain ⟨zr2, hzr2⟩ : ∃ c : Int, z % 2 = c := ⟨_, rfl⟩
  have bzr2 : 0 ≤ zr2 ∧ zr2 < 2 := by omega
  refine y_irem (c := zr2) hX dL_law_501 rz (ya_in rfl) (by omega) (by omega) hzr2 ?_
  refine g_iload hX dL_law_502 rfl ?_
  refine g_const hX dL_law_504 ?_
  obtain ⟨zr121, hzr121⟩ : ∃ c : Int, z % 121 = c := ⟨_, rfl⟩
  have bzr121 : 0 ≤ zr121 ∧ zr121 < 121 := by omega
  refine y_irem (c := zr121) hX dL_law_506 rz (ya_in rfl) (by omega) (by omega) hzr121 ?_
  refine g_const hX dL_law_507 ?_
  refine z_isub hX dL_law_509 ?_
  refine g_const hX dL_law_510 ?_
  refine l_act hX hst dL_law_511 hH hV (ya_in rfl) (by constructor <;> omega) (by constructor <;> omega) (by constructor <;> omega) (ya_in rfl) (yb_moving2 (by omega) (by omega) (by omega)) (show cs + 10 ≤ 600104 by omega) (show ss + 250 ≤ 7301314 by omega) (by first | exact Nat.le_of_ble_eq_true rfl | simp [cat_rf, Value.category]) (fun A ow τ M sz hH hV => ?_)
  exact lawD3b hX hst rk hw hy hz hY hH hV e0 e1 e2 e3 q (by omega) (by omega) hc9 hs8 hn

set_option maxRecDepth 20000 in
theorem lawE {X : hX} (hX : Cok X mL_law) (hst : X.1.2.1.stackTraces = false) {b h : Nat} {n0 n1 n2 n3 k w y z Y : Int} {u7 u12 u13 u14 u15 u16 u17 : Value} {σ : SG} {A : Nat → Nat → Nat} {ow : Nat → Nat × Nat} {τ : Nat → Nat → Int} {M : hM} {sz cs ss : Nat} (rk : inR k) (hw : 0 ≤ w ∧ w < 13) (hy : 0 ≤ y ∧ y ≤ 1290555) (hz : 0 ≤ z ∧ z ≤ 21509) (hY : 1600 ≤ Y ∧ Y ≤ 2399) (hH : HX X.2.2.2.2.2.2.2.2.2 h A ow σ τ M) (hV : SV σ) (e0 : σ 0 0 0 = n0) (e1 : σ 1 0 0 = n1) (e2 : σ 2 0 0 = n2) (e3 : σ 3 0 0 = n3)   {c9 s8 : Nat} (hc : cs + 10 ≤ c9) (hs : ss + 60 ≤ s8) (hc9 : c9 ≤ 600104) (hs8 : s8 ≤ 7301314) (hn : ∀ (σ' : SG) (A' : Nat → Nat → Nat) (ow' : Nat → Nat × Nat) (τ' : Nat → Nat → Int) (M' : hM) (s9 : Nat) (m0 m1 m2 m3 : Int) (u7 u8 u9 u10 u11 u12 u13 u14 u15 u16 u17 : Value), HX X.2.2.2.2.2.2.2.2.2 h A' ow' σ' τ' M' → SV σ' → σ' 0 0 0 = m0 → σ' 1 0 0 = m1 → σ' 2 0 0 = m2 → σ' 3 0 0 = m3 → G X 1123 [.ref b, .ref h, .int (iZ m0), .int (iZ m1), .int (iZ m2), .int (iZ m3), .int (iZ k), u7, u8, u9, u10, u11, u12, u13, u14, u15, u16, u17] [] M' s9 c9 s8) : G X 598 [.ref b, .ref h, .int (iZ n0), .int (iZ n1), .int (iZ n2), .int (iZ n3), .int (iZ k), u7, .int (iZ w), .int (iZ y), .int (iZ z), .int (iZ Y), u12, u13, u14, u15, u16, u17] [] M sz cs ss := by
  have hsn := hV.n
  unfold SVn at hsn
  have rn0 : inR n0 := by constructor <;> omega
  have rn1 : inR n1 := by constructor <;> omega
  have rn2 : inR n2 := by constructor <;> omega
  have rn3 : inR n3 := by constructor <;> omega
  have rw9 : inR w := by constructor <;> omega
  have ry : inR y := by constructor <;> omega
  have rz : inR z := by constructor <;> omega
  have rY : inR Y := by constructor <;> omega
  refine g_aload hX dL_law_598 rfl rfl ?_
  refine g_iload hX dL_law_599 rfl ?_
  refine g_const hX dL_law_601 ?_
  obtain ⟨yr10, hyr10⟩ : ∃ c : Int, y % 10 = c := ⟨_, rfl⟩
  have byr10 : 0 ≤ yr10 ∧ yr10 < 10 := by omega
  refine y_irem (c := yr10) hX dL_law_603 ry (ya_in rfl) (by omega) (by omega) hyr10 ?_
  obtain ⟨sv, σ1, es, hsv, hC1⟩ := yb_sund hV (a := yr10) (by omega)
  refine l_sundays hX hst dL_law_604 hH hV (by constructor <;> omega) es (show cs + 1 ≤ 600104 by omega) (show ss + 6 ≤ 7301314 by omega) (by first | exact Nat.le_of_ble_eq_true rfl | simp [cat_rf, Value.category]) (fun A ow τ M sz hH hV => ?_)
  unfold yb_C at hC1
  have hE := yb_east hY
  obtain ⟨ev, hev⟩ : ∃ ev, eastMDZ Y = ev := ⟨_, rfl⟩
  rw [hev] at hE
  have rev : inR ev := by constructor <;> omega
  refine g_const hX dL_law_607 ?_
  refine yf_icmp_gt hX dL_law_609 (by constructor <;> omega) (ya_in rfl) (by omega) ?_
  refine g_aload hX dL_law_612 rfl rfl ?_
  refine g_iload hX dL_law_613 rfl ?_
  refine l_easter hX hst dL_law_615 hH hV rY (show oc_easter _ Y = (0, ev, _) from (yb_eastc _ hY).trans (by rw [hev])) (show cs + 1 + 1 ≤ 600104 by omega) (show ss + 6 + 6 ≤ 7301314 by omega) (by first | exact Nat.le_of_ble_eq_true rfl | simp [cat_rf, Value.category]) (fun A ow τ M sz hH hV => ?_)
  refine g_aload hX dL_law_618 rfl rfl ?_
  refine g_iload hX dL_law_619 rfl ?_
  refine l_easterAnew hX hst dL_law_621 hH hV rY (show oc_easter _ Y = (0, ev, _) from (yb_eastc _ hY).trans (by rw [hev])) (show cs + 1 + 1 + 1 ≤ 600104 by omega) (show ss + 6 + 6 + 6 ≤ 7301314 by omega) (by first | exact Nat.le_of_ble_eq_true rfl | simp [cat_rf, Value.category]) (fun A ow τ M sz hH hV => ?_)
  refine yf_icmp_ne hX dL_law_624 rev rev rfl ?_
  refine g_aload hX dL_law_627 rfl rfl ?_
  refine g_iload hX dL_law_628 rfl ?_
  refine g_aload hX dL_law_630 rfl rfl ?_
  refine g_iload hX dL_law_631 rfl ?_
  refine l_easter hX hst dL_law_633 hH hV rY (show oc_easter _ Y = (0, ev, _) from (yb_eastc _ hY).trans (by rw [hev])) (show cs + 1 + 1 + 1 + 1 ≤ 600104 by omega) (show ss + 6 + 6 + 6 + 6 ≤ 7301314 by omega) (by first | exact Nat.le_of_ble_eq_true rfl | simp [cat_rf, Value.category]) (fun A ow τ M sz hH hV => ?_)
  refine g_const hX dL_law_636 ?_
  obtain ⟨evq100, hevq100⟩ : ∃ c : Int, ev / 100 = c := ⟨_, rfl⟩
  have bevq100 : 0 ≤ evq100 := by omega
  refine y_idiv (c := evq100) hX dL_law_638 rev (ya_in rfl) (by omega) (by omega) hevq100 ?_
  refine g_aload hX dL_law_639 rfl rfl ?_
  refine g_iload hX dL_law_640 rfl ?_
  refine l_easter hX hst dL_law_642 hH hV rY (show oc_easter _ Y = (0, ev, _) from (yb_eastc _ hY).trans (by rw [hev])) (show cs + 1 + 1 + 1 + 1 + 1 ≤ 600104 by omega) (show ss + 6 + 6 + 6 + 6 + 6 ≤ 7301314 by omega) (by first | exact Nat.le_of_ble_eq_true rfl | simp [cat_rf, Value.category]) (fun A ow τ M sz hH hV => ?_)
  refine g_const hX dL_law_645 ?_
  obtain ⟨evr100, hevr100⟩ : ∃ c : Int, ev % 100 = c := ⟨_, rfl⟩
  have bevr100 : 0 ≤ evr100 ∧ evr100 < 100 := by omega
  refine y_irem (c := evr100) hX dL_law_647 rev (ya_in rfl) (by omega) (by omega) hevr100 ?_
  have hw7 : oc_weekday σ1 Y evq100 evr100 = (0, 0, σ1) := by
    have h8 := yb_wday σ1 hE.2.1
    rw [hE.2.2, hevq100, hevr100] at h8
    exact h8
  refine l_weekday hX hst dL_law_648 hH hV rY (by constructor <;> omega) (by constructor <;> omega) hw7 (show cs + 1 + 1 + 1 + 1 + 1 + 3 ≤ 600104 by omega) (show ss + 6 + 6 + 6 + 6 + 6 + 18 ≤ 7301314 by omega) (by first | exact Nat.le_of_ble_eq_true rfl | simp [cat_rf, Value.category]) (fun A ow τ M sz hH hV => ?_)
  refine yf_if_ne hX dL_law_651 (ya_in rfl) rfl ?_
  refine g_aload hX dL_law_654 rfl rfl ?_
  refine g_iload hX dL_law_655 rfl ?_
  refine l_easter hX hst dL_law_657 hH hV rY (show oc_easter _ Y = (0, ev, _) from (yb_eastc _ hY).trans (by rw [hev])) (show cs + 1 + 1 + 1 + 1 + 1 + 3 + 1 ≤ 600104 by omega) (show ss + 6 + 6 + 6 + 6 + 6 + 18 + 6 ≤ 7301314 by omega) (by first | exact Nat.le_of_ble_eq_true rfl | simp [cat_rf, Value.category]) (fun A ow τ M sz hH hV => ?_)
  refine g_const hX dL_law_660 ?_
  refine yf_icmp_lt hX dL_law_663 rev (ya_in rfl) (by omega) ?_
  refine g_aload hX dL_law_666 rfl rfl ?_
  refine g_iload hX dL_law_667 rfl ?_
  refine l_easter hX hst dL_law_669 hH hV rY (show oc_easter _ Y = (0, ev, _) from (yb_eastc _ hY).trans (by rw [hev])) (show cs + 1 + 1 + 1 + 1 + 1 + 3 + 1 + 1 ≤ 600104 by omega) (show ss + 6 + 6 + 6 + 6 + 6 + 18 + 6 + 6 ≤ 7301314 by omega) (by first | exact Nat.le_of_ble_eq_true rfl | simp [cat_rf, Value.category]) (fun A ow τ M sz hH hV => ?_)
  refine g_const hX dL_law_672 ?_
  refine yt_icmp_le hX dL_law_675 rev (ya_in rfl) (by omega) ?_
  exact g_wide (by omega) (by omega) (hn _ _ _ _ _ _ _ _ _ _ _ _ _ _ _ _ _ _ _ _ _ hH hV (by omega) (by omega) (by omega) (by omega))

set_option maxRecDepth 20000 in
theorem lawF3a {X : hX} (hX : Cok X mL_law) (hst : X.1.2.1.stackTraces = false) {b h : Nat} {n0 n1 n2 n3 k w y z Y : Int} {u7 u12 u13 u14 u15 u16 u17 : Value} {σ : SG} {A : Nat → Nat → Nat} {ow : Nat → Nat × Nat} {τ : Nat → Nat → Int} {M : hM} {sz cs ss : Nat} (rk : inR k) (hw : 0 ≤ w ∧ w < 13) (hy : 0 ≤ y ∧ y ≤ 1290555) (hz : 0 ≤ z ∧ z ≤ 21509) (hY : 1600 ≤ Y ∧ Y ≤ 2399) (hH : HX X.2.2.2.2.2.2.2.2.2 h A ow σ τ M) (hV : SV σ) (e0 : σ 0 0 0 = n0) (e1 : σ 1 0 0 = n1) (e2 : σ 2 0 0 = n2) (e3 : σ 3 0 0 = n3)  (q : n2 = 0) {c9 s8 : Nat} (hc : cs + 0 ≤ c9) (hs : ss + 0 ≤ s8) (hc9 : c9 ≤ 600104) (hs8 : s8 ≤ 7301314) (hn : ∀ (σ' : SG) (A' : Nat → Nat → Nat) (ow' : Nat → Nat × Nat) (τ' : Nat → Nat → Int) (M' : hM) (s9 : Nat) (m0 m1 m2 m3 : Int) (u7 u8 u9 u10 u11 u12 u13 u14 u15 u16 u17 : Value), HX X.2.2.2.2.2.2.2.2.2 h A' ow' σ' τ' M' → SV σ' → σ' 0 0 0 = m0 → σ' 1 0 0 = m1 → σ' 2 0 0 = m2 → σ' 3 0 0 = m3 → G X 1123 [.ref b, .ref h, .int (iZ m0), .int (iZ m1), .int (iZ m2), .int (iZ m3), .int (iZ k), u7, u8, u9, u10, u11, u12, u13, u14, u15, u16, u17] [] M' s9 c9 s8) : G X 795 [.ref b, .ref h, .int (iZ n0), .int (iZ n1), .int (iZ n2), .int (iZ n3), .int (iZ k), u7, .int (iZ w), .int (iZ y), .int (iZ z), .int (iZ Y), u12, u13, u14, u15, u16, u17] [] M sz cs ss := by
  have hsn := hV.n
  unfold SVn at hsn
  have rn0 : inR n0 := by constructor <;> omega
  have rn1 : inR n1 := by constructor <;> omega
  have rn2 : inR n2 := by constructor <;> omega
  have rn3 : inR n3 := by constructor <;> omega
  have rw9 : inR w := by constructor <;> omega
  have ry : inR y := by constructor <;> omega
  have rz : inR z := by constructor <;> omega
  have rY : inR Y := by constructor <;> omega
  refine g_iload hX dL_law_795 rfl ?_
  refine yf_if_ne hX dL_law_797 rn2 (by omega) ?_
  refine g_const hX dL_law_800 ?_
  refine g_goto hX dL_law_802 ?_
  refine g_istore hX dL_law_816 ?_
  dsimp only [List.set]
  refine g_iload hX dL_law_818 rfl ?_
  refine yt_if_le hX dL_law_820 rn2 (by omega) ?_
  refine g_goto hX dL_law_870 ?_
  exact g_wide (by omega) (by omega) (hn _ _ _ _ _ _ _ _ _ _ _ _ _ _ _ _ _ _ _ _ _ hH hV e0 e1 e2 e3)

set_option maxRecDepth 20000 in
theorem lawF3b {X : hX} (hX : Cok X mL_law) (hst : X.1.2.1.stackTraces = false) {b h : Nat} {n0 n1 n2 n3 k w y z Y : Int} {u7 u12 u13 u14 u15 u16 u17 : Value} {σ : SG} {A : Nat → Nat → Nat} {ow : Nat → Nat × Nat} {τ : Nat → Nat → Int} {M : hM} {sz cs ss : Nat} (rk : inR k) (hw : 0 ≤ w ∧ w < 13) (hy : 0 ≤ y ∧ y ≤ 1290555) (hz : 0 ≤ z ∧ z ≤ 21509) (hY : 1600 ≤ Y ∧ Y ≤ 2399) (hH : HX X.2.2.2.2.2.2.2.2.2 h A ow σ τ M) (hV : SV σ) (e0 : σ 0 0 0 = n0) (e1 : σ 1 0 0 = n1) (e2 : σ 2 0 0 = n2) (e3 : σ 3 0 0 = n3)  (q : 0 < n2) (q2 : whenZ σ Y (z % n2).toNat ≤ 0) {c9 s8 : Nat} (hc : cs + 4 ≤ c9) (hs : ss + 24 ≤ s8) (hc9 : c9 ≤ 600104) (hs8 : s8 ≤ 7301314) (hn : ∀ (σ' : SG) (A' : Nat → Nat → Nat) (ow' : Nat → Nat × Nat) (τ' : Nat → Nat → Int) (M' : hM) (s9 : Nat) (m0 m1 m2 m3 : Int) (u7 u8 u9 u10 u11 u12 u13 u14 u15 u16 u17 : Value), HX X.2.2.2.2.2.2.2.2.2 h A' ow' σ' τ' M' → SV σ' → σ' 0 0 0 = m0 → σ' 1 0 0 = m1 → σ' 2 0 0 = m2 → σ' 3 0 0 = m3 → G X 1123 [.ref b, .ref h, .int (iZ m0), .int (iZ m1), .int (iZ m2), .int (iZ m3), .int (iZ k), u7, u8, u9, u10, u11, u12, u13, u14, u15, u16, u17] [] M' s9 c9 s8) : G X 795 [.ref b, .ref h, .int (iZ n0), .int (iZ n1), .int (iZ n2), .int (iZ n3), .int (iZ k), u7, .int (iZ w), .int (iZ y), .int (iZ z), .int (iZ Y), u12, u13, u14, u15, u16, u17] [] M sz cs ss := by
  have hsn := hV.n
  unfold SVn at hsn
  have rn0 : inR n0 := by constructor <;> omega
  have rn1 : inR n1 := by constructor <;> omega
  have rn2 : inR n2 := by constructor <;> omega
  have rn3 : inR n3 := by constructor <;> omega
  have rw9 : inR w := by constructor <;> omega
  have ry : inR y := by constructor <;> omega
  have rz : inR z := by constructor <;> omega
  have rY : inR Y := by constructor <;> omega
  refine g_iload hX dL_law_795 rfl ?_
  refine yt_if_ne hX dL_law_797 rn2 (by omega) ?_
  refine g_aload hX dL_law_805 rfl rfl ?_
  refine g_iload hX dL_law_806 rfl ?_
  refine g_iload hX dL_law_808 rfl ?_
  obtain ⟨zrn2, hzrn2⟩ : ∃ c : Int, z % n2 = c := ⟨_, rfl⟩
  have bzrn2 : 0 ≤ zrn2 ∧ zrn2 < n2 := by rw [← hzrn2]; exact ⟨Int.emod_nonneg _ (by omega), Int.emod_lt_of_pos _ (by omega)⟩
  refine y_irem (c := zrn2) hX dL_law_810 rz rn2 (by omega) (by omega) hzrn2 ?_
  refine g_iload hX dL_law_811 rfl ?_
  obtain ⟨wn, hwn⟩ : ∃ wn, whenZ σ Y zrn2.toNat = wn := ⟨_, rfl⟩
  have hwnr := yb_whenr hV Y zrn2.toNat
  rw [hwn] at hwnr
  have rwn : inR wn := by constructor <;> omega
  have hwe : oc_when σ zrn2 Y = (0, wn, σ) := by rw [← hwn]; exact yb_when ⟨by omega, by omega⟩ hY
  have qn : wn ≤ 0 := by rw [← hwn, ← hzrn2]; exact q2
  refine l_when hX hst dL_law_813 hH hV (by constructor <;> omega) rY hwe (show cs + 2 ≤ 600104 by omega) (show ss + 12 ≤ 7301314 by omega) (by first | exact Nat.le_of_ble_eq_true rfl | simp [cat_rf, Value.category]) (fun A ow τ M sz hH hV => ?_)
  refine g_istore hX dL_law_816 ?_
  dsimp only [List.set]
  refine g_iload hX dL_law_818 rfl ?_
  refine yf_if_le hX dL_law_820 rn2 (by omega) ?_
  refine g_iload hX dL_law_823 rfl ?_
  refine g_aload hX dL_law_825 rfl rfl ?_
  refine g_iload hX dL_law_826 rfl ?_
  refine g_iload hX dL_law_828 rfl ?_
  refine y_irem (c := zrn2) hX dL_law_830 rz rn2 (by omega) (by omega) hzrn2 ?_
  refine g_iload hX dL_law_831 rfl ?_
  refine l_whenAnew hX hst dL_law_833 hH hV (by constructor <;> omega) rY hwe (show cs + 2 + 2 ≤ 600104 by omega) (show ss + 12 + 12 ≤ 7301314 by omega) (by first | exact Nat.le_of_ble_eq_true rfl | simp [cat_rf, Value.category]) (fun A ow τ M sz hH hV => ?_)
  refine yf_icmp_ne hX dL_law_836 rwn rwn rfl ?_
  refine g_iload hX dL_law_839 rfl ?_
  refine yt_if_le hX dL_law_841 rwn (by omega) ?_
  refine g_goto hX dL_law_870 ?_
  exact g_wide (by omega) (by omega) (hn _ _ _ _ _ _ _ _ _ _ _ _ _ _ _ _ _ _ _ _ _ hH hV e0 e1 e2 e3)

set_option maxRecDepth 20000 in
theorem lawF3c {X : hX} (hX : Cok X mL_law) (hst : X.1.2.1.stackTraces = false) {b h : Nat} {n0 n1 n2 n3 k w y z Y : Int} {u7 u12 u13 u14 u15 u16 u17 : Value} {σ : SG} {A : Nat → Nat → Nat} {ow : Nat → Nat × Nat} {τ : Nat → Nat → Int} {M : hM} {sz cs ss : Nat} (rk : inR k) (hw : 0 ≤ w ∧ w < 13) (hy : 0 ≤ y ∧ y ≤ 1290555) (hz : 0 ≤ z ∧ z ≤ 21509) (hY : 1600 ≤ Y ∧ Y ≤ 2399) (hH : HX X.2.2.2.2.2.2.2.2.2 h A ow σ τ M) (hV : SV σ) (e0 : σ 0 0 0 = n0) (e1 : σ 1 0 0 = n1) (e2 : σ 2 0 0 = n2) (e3 : σ 3 0 0 = n3)  (q : 0 < n2) (q2 : 0 < whenZ σ Y (z % n2).toNat) {c9 s8 : Nat} (hc : cs + 7 ≤ c9) (hs : ss + 42 ≤ s8) (hc9 : c9 ≤ 600104) (hs8 : s8 ≤ 7301314) (hn : ∀ (σ' : SG) (A' : Nat → Nat → Nat) (ow' : Nat → Nat × Nat) (τ' : Nat → Nat → Int) (M' : hM) (s9 : Nat) (m0 m1 m2 m3 : Int) (u7 u8 u9 u10 u11 u12 u13 u14 u15 u16 u17 : Value), HX X.2.2.2.2.2.2.2.2.2 h A' ow' σ' τ' M' → SV σ' → σ' 0 0 0 = m0 → σ' 1 0 0 = m1 → σ' 2 0 0 = m2 → σ' 3 0 0 = m3 → G X 1123 [.ref b, .ref h, .int (iZ m0), .int (iZ m1), .int (iZ m2), .int (iZ m3), .int (iZ k), u7, u8, u9, u10, u11, u12, u13, u14, u15, u16, u17] [] M' s9 c9 s8) : G X 795 [.ref b, .ref h, .int (iZ n0), .int (iZ n1), .int (iZ n2), .int (iZ n3), .int (iZ k), u7, .int (iZ w), .int (iZ y), .int (iZ z), .int (iZ Y), u12, u13, u14, u15, u16, u17] [] M sz cs ss := by
  have hsn := hV.n
  unfold SVn at hsn
  have rn0 : inR n0 := by constructor <;> omega
  have rn1 : inR n1 := by constructor <;> omega
  have rn2 : inR n2 := by constructor <;> omega
  have rn3 : inR n3 := by constructor <;> omega
  have rw9 : inR w := by constructor <;> omega
  have ry : inR y := by constructor <;> omega
  have rz : inR z := by constructor <;> omega
  have rY : inR Y := by constructor <;> omega
  refine g_iload hX dL_law_795 rfl ?_
  refine yt_if_ne hX dL_law_797 rn2 (by omega) ?_
  refine g_aload hX dL_law_805 rfl rfl ?_
  refine g_iload hX dL_law_806 rfl ?_
  refine g_iload hX dL_law_808 rfl ?_
  obtain ⟨zrn2, hzrn2⟩ : ∃ c : Int, z % n2 = c := ⟨_, rfl⟩
  have bzrn2 : 0 ≤ zrn2 ∧ zrn2 < n2 := by rw [← hzrn2]; exact ⟨Int.emod_nonneg _ (by omega), Int.emod_lt_of_pos _ (by omega)⟩
  refine y_irem (c := zrn2) hX dL_law_810 rz rn2 (by omega) (by omega) hzrn2 ?_
  refine g_iload hX dL_law_811 rfl ?_
  obtain ⟨wn, hwn⟩ : ∃ wn, whenZ σ Y zrn2.toNat = wn := ⟨_, rfl⟩
  have hwnr := yb_whenr hV Y zrn2.toNat
  rw [hwn] at hwnr
  have rwn : inR wn := by constructor <;> omega
  have hwe : oc_when σ zrn2 Y = (0, wn, σ) := by rw [← hwn]; exact yb_when ⟨by omega, by omega⟩ hY
  have qn : 0 < wn := by rw [← hwn, ← hzrn2]; exact q2
  refine l_when hX hst dL_law_813 hH hV (by constructor <;> omega) rY hwe (show cs + 2 ≤ 600104 by omega) (show ss + 12 ≤ 7301314 by omega) (by first | exact Nat.le_of_ble_eq_true rfl | simp [cat_rf, Value.category]) (fun A ow τ M sz hH hV => ?_)
  refine g_istore hX dL_law_816 ?_
  dsimp only [List.set]
  refine g_iload hX dL_law_818 rfl ?_
  refine yf_if_le hX dL_law_820 rn2 (by omega) ?_
  refine g_iload hX dL_law_823 rfl ?_
  refine g_aload hX dL_law_825 rfl rfl ?_
  refine g_iload hX dL_law_826 rfl ?_
  refine g_iload hX dL_law_828 rfl ?_
  refine y_irem (c := zrn2) hX dL_law_830 rz rn2 (by omega) (by omega) hzrn2 ?_
  refine g_iload hX dL_law_831 rfl ?_
  refine l_whenAnew hX hst dL_law_833 hH hV (by constructor <;> omega) rY hwe (show cs + 2 + 2 ≤ 600104 by omega) (show ss + 12 + 12 ≤ 7301314 by omega) (by first | exact Nat.le_of_ble_eq_true rfl | simp [cat_rf, Value.category]) (fun A ow τ M sz hH hV => ?_)
  refine yf_icmp_ne hX dL_law_836 rwn rwn rfl ?_
  refine g_iload hX dL_law_839 rfl ?_
  refine yf_if_le hX dL_law_841 rwn (by omega) ?_
  refine g_aload hX dL_law_844 rfl rfl ?_
  refine g_iload hX dL_law_845 rfl ?_
  refine g_iload hX dL_law_847 rfl ?_
  refine g_const hX dL_law_849 ?_
  obtain ⟨wnq100, hwnq100⟩ : ∃ c : Int, wn / 100 = c := ⟨_, rfl⟩
  have bwnq100 : 0 ≤ wnq100 := by omega
  refine y_idiv (c := wnq100) hX dL_law_851 rwn (ya_in rfl) (by omega) (by omega) hwnq100 ?_
  refine g_iload hX dL_law_852 rfl ?_
  refine g_const hX dL_law_854 ?_
  obtain ⟨wnr100, hwnr100⟩ : ∃ c : Int, wn % 100 = c := ⟨_, rfl⟩
  have bwnr100 : 0 ≤ wnr100 ∧ wnr100 < 100 := by omega
  refine y_irem (c := wnr100) hX dL_law_856 rwn (ya_in rfl) (by omega) (by omega) hwnr100 ?_
  have h8 := yb_whenkept hV hY zrn2.toNat (by rw [hwn]; exact qn)
  rw [hwn, hwnq100, hwnr100] at h8
  have h7 : oc_kept σ Y wnq100 wnr100 = (0, zrn2, σ) := by
    rw [yb_kept σ h8.1, h8.2, show ((zrn2.toNat : Nat) : Int) = zrn2 by omega]
  refine l_kept hX hst dL_law_857 hH hV rY (by constructor <;> omega) (by constructor <;> omega) h7 (show cs + 2 + 2 + 3 ≤ 600104 by omega) (show ss + 12 + 12 + 18 ≤ 7301314 by omega) (by first | exact Nat.le_of_ble_eq_true rfl | simp [cat_rf, Value.category]) (fun A ow τ M sz hH hV => ?_)
  refine g_iload hX dL_law_860 rfl ?_
  refine g_iload hX dL_law_862 rfl ?_
  refine y_irem (c := zrn2) hX dL_law_864 rz rn2 (by omega) (by omega) hzrn2 ?_
  refine yt_icmp_eq hX dL_law_865 (by constructor <;> omega) (by constructor <;> omega) rfl ?_
  refine g_goto hX dL_law_870 ?_
  exact g_wide (by omega) (by omega) (hn _ _ _ _ _ _ _ _ _ _ _ _ _ _ _ _ _ _ _ _ _ hH hV e0 e1 e2 e3)

set_option maxRecDepth 20000 in
theorem lawF3 {X : hX} (hX : Cok X mL_law) (hst : X.1.2.1.stackTraces = false) {b h : Nat} {n0 n1 n2 n3 k w y z Y : Int} {u7 u12 u13 u14 u15 u16 u17 : Value} {σ : SG} {A : Nat → Nat → Nat} {ow : Nat → Nat × Nat} {τ : Nat → Nat → Int} {M : hM} {sz cs ss : Nat} (rk : inR k) (hw : 0 ≤ w ∧ w < 13) (hy : 0 ≤ y ∧ y ≤ 1290555) (hz : 0 ≤ z ∧ z ≤ 21509) (hY : 1600 ≤ Y ∧ Y ≤ 2399) (hH : HX X.2.2.2.2.2.2.2.2.2 h A ow σ τ M) (hV : SV σ) (e0 : σ 0 0 0 = n0) (e1 : σ 1 0 0 = n1) (e2 : σ 2 0 0 = n2) (e3 : σ 3 0 0 = n3) {c9 s8 : Nat} (hc : cs + 20 ≤ c9) (hs : ss + 500 ≤ s8) (hc9 : c9 ≤ 600104) (hs8 : s8 ≤ 7301314) (hn : ∀ (σ' : SG) (A' : Nat → Nat → Nat) (ow' : Nat → Nat × Nat) (τ' : Nat → Nat → Int) (M' : hM) (s9 : Nat) (m0 m1 m2 m3 : Int) (u7 u8 u9 u10 u11 u12 u13 u14 u15 u16 u17 : Value), HX X.2.2.2.2.2.2.2.2.2 h A' ow' σ' τ' M' → SV σ' → σ' 0 0 0 = m0 → σ' 1 0 0 = m1 → σ' 2 0 0 = m2 → σ' 3 0 0 = m3 → G X 1123 [.ref b, .ref h, .int (iZ m0), .int (iZ m1), .int (iZ m2), .int (iZ m3), .int (iZ k), u7, u8, u9, u10, u11, u12, u13, u14, u15, u16, u17] [] M' s9 c9 s8) : G X 795 [.ref b, .ref h, .int (iZ n0), .int (iZ n1), .int (iZ n2), .int (iZ n3), .int (iZ k), u7, .int (iZ w), .int (iZ y), .int (iZ z), .int (iZ Y), u12, u13, u14, u15, u16, u17] [] M sz cs ss := by
  have hsn := hV.n
  unfold SVn at hsn
  have rn0 : inR n0 := by constructor <;> omega
  have rn1 : inR n1 := by constructor <;> omega
  have rn2 : inR n2 := by constructor <;> omega
  have rn3 : inR n3 := by constructor <;> omega
  have rw9 : inR w := by constructor <;> omega
  have ry : inR y := by constructor <;> omega
  have rz : inR z := by constructor <;> omega
  have rY : inR Y := by constructor <;> omega
  by_cases q : n2 = 0
  · exact lawF3a hX hst rk hw hy hz hY hH hV e0 e1 e2 e3 q (by omega) (by omega) hc9 hs8 hn
  · by_cases q2 : whenZ σ Y (z % n2).toNat ≤ 0
    · exact lawF3b hX hst rk hw hy hz hY hH hV e0 e1 e2 e3 (by omega) q2 (by omega) (by omega) hc9 hs8 hn
    · exact lawF3c hX hst rk hw hy hz hY hH hV e0 e1 e2 e3 (by omega) (by omega) (by omega) (by omega) hc9 hs8 hn

set_option maxRecDepth 20000 in
theorem lawF1 {X : hX} (hX : Cok X mL_law) (hst : X.1.2.1.stackTraces = false) {b h : Nat} {n0 n1 n2 n3 k w y z Y : Int} {u7 u12 u13 u14 u15 u16 u17 : Value} {σ : SG} {A : Nat → Nat → Nat} {ow : Nat → Nat × Nat} {τ : Nat → Nat → Int} {M : hM} {sz cs ss : Nat} (rk : inR k) (hw : 0 ≤ w ∧ w < 13) (hy : 0 ≤ y ∧ y ≤ 1290555) (hz : 0 ≤ z ∧ z ≤ 21509) (hY : 1600 ≤ Y ∧ Y ≤ 2399) (hH : HX X.2.2.2.2.2.2.2.2.2 h A ow σ τ M) (hV : SV σ) (e0 : σ 0 0 0 = n0) (e1 : σ 1 0 0 = n1) (e2 : σ 2 0 0 = n2) (e3 : σ 3 0 0 = n3)  (q : 0 ≤ keptZ σ Y (placeZ Y (1 + z % 12) (1 + y % 28)).toNat) {c9 s8 : Nat} (hc : cs + 25 ≤ c9) (hs : ss + 530 ≤ s8) (hc9 : c9 ≤ 600104) (hs8 : s8 ≤ 7301314) (hn : ∀ (σ' : SG) (A' : Nat → Nat → Nat) (ow' : Nat → Nat × Nat) (τ' : Nat → Nat → Int) (M' : hM) (s9 : Nat) (m0 m1 m2 m3 : Int) (u7 u8 u9 u10 u11 u12 u13 u14 u15 u16 u17 : Value), HX X.2.2.2.2.2.2.2.2.2 h A' ow' σ' τ' M' → SV σ' → σ' 0 0 0 = m0 → σ' 1 0 0 = m1 → σ' 2 0 0 = m2 → σ' 3 0 0 = m3 → G X 1123 [.ref b, .ref h, .int (iZ m0), .int (iZ m1), .int (iZ m2), .int (iZ m3), .int (iZ k), u7, u8, u9, u10, u11, u12, u13, u14, u15, u16, u17] [] M' s9 c9 s8) : G X 687 [.ref b, .ref h, .int (iZ n0), .int (iZ n1), .int (iZ n2), .int (iZ n3), .int (iZ k), u7, .int (iZ w), .int (iZ y), .int (iZ z), .int (iZ Y), u12, u13, u14, u15, u16, u17] [] M sz cs ss := by
  have hsn := hV.n
  unfold SVn at hsn
  have rn0 : inR n0 := by constructor <;> omega
  have rn1 : inR n1 := by constructor <;> omega
  have rn2 : inR n2 := by constructor <;> omega
  have rn3 : inR n3 := by constructor <;> omega
  have rw9 : inR w := by constructor <;> omega
  have ry : inR y := by constructor <;> omega
  have rz : inR z := by constructor <;> omega
  have rY : inR Y := by constructor <;> omega
  refine g_aload hX dL_law_687 rfl rfl ?_
  refine g_iload hX dL_law_688 rfl ?_
  refine g_const hX dL_law_690 ?_
  refine g_iload hX dL_law_691 rfl ?_
  refine g_const hX dL_law_693 ?_
  obtain ⟨zr12, hzr12⟩ : ∃ c : Int, z % 12 = c := ⟨_, rfl⟩
  have bzr12 : 0 ≤ zr12 ∧ zr12 < 12 := by omega
  refine y_irem (c := zr12) hX dL_law_695 rz (ya_in rfl) (by omega) (by omega) hzr12 ?_
  refine z_iadd hX dL_law_696 ?_
  refine g_const hX dL_law_697 ?_
  refine g_iload hX dL_law_698 rfl ?_
  refine g_const hX dL_law_700 ?_
  obtain ⟨yr28, hyr28⟩ : ∃ c : Int, y % 28 = c := ⟨_, rfl⟩
  have byr28 : 0 ≤ yr28 ∧ yr28 < 28 := by omega
  refine y_irem (c := yr28) hX dL_law_702 ry (ya_in rfl) (by omega) (by omega) hyr28 ?_
  refine z_iadd hX dL_law_703 ?_
  have hd := yb_day (m := 1 + zr12) (d := 1 + yr28) hY (by omega) (by omega)
  obtain ⟨kv, hkv⟩ : ∃ kv, keptZ σ Y (placeZ Y (1 + zr12) (1 + yr28)).toNat = kv := ⟨_, rfl⟩
  have hkr := kept_r hV Y (placeZ Y (1 + zr12) (1 + yr28)).toNat
  rw [hkv] at hkr
  have rkv : inR kv := by constructor <;> omega
  have qk : 0 ≤ kv := by rw [← hkv, ← hzr12, ← hyr28]; exact q
  refine l_kept hX hst dL_law_704 hH hV rY (by constructor <;> omega) (by constructor <;> omega) (show oc_kept σ Y (1 + zr12) (1 + yr28) = (0, kv, σ) from by rw [← hkv]; exact yb_kept σ hd) (show cs + 3 ≤ 600104 by omega) (show ss + 18 ≤ 7301314 by omega) (by first | exact Nat.le_of_ble_eq_true rfl | simp [cat_rf, Value.category]) (fun A ow τ M sz hH hV => ?_)
  refine g_istore hX dL_law_707 ?_
  dsimp only [List.set]
  refine g_const hX dL_law_709 ?_
  refine g_const hX dL_law_711 ?_
  refine g_iload hX dL_law_712 rfl ?_
  refine g_const hX dL_law_714 ?_
  refine y_irem (c := zr12) hX dL_law_716 rz (ya_in rfl) (by omega) (by omega) hzr12 ?_
  refine z_iadd hX dL_law_717 ?_
  refine z_imul hX dL_law_718 ?_
  refine g_const hX dL_law_719 ?_
  refine z_iadd hX dL_law_720 ?_
  refine g_iload hX dL_law_721 rfl ?_
  refine g_const hX dL_law_723 ?_
  refine y_irem (c := yr28) hX dL_law_725 ry (ya_in rfl) (by omega) (by omega) hyr28 ?_
  refine z_iadd hX dL_law_726 ?_
  refine g_istore hX dL_law_727 ?_
  dsimp only [List.set]
  refine g_iload hX dL_law_729 rfl ?_
  refine yf_if_lt hX dL_law_731 rkv (by omega) ?_
  refine g_aload hX dL_law_734 rfl rfl ?_
  refine g_iload hX dL_law_735 rfl ?_
  refine g_iload hX dL_law_737 rfl ?_
  have h8 := yb_keptwhen hV hd (by rw [hkv]; exact qk)
  rw [hkv] at h8
  have h7 : oc_when σ kv Y = (0, 100 * (1 + zr12) + 1 + yr28, σ) := by
    rw [yb_when h8.1 hY, h8.2, show 100 * (1 + zr12) + (1 + yr28) = 100 * (1 + zr12) + 1 + yr28 by omega]
  refine l_when hX hst dL_law_739 hH hV rkv rY h7 (show cs + 3 + 2 ≤ 600104 by omega) (show ss + 18 + 12 ≤ 7301314 by omega) (by first | exact Nat.le_of_ble_eq_true rfl | simp [cat_rf, Value.category]) (fun A ow τ M sz hH hV => ?_)
  refine g_iload hX dL_law_742 rfl ?_
  refine yt_icmp_eq hX dL_law_744 (by constructor <;> omega) (by constructor <;> omega) rfl ?_
  exact lawF3 hX hst rk hw hy hz hY hH hV e0 e1 e2 e3 (by omega) (by omega) hc9 hs8 hn

set_option maxRecDepth 20000 in
theorem lawF2a {X : hX} (hX : Cok X mL_law) (hst : X.1.2.1.stackTraces = false) {b h : Nat} {n0 n1 n2 n3 k w y z Y : Int} {u7 u12 u13 u14 u15 u16 u17 : Value} {σ : SG} {A : Nat → Nat → Nat} {ow : Nat → Nat × Nat} {τ : Nat → Nat → Int} {M : hM} {sz cs ss : Nat} (rk : inR k) (hw : 0 ≤ w ∧ w < 13) (hy : 0 ≤ y ∧ y ≤ 1290555) (hz : 0 ≤ z ∧ z ≤ 21509) (hY : 1600 ≤ Y ∧ Y ≤ 2399) (hH : HX X.2.2.2.2.2.2.2.2.2 h A ow σ τ M) (hV : SV σ) (e0 : σ 0 0 0 = n0) (e1 : σ 1 0 0 = n1) (e2 : σ 2 0 0 = n2) (e3 : σ 3 0 0 = n3)  (q : keptZ σ Y (placeZ Y (1 + z % 12) (1 + y % 28)).toNat < 0) (q2 : wdayZ Y (placeZ Y (1 + z % 12) (1 + y % 28)) = 0) {c9 s8 : Nat} (hc : cs + 26 ≤ c9) (hs : ss + 536 ≤ s8) (hc9 : c9 ≤ 600104) (hs8 : s8 ≤ 7301314) (hn : ∀ (σ' : SG) (A' : Nat → Nat → Nat) (ow' : Nat → Nat × Nat) (τ' : Nat → Nat → Int) (M' : hM) (s9 : Nat) (m0 m1 m2 m3 : Int) (u7 u8 u9 u10 u11 u12 u13 u14 u15 u16 u17 : Value), HX X.2.2.2.2.2.2.2.2.2 h A' ow' σ' τ' M' → SV σ' → σ' 0 0 0 = m0 → σ' 1 0 0 = m1 → σ' 2 0 0 = m2 → σ' 3 0 0 = m3 → G X 1123 [.ref b, .ref h, .int (iZ m0), .int (iZ m1), .int (iZ m2), .int (iZ m3), .int (iZ k), u7, u8, u9, u10, u11, u12, u13, u14, u15, u16, u17] [] M' s9 c9 s8) : G X 687 [.ref b, .ref h, .int (iZ n0), .int (iZ n1), .int (iZ n2), .int (iZ n3), .int (iZ k), u7, .int (iZ w), .int (iZ y), .int (iZ z), .int (iZ Y), u12, u13, u14, u15, u16, u17] [] M sz cs ss := by
  have hsn := hV.n
  unfold SVn at hsn
  have rn0 : inR n0 := by constructor <;> omega
  have rn1 : inR n1 := by constructor <;> omega
  have rn2 : inR n2 := by constructor <;> omega
  have rn3 : inR n3 := by constructor <;> omega
  have rw9 : inR w := by constructor <;> omega
  have ry : inR y := by constructor <;> omega
  have rz : inR z := by constructor <;> omega
  have rY : inR Y := by constructor <;> omega
  refine g_aload hX dL_law_687 rfl rfl ?_
  refine g_iload hX dL_law_688 rfl ?_
  refine g_const hX dL_law_690 ?_
  refine g_iload hX dL_law_691 rfl ?_
  refine g_const hX dL_law_693 ?_
  obtain ⟨zr12, hzr12⟩ : ∃ c : Int, z % 12 = c := ⟨_, rfl⟩
  have bzr12 : 0 ≤ zr12 ∧ zr12 < 12 := by omega
  refine y_irem (c := zr12) hX dL_law_695 rz (ya_in rfl) (by omega) (by omega) hzr12 ?_
  refine z_iadd hX dL_law_696 ?_
  refine g_const hX dL_law_697 ?_
  refine g_iload hX dL_law_698 rfl ?_
  refine g_const hX dL_law_700 ?_
  obtain ⟨yr28, hyr28⟩ : ∃ c : Int, y % 28 = c := ⟨_, rfl⟩
  have byr28 : 0 ≤ yr28 ∧ yr28 < 28 := by omega
  refine y_irem (c := yr28) hX dL_law_702 ry (ya_in rfl) (by omega) (by omega) hyr28 ?_
  refine z_iadd hX dL_law_703 ?_
  have hd := yb_day (m := 1 + zr12) (d := 1 + yr28) hY (by omega) (by omega)
  obtain ⟨kv, hkv⟩ : ∃ kv, keptZ σ Y (placeZ Y (1 + zr12) (1 + yr28)).toNat = kv := ⟨_, rfl⟩
  have hkr := kept_r hV Y (placeZ Y (1 + zr12) (1 + yr28)).toNat
  rw [hkv] at hkr
  have rkv : inR kv := by constructor <;> omega
  have qk : kv < 0 := by rw [← hkv, ← hzr12, ← hyr28]; exact q
  have h8 := yb_keptno hV hd (by rw [hkv]; exact qk)
  have qw : wdayZ Y (placeZ Y (1 + zr12) (1 + yr28)) = 0 := by rw [← hzr12, ← hyr28]; exact q2
  rw [hkv, if_pos qw] at h8
  refine l_kept hX hst dL_law_704 hH hV rY (by constructor <;> omega) (by constructor <;> omega) (show oc_kept σ Y (1 + zr12) (1 + yr28) = (0, kv, σ) from by rw [← hkv]; exact yb_kept σ hd) (show cs + 3 ≤ 600104 by omega) (show ss + 18 ≤ 7301314 by omega) (by first | exact Nat.le_of_ble_eq_true rfl | simp [cat_rf, Value.category]) (fun A ow τ M sz hH hV => ?_)
  refine g_istore hX dL_law_707 ?_
  dsimp only [List.set]
  refine g_const hX dL_law_709 ?_
  refine g_const hX dL_law_711 ?_
  refine g_iload hX dL_law_712 rfl ?_
  refine g_const hX dL_law_714 ?_
  refine y_irem (c := zr12) hX dL_law_716 rz (ya_in rfl) (by omega) (by omega) hzr12 ?_
  refine z_iadd hX dL_law_717 ?_
  refine z_imul hX dL_law_718 ?_
  refine g_const hX dL_law_719 ?_
  refine z_iadd hX dL_law_720 ?_
  refine g_iload hX dL_law_721 rfl ?_
  refine g_const hX dL_law_723 ?_
  refine y_irem (c := yr28) hX dL_law_725 ry (ya_in rfl) (by omega) (by omega) hyr28 ?_
  refine z_iadd hX dL_law_726 ?_
  refine g_istore hX dL_law_727 ?_
  dsimp only [List.set]
  refine g_iload hX dL_law_729 rfl ?_
  refine yt_if_lt hX dL_law_731 rkv (by omega) ?_
  refine g_iload hX dL_law_750 rfl ?_
  refine g_const hX dL_law_752 ?_
  refine yf_icmp_ne hX dL_law_754 rkv (ya_in rfl) (by omega) ?_
  refine g_const hX dL_law_757 ?_
  refine g_goto hX dL_law_758 ?_
  refine g_aload hX dL_law_762 rfl rfl ?_
  refine g_iload hX dL_law_763 rfl ?_
  refine g_const hX dL_law_765 ?_
  refine g_iload hX dL_law_766 rfl ?_
  refine g_const hX dL_law_768 ?_
  refine y_irem (c := zr12) hX dL_law_770 rz (ya_in rfl) (by omega) (by omega) hzr12 ?_
  refine z_iadd hX dL_law_771 ?_
  refine g_const hX dL_law_772 ?_
  refine g_iload hX dL_law_773 rfl ?_
  refine g_const hX dL_law_775 ?_
  refine y_irem (c := yr28) hX dL_law_777 ry (ya_in rfl) (by omega) (by omega) hyr28 ?_
  refine z_iadd hX dL_law_778 ?_
  refine l_weekday hX hst dL_law_779 hH hV rY (by constructor <;> omega) (by constructor <;> omega) (show oc_weekday σ Y (1 + zr12) (1 + yr28) = (0, 0, σ) from (yb_wday σ hd).trans (by rw [qw])) (show cs + 3 + 3 ≤ 600104 by omega) (show ss + 18 + 18 ≤ 7301314 by omega) (by first | exact Nat.le_of_ble_eq_true rfl | simp [cat_rf, Value.category]) (fun A ow τ M sz hH hV => ?_)
  refine yf_if_ne hX dL_law_782 (ya_in rfl) rfl ?_
  refine g_const hX dL_law_785 ?_
  refine g_goto hX dL_law_786 ?_
  refine yt_icmp_eq hX dL_law_790 (ya_in rfl) (ya_in rfl) rfl ?_
  exact lawF3 hX hst rk hw hy hz hY hH hV e0 e1 e2 e3 (by omega) (by omega) hc9 hs8 hn

set_option maxRecDepth 20000 in
theorem lawF2b {X : hX} (hX : Cok X mL_law) (hst : X.1.2.1.stackTraces = false) {b h : Nat} {n0 n1 n2 n3 k w y z Y : Int} {u7 u12 u13 u14 u15 u16 u17 : Value} {σ : SG} {A : Nat → Nat → Nat} {ow : Nat → Nat × Nat} {τ : Nat → Nat → Int} {M : hM} {sz cs ss : Nat} (rk : inR k) (hw : 0 ≤ w ∧ w < 13) (hy : 0 ≤ y ∧ y ≤ 1290555) (hz : 0 ≤ z ∧ z ≤ 21509) (hY : 1600 ≤ Y ∧ Y ≤ 2399) (hH : HX X.2.2.2.2.2.2.2.2.2 h A ow σ τ M) (hV : SV σ) (e0 : σ 0 0 0 = n0) (e1 : σ 1 0 0 = n1) (e2 : σ 2 0 0 = n2) (e3 : σ 3 0 0 = n3)  (q : keptZ σ Y (placeZ Y (1 + z % 12) (1 + y % 28)).toNat < 0) (q2 : wdayZ Y (placeZ Y (1 + z % 12) (1 + y % 28)) ≠ 0) {c9 s8 : Nat} (hc : cs + 26 ≤ c9) (hs : ss + 536 ≤ s8) (hc9 : c9 ≤ 600104) (hs8 : s8 ≤ 7301314) (hn : ∀ (σ' : SG) (A' : Nat → Nat → Nat) (ow' : Nat → Nat × Nat) (τ' : Nat → Nat → Int) (M' : hM) (s9 : Nat) (m0 m1 m2 m3 : Int) (u7 u8 u9 u10 u11 u12 u13 u14 u15 u16 u17 : Value), HX X.2.2.2.2.2.2.2.2.2 h A' ow' σ' τ' M' → SV σ' → σ' 0 0 0 = m0 → σ' 1 0 0 = m1 → σ' 2 0 0 = m2 → σ' 3 0 0 = m3 → G X 1123 [.ref b, .ref h, .int (iZ m0), .int (iZ m1), .int (iZ m2), .int (iZ m3), .int (iZ k), u7, u8, u9, u10, u11, u12, u13, u14, u15, u16, u17] [] M' s9 c9 s8) : G X 687 [.ref b, .ref h, .int (iZ n0), .int (iZ n1), .int (iZ n2), .int (iZ n3), .int (iZ k), u7, .int (iZ w), .int (iZ y), .int (iZ z), .int (iZ Y), u12, u13, u14, u15, u16, u17] [] M sz cs ss := by
  have hsn := hV.n
  unfold SVn at hsn
  have rn0 : inR n0 := by constructor <;> omega
  have rn1 : inR n1 := by constructor <;> omega
  have rn2 : inR n2 := by constructor <;> omega
  have rn3 : inR n3 := by constructor <;> omega
  have rw9 : inR w := by constructor <;> omega
  have ry : inR y := by constructor <;> omega
  have rz : inR z := by constructor <;> omega
  have rY : inR Y := by constructor <;> omega
  refine g_aload hX dL_law_687 rfl rfl ?_
  refine g_iload hX dL_law_688 rfl ?_
  refine g_const hX dL_law_690 ?_
  refine g_iload hX dL_law_691 rfl ?_
  refine g_const hX dL_law_693 ?_
  obtain ⟨zr12, hzr12⟩ : ∃ c : Int, z % 12 = c := ⟨_, rfl⟩
  have bzr12 : 0 ≤ zr12 ∧ zr12 < 12 := by omega
  refine y_irem (c := zr12) hX dL_law_695 rz (ya_in rfl) (by omega) (by omega) hzr12 ?_
  refine z_iadd hX dL_law_696 ?_
  refine g_const hX dL_law_697 ?_
  refine g_iload hX dL_law_698 rfl ?_
  refine g_const hX dL_law_700 ?_
  obtain ⟨yr28, hyr28⟩ : ∃ c : Int, y % 28 = c := ⟨_, rfl⟩
  have byr28 : 0 ≤ yr28 ∧ yr28 < 28 := by omega
  refine y_irem (c := yr28) hX dL_law_702 ry (ya_in rfl) (by omega) (by omega) hyr28 ?_
  refine z_iadd hX dL_law_703 ?_
  have hd := yb_day (m := 1 + zr12) (d := 1 + yr28) hY (by omega) (by omega)
  obtain ⟨kv, hkv⟩ : ∃ kv, keptZ σ Y (placeZ Y (1 + zr12) (1 + yr28)).toNat = kv := ⟨_, rfl⟩
  have hkr := kept_r hV Y (placeZ Y (1 + zr12) (1 + yr28)).toNat
  rw [hkv] at hkr
  have rkv : inR kv := by constructor <;> omega
  have qk : kv < 0 := by rw [← hkv, ← hzr12, ← hyr28]; exact q
  have h8 := yb_keptno hV hd (by rw [hkv]; exact qk)
  have qw : wdayZ Y (placeZ Y (1 + zr12) (1 + yr28)) ≠ 0 := by rw [← hzr12, ← hyr28]; exact q2
  rw [hkv, if_neg qw] at h8
  refine l_kept hX hst dL_law_704 hH hV rY (by constructor <;> omega) (by constructor <;> omega) (show oc_kept σ Y (1 + zr12) (1 + yr28) = (0, kv, σ) from by rw [← hkv]; exact yb_kept σ hd) (show cs + 3 ≤ 600104 by omega) (show ss + 18 ≤ 7301314 by omega) (by first | exact Nat.le_of_ble_eq_true rfl | simp [cat_rf, Value.category]) (fun A ow τ M sz hH hV => ?_)
  refine g_istore hX dL_law_707 ?_
  dsimp only [List.set]
  refine g_const hX dL_law_709 ?_
  refine g_const hX dL_law_711 ?_
  refine g_iload hX dL_law_712 rfl ?_
  refine g_const hX dL_law_714 ?_
  refine y_irem (c := zr12) hX dL_law_716 rz (ya_in rfl) (by omega) (by omega) hzr12 ?_
  refine z_iadd hX dL_law_717 ?_
  refine z_imul hX dL_law_718 ?_
  refine g_const hX dL_law_719 ?_
  refine z_iadd hX dL_law_720 ?_
  refine g_iload hX dL_law_721 rfl ?_
  refine g_const hX dL_law_723 ?_
  refine y_irem (c := yr28) hX dL_law_725 ry (ya_in rfl) (by omega) (by omega) hyr28 ?_
  refine z_iadd hX dL_law_726 ?_
  refine g_istore hX dL_law_727 ?_
  dsimp only [List.set]
  refine g_iload hX dL_law_729 rfl ?_
  refine yt_if_lt hX dL_law_731 rkv (by omega) ?_
  refine g_iload hX dL_law_750 rfl ?_
  refine g_const hX dL_law_752 ?_
  refine yt_icmp_ne hX dL_law_754 rkv (ya_in rfl) (by omega) ?_
  refine g_const hX dL_law_761 ?_
  refine g_aload hX dL_law_762 rfl rfl ?_
  refine g_iload hX dL_law_763 rfl ?_
  refine g_const hX dL_law_765 ?_
  refine g_iload hX dL_law_766 rfl ?_
  refine g_const hX dL_law_768 ?_
  refine y_irem (c := zr12) hX dL_law_770 rz (ya_in rfl) (by omega) (by omega) hzr12 ?_
  refine z_iadd hX dL_law_771 ?_
  refine g_const hX dL_law_772 ?_
  refine g_iload hX dL_law_773 rfl ?_
  refine g_const hX dL_law_775 ?_
  refine y_irem (c := yr28) hX dL_law_777 ry (ya_in rfl) (by omega) (by omega) hyr28 ?_
  refine z_iadd hX dL_law_778 ?_
  obtain ⟨wv, hwv⟩ : ∃ wv, wdayZ Y (placeZ Y (1 + zr12) (1 + yr28)) = wv := ⟨_, rfl⟩
  have hwr := wday_r Y (placeZ Y (1 + zr12) (1 + yr28))
  rw [hwv] at hwr qw
  refine l_weekday hX hst dL_law_779 hH hV rY (by constructor <;> omega) (by constructor <;> omega) (show oc_weekday σ Y (1 + zr12) (1 + yr28) = (0, wv, σ) from (yb_wday σ hd).trans (by rw [hwv])) (show cs + 3 + 3 ≤ 600104 by omega) (show ss + 18 + 18 ≤ 7301314 by omega) (by first | exact Nat.le_of_ble_eq_true rfl | simp [cat_rf, Value.category]) (fun A ow τ M sz hH hV => ?_)
  refine yt_if_ne hX dL_law_782 (by constructor <;> omega) (by omega) ?_
  refine g_const hX dL_law_789 ?_
  refine yt_icmp_eq hX dL_law_790 (ya_in rfl) (ya_in rfl) rfl ?_
  exact lawF3 hX hst rk hw hy hz hY hH hV e0 e1 e2 e3 (by omega) (by omega) hc9 hs8 hn

set_option maxRecDepth 20000 in
theorem lawG {X : hX} (hX : Cok X mL_law) (hst : X.1.2.1.stackTraces = false) {b h : Nat} {n0 n1 n2 n3 k w y z Y : Int} {u7 u12 u13 u14 u15 u16 u17 : Value} {σ : SG} {A : Nat → Nat → Nat} {ow : Nat → Nat × Nat} {τ : Nat → Nat → Int} {M : hM} {sz cs ss : Nat} (rk : inR k) (hw : 0 ≤ w ∧ w < 13) (hy : 0 ≤ y ∧ y ≤ 1290555) (hz : 0 ≤ z ∧ z ≤ 21509) (hY : 1600 ≤ Y ∧ Y ≤ 2399) (hH : HX X.2.2.2.2.2.2.2.2.2 h A ow σ τ M) (hV : SV σ) (e0 : σ 0 0 0 = n0) (e1 : σ 1 0 0 = n1) (e2 : σ 2 0 0 = n2) (e3 : σ 3 0 0 = n3)  (q0 : 0 < n0) (q1 : 0 < n1) {c9 s8 : Nat} (hc : cs + 30 ≤ c9) (hs : ss + 750 ≤ s8) (hc9 : c9 ≤ 600104) (hs8 : s8 ≤ 7301314) (hn : ∀ (σ' : SG) (A' : Nat → Nat → Nat) (ow' : Nat → Nat × Nat) (τ' : Nat → Nat → Int) (M' : hM) (s9 : Nat) (m0 m1 m2 m3 : Int) (u7 u8 u9 u10 u11 u12 u13 u14 u15 u16 u17 : Value), HX X.2.2.2.2.2.2.2.2.2 h A' ow' σ' τ' M' → SV σ' → σ' 0 0 0 = m0 → σ' 1 0 0 = m1 → σ' 2 0 0 = m2 → σ' 3 0 0 = m3 → G X 1123 [.ref b, .ref h, .int (iZ m0), .int (iZ m1), .int (iZ m2), .int (iZ m3), .int (iZ k), u7, u8, u9, u10, u11, u12, u13, u14, u15, u16, u17] [] M' s9 c9 s8) : G X 880 [.ref b, .ref h, .int (iZ n0), .int (iZ n1), .int (iZ n2), .int (iZ n3), .int (iZ k), u7, .int (iZ w), .int (iZ y), .int (iZ z), .int (iZ Y), u12, u13, u14, u15, u16, u17] [] M sz cs ss := by
  have hsn := hV.n
  unfold SVn at hsn
  have rn0 : inR n0 := by constructor <;> omega
  have rn1 : inR n1 := by constructor <;> omega
  have rn2 : inR n2 := by constructor <;> omega
  have rn3 : inR n3 := by constructor <;> omega
  have rw9 : inR w := by constructor <;> omega
  have ry : inR y := by constructor <;> omega
  have rz : inR z := by constructor <;> omega
  have rY : inR Y := by constructor <;> omega
  refine g_aload hX dL_law_880 rfl rfl ?_
  refine g_const hX dL_law_881 ?_
  refine g_iload hX dL_law_883 rfl ?_
  refine g_iload hX dL_law_885 rfl ?_
  obtain ⟨yrn0, hyrn0⟩ : ∃ c : Int, y % n0 = c := ⟨_, rfl⟩
  have byrn0 : 0 ≤ yrn0 ∧ yrn0 < n0 := by rw [← hyrn0]; exact ⟨Int.emod_nonneg _ (by omega), Int.emod_lt_of_pos _ (by omega)⟩
  refine y_irem (c := yrn0) hX dL_law_886 ry rn0 (by omega) (by omega) hyrn0 ?_
  refine g_iload hX dL_law_887 rfl ?_
  refine g_const hX dL_law_889 ?_
  obtain ⟨zr2, hzr2⟩ : ∃ c : Int, z % 2 = c := ⟨_, rfl⟩
  have bzr2 : 0 ≤ zr2 ∧ zr2 < 2 := by omega
  refine y_irem (c := zr2) hX dL_law_890 rz (ya_in rfl) (by omega) (by omega) hzr2 ?_
  refine g_const hX dL_law_891 ?_
  refine g_const hX dL_law_892 ?_
  obtain ⟨v1, σ1, ea, hv1, hC1⟩ := yb_allowT (b := zr2) (c := 0) (d := 0) hV (a := yrn0) ⟨by omega, by omega⟩
  refine l_act hX hst dL_law_893 hH hV (ya_in rfl) (by constructor <;> omega) (by constructor <;> omega) (ya_in rfl) (ya_in rfl) ea (show cs + 10 ≤ 600104 by omega) (show ss + 250 ≤ 7301314 by omega) (by first | exact Nat.le_of_ble_eq_true rfl | simp [cat_rf, Value.category]) (fun A ow τ M sz hH hV => ?_)
  unfold yb_C at hC1
  refine yf_if_lt hX dL_law_896 (by constructor <;> omega) (by omega) ?_
  refine g_aload hX dL_law_899 rfl rfl ?_
  refine g_const hX dL_law_900 ?_
  refine g_iload hX dL_law_902 rfl ?_
  refine g_iload hX dL_law_904 rfl ?_
  obtain ⟨zrn1, hzrn1⟩ : ∃ c : Int, z % n1 = c := ⟨_, rfl⟩
  have bzrn1 : 0 ≤ zrn1 ∧ zrn1 < n1 := by rw [← hzrn1]; exact ⟨Int.emod_nonneg _ (by omega), Int.emod_lt_of_pos _ (by omega)⟩
  refine y_irem (c := zrn1) hX dL_law_905 rz rn1 (by omega) (by omega) hzrn1 ?_
  refine g_iload hX dL_law_906 rfl ?_
  refine g_const hX dL_law_908 ?_
  obtain ⟨yr2, hyr2⟩ : ∃ c : Int, y % 2 = c := ⟨_, rfl⟩
  have byr2 : 0 ≤ yr2 ∧ yr2 < 2 := by omega
  refine y_irem (c := yr2) hX dL_law_909 ry (ya_in rfl) (by omega) (by omega) hyr2 ?_
  refine g_const hX dL_law_910 ?_
  refine g_const hX dL_law_911 ?_
  obtain ⟨v2, σ2, eb, hv2, hC2⟩ := yb_allowU (b := yr2) (c := 0) (d := 0) hV (a := zrn1) ⟨by omega, by omega⟩
  refine l_act hX hst dL_law_912 hH hV (ya_in rfl) (by constructor <;> omega) (by constructor <;> omega) (ya_in rfl) (ya_in rfl) eb (show cs + 10 + 10 ≤ 600104 by omega) (show ss + 250 + 250 ≤ 7301314 by omega) (by first | exact Nat.le_of_ble_eq_true rfl | simp [cat_rf, Value.category]) (fun A ow τ M sz hH hV => ?_)
  unfold yb_C at hC2
  refine yf_if_lt hX dL_law_915 (by constructor <;> omega) (by omega) ?_
  refine g_aload hX dL_law_918 rfl rfl ?_
  refine g_const hX dL_law_919 ?_
  refine g_iload hX dL_law_921 rfl ?_
  refine g_iload hX dL_law_923 rfl ?_
  refine y_irem (c := zrn1) hX dL_law_924 rz rn1 (by omega) (by omega) hzrn1 ?_
  refine g_iload hX dL_law_925 rfl ?_
  refine g_const hX dL_law_927 ?_
  obtain ⟨yr20, hyr20⟩ : ∃ c : Int, y % 20 = c := ⟨_, rfl⟩
  have byr20 : 0 ≤ yr20 ∧ yr20 < 20 := by omega
  refine y_irem (c := yr20) hX dL_law_929 ry (ya_in rfl) (by omega) (by omega) hyr20 ?_
  refine g_const hX dL_law_930 ?_
  refine g_iload hX dL_law_932 rfl ?_
  refine g_const hX dL_law_934 ?_
  obtain ⟨zr21, hzr21⟩ : ∃ c : Int, z % 21 = c := ⟨_, rfl⟩
  have bzr21 : 0 ≤ zr21 ∧ zr21 < 21 := by omega
  refine y_irem (c := zr21) hX dL_law_936 rz (ya_in rfl) (by omega) (by omega) hzr21 ?_
  refine z_iadd hX dL_law_937 ?_
  refine g_const hX dL_law_938 ?_
  obtain ⟨v3, ec, hv3⟩ := yb_shift (d := 0) hV (a := zrn1) (b := yr20) (c := 20 + zr21) ⟨by omega, by omega⟩ (by omega) (by omega)
  refine l_act hX hst dL_law_939 hH hV (ya_in rfl) (by constructor <;> omega) (by constructor <;> omega) (by constructor <;> omega) (ya_in rfl) ec (show cs + 10 + 10 + 10 ≤ 600104 by omega) (show ss + 250 + 250 + 250 ≤ 7301314 by omega) (by first | exact Nat.le_of_ble_eq_true rfl | simp [cat_rf, Value.category]) (fun A ow τ M sz hH hV => ?_)
  refine g_const hX dL_law_942 ?_
  refine yt_icmp_ge hX dL_law_944 (by constructor <;> omega) (ya_in rfl) (by omega) ?_
  exact g_wide (by omega) (by omega) (hn _ _ _ _ _ _ _ _ _ _ _ _ _ _ _ _ _ _ _ _ _ hH hV (by omega) (by omega) (by omega) (by omega))

set_option maxRecDepth 20000 in
theorem lawH1 {X : hX} (hX : Cok X mL_law) (hst : X.1.2.1.stackTraces = false) {b h : Nat} {n0 n1 n2 n3 k w y z Y : Int} {u7 u12 u13 u14 u15 u16 u17 : Value} {σ : SG} {A : Nat → Nat → Nat} {ow : Nat → Nat × Nat} {τ : Nat → Nat → Int} {M : hM} {sz cs ss : Nat} (rk : inR k) (hw : 0 ≤ w ∧ w < 13) (hy : 0 ≤ y ∧ y ≤ 1290555) (hz : 0 ≤ z ∧ z ≤ 21509) (hY : 1600 ≤ Y ∧ Y ≤ 2399) (hH : HX X.2.2.2.2.2.2.2.2.2 h A ow σ τ M) (hV : SV σ) (e0 : σ 0 0 0 = n0) (e1 : σ 1 0 0 = n1) (e2 : σ 2 0 0 = n2) (e3 : σ 3 0 0 = n3)  (q0 : 0 < n0) (q1 : 0 < n1) (q : thZ σ Y (placeZ Y (1 + z % 12) (1 + y % 28)).toNat = -100) {c9 s8 : Nat} (hc : cs + 23 ≤ c9) (hs : ss + 518 ≤ s8) (hc9 : c9 ≤ 600104) (hs8 : s8 ≤ 7301314) (hn : ∀ (σ' : SG) (A' : Nat → Nat → Nat) (ow' : Nat → Nat × Nat) (τ' : Nat → Nat → Int) (M' : hM) (s9 : Nat) (m0 m1 m2 m3 : Int) (u7 u8 u9 u10 u11 u12 u13 u14 u15 u16 u17 : Value), HX X.2.2.2.2.2.2.2.2.2 h A' ow' σ' τ' M' → SV σ' → σ' 0 0 0 = m0 → σ' 1 0 0 = m1 → σ' 2 0 0 = m2 → σ' 3 0 0 = m3 → G X 1123 [.ref b, .ref h, .int (iZ m0), .int (iZ m1), .int (iZ m2), .int (iZ m3), .int (iZ k), u7, u8, u9, u10, u11, u12, u13, u14, u15, u16, u17] [] M' s9 c9 s8) : G X 949 [.ref b, .ref h, .int (iZ n0), .int (iZ n1), .int (iZ n2), .int (iZ n3), .int (iZ k), u7, .int (iZ w), .int (iZ y), .int (iZ z), .int (iZ Y), u12, u13, u14, u15, u16, u17] [] M sz cs ss := by
  have hsn := hV.n
  unfold SVn at hsn
  have rn0 : inR n0 := by constructor <;> omega
  have rn1 : inR n1 := by constructor <;> omega
  have rn2 : inR n2 := by constructor <;> omega
  have rn3 : inR n3 := by constructor <;> omega
  have rw9 : inR w := by constructor <;> omega
  have ry : inR y := by constructor <;> omega
  have rz : inR z := by constructor <;> omega
  have rY : inR Y := by constructor <;> omega
  refine g_const hX dL_law_949 ?_
  refine g_iload hX dL_law_950 rfl ?_
  refine g_const hX dL_law_952 ?_
  obtain ⟨zr12, hzr12⟩ : ∃ c : Int, z % 12 = c := ⟨_, rfl⟩
  have bzr12 : 0 ≤ zr12 ∧ zr12 < 12 := by omega
  refine y_irem (c := zr12) hX dL_law_954 rz (ya_in rfl) (by omega) (by omega) hzr12 ?_
  refine z_iadd hX dL_law_955 ?_
  refine g_istore hX dL_law_956 ?_
  dsimp only [List.set]
  refine g_const hX dL_law_958 ?_
  refine g_iload hX dL_law_959 rfl ?_
  refine g_const hX dL_law_961 ?_
  obtain ⟨yr28, hyr28⟩ : ∃ c : Int, y % 28 = c := ⟨_, rfl⟩
  have byr28 : 0 ≤ yr28 ∧ yr28 < 28 := by omega
  refine y_irem (c := yr28) hX dL_law_963 ry (ya_in rfl) (by omega) (by omega) hyr28 ?_
  refine z_iadd hX dL_law_964 ?_
  refine g_istore hX dL_law_965 ?_
  dsimp only [List.set]
  refine g_aload hX dL_law_967 rfl rfl ?_
  refine g_iload hX dL_law_968 rfl ?_
  refine g_iload hX dL_law_970 rfl ?_
  refine g_iload hX dL_law_972 rfl ?_
  have hd := yb_day (m := 1 + zr12) (d := 1 + yr28) hY (by omega) (by omega)
  obtain ⟨th, hth⟩ : ∃ th, thZ σ Y (placeZ Y (1 + zr12) (1 + yr28)).toNat = th := ⟨_, rfl⟩
  have htr := th_r hV Y (placeZ Y (1 + zr12) (1 + yr28)).toNat
  rw [hth] at htr
  have rth : inR th := by constructor <;> omega
  have qt : th = -100 := by rw [← hth, ← hzr12, ← hyr28]; exact q
  refine l_theme hX hst dL_law_974 hH hV rY (by constructor <;> omega) (by constructor <;> omega) (show oc_theme σ Y (1 + zr12) (1 + yr28) = (0, th, σ) from by rw [← hth]; exact yb_theme σ hd) (show cs + 3 ≤ 600104 by omega) (show ss + 18 ≤ 7301314 by omega) (by first | exact Nat.le_of_ble_eq_true rfl | simp [cat_rf, Value.category]) (fun A ow τ M sz hH hV => ?_)
  refine g_istore hX dL_law_977 ?_
  dsimp only [List.set]
  refine g_aload hX dL_law_979 rfl rfl ?_
  refine g_const hX dL_law_980 ?_
  refine g_iload hX dL_law_982 rfl ?_
  refine g_iload hX dL_law_984 rfl ?_
  obtain ⟨yrn0, hyrn0⟩ : ∃ c : Int, y % n0 = c := ⟨_, rfl⟩
  have byrn0 : 0 ≤ yrn0 ∧ yrn0 < n0 := by rw [← hyrn0]; exact ⟨Int.emod_nonneg _ (by omega), Int.emod_lt_of_pos _ (by omega)⟩
  refine y_irem (c := yrn0) hX dL_law_985 ry rn0 (by omega) (by omega) hyrn0 ?_
  refine g_iload hX dL_law_986 rfl ?_
  refine g_iload hX dL_law_988 rfl ?_
  refine g_iload hX dL_law_990 rfl ?_
  refine l_act hX hst dL_law_992 hH hV (ya_in rfl) (by constructor <;> omega) rY (by constructor <;> omega) (by constructor <;> omega) (yb_why0 ⟨by omega, by omega⟩ hd (by rw [hth]; exact qt)) (show cs + 3 + 10 ≤ 600104 by omega) (show ss + 18 + 250 ≤ 7301314 by omega) (by first | exact Nat.le_of_ble_eq_true rfl | simp [cat_rf, Value.category]) (fun A ow τ M sz hH hV => ?_)
  refine g_istore hX dL_law_995 ?_
  dsimp only [List.set]
  refine g_iload hX dL_law_997 rfl ?_
  refine g_const hX dL_law_999 ?_
  refine yf_icmp_ne hX dL_law_1001 (ya_in rfl) (ya_in rfl) rfl ?_
  refine g_const hX dL_law_1004 ?_
  refine g_goto hX dL_law_1005 ?_
  refine g_iload hX dL_law_1009 rfl ?_
  refine g_const hX dL_law_1011 ?_
  refine yf_icmp_ne hX dL_law_1013 rth (ya_in rfl) (by omega) ?_
  refine g_const hX dL_law_1016 ?_
  refine g_goto hX dL_law_1017 ?_
  refine yt_icmp_eq hX dL_law_1021 (ya_in rfl) (ya_in rfl) rfl ?_
  refine g_aload hX dL_law_1026 rfl rfl ?_
  refine g_const hX dL_law_1027 ?_
  refine g_iload hX dL_law_1029 rfl ?_
  refine g_iload hX dL_law_1031 rfl ?_
  refine g_iload hX dL_law_1033 rfl ?_
  refine g_const hX dL_law_1035 ?_
  refine l_act hX hst dL_law_1036 hH hV (ya_in rfl) rY (by constructor <;> omega) (by constructor <;> omega) (ya_in rfl) (yb_sing0 hd (by rw [hth]; exact qt)) (show cs + 3 + 10 + 10 ≤ 600104 by omega) (show ss + 18 + 250 + 250 ≤ 7301314 by omega) (by first | exact Nat.le_of_ble_eq_true rfl | simp [cat_rf, Value.category]) (fun A ow τ M sz hH hV => ?_)
  refine g_istore hX dL_law_1039 ?_
  dsimp only [List.set]
  refine g_iload hX dL_law_1041 rfl ?_
  refine g_const hX dL_law_1043 ?_
  refine yt_icmp_eq hX dL_law_1045 (ya_in rfl) (ya_in rfl) rfl ?_
  refine g_iload hX dL_law_1108 rfl ?_
  refine g_iload hX dL_law_1110 rfl ?_
  refine yf_if_ge hX dL_law_1112 (ya_in rfl) (by decide) ?_
  refine g_const hX dL_law_1115 ?_
  refine g_goto hX dL_law_1116 ?_
  refine y_iadd (c := n3) hX dL_law_1120 (by omega) ?_
  refine g_istore hX dL_law_1121 ?_
  dsimp only [List.set]
  exact g_wide (by omega) (by omega) (hn _ _ _ _ _ _ _ _ _ _ _ _ _ _ _ _ _ _ _ _ _ hH hV e0 e1 e2 e3)

set_option maxRecDepth 20000 in
theorem lawH2 {X : hX} (hX : Cok X mL_law) (hst : X.1.2.1.stackTraces = false) {b h : Nat} {n0 n1 n2 n3 k w y z Y : Int} {u7 u12 u13 u14 u15 u16 u17 : Value} {σ : SG} {A : Nat → Nat → Nat} {ow : Nat → Nat × Nat} {τ : Nat → Nat → Int} {M : hM} {sz cs ss : Nat} (rk : inR k) (hw : 0 ≤ w ∧ w < 13) (hy : 0 ≤ y ∧ y ≤ 1290555) (hz : 0 ≤ z ∧ z ≤ 21509) (hY : 1600 ≤ Y ∧ Y ≤ 2399) (hH : HX X.2.2.2.2.2.2.2.2.2 h A ow σ τ M) (hV : SV σ) (e0 : σ 0 0 0 = n0) (e1 : σ 1 0 0 = n1) (e2 : σ 2 0 0 = n2) (e3 : σ 3 0 0 = n3)  (q0 : 0 < n0) (q1 : 0 < n1) (q : thZ σ Y (placeZ Y (1 + z % 12) (1 + y % 28)).toNat ≠ -100) (hsg : ∀ c, ya_act σ 23 Y (1 + z % 12) (1 + y % 28) c = (-7000003, σ)) {c9 s8 : Nat} (hc : cs + 23 ≤ c9) (hs : ss + 518 ≤ s8) (hc9 : c9 ≤ 600104) (hs8 : s8 ≤ 7301314) (hn : ∀ (σ' : SG) (A' : Nat → Nat → Nat) (ow' : Nat → Nat × Nat) (τ' : Nat → Nat → Int) (M' : hM) (s9 : Nat) (m0 m1 m2 m3 : Int) (u7 u8 u9 u10 u11 u12 u13 u14 u15 u16 u17 : Value), HX X.2.2.2.2.2.2.2.2.2 h A' ow' σ' τ' M' → SV σ' → σ' 0 0 0 = m0 → σ' 1 0 0 = m1 → σ' 2 0 0 = m2 → σ' 3 0 0 = m3 → G X 1123 [.ref b, .ref h, .int (iZ m0), .int (iZ m1), .int (iZ m2), .int (iZ m3), .int (iZ k), u7, u8, u9, u10, u11, u12, u13, u14, u15, u16, u17] [] M' s9 c9 s8) : G X 949 [.ref b, .ref h, .int (iZ n0), .int (iZ n1), .int (iZ n2), .int (iZ n3), .int (iZ k), u7, .int (iZ w), .int (iZ y), .int (iZ z), .int (iZ Y), u12, u13, u14, u15, u16, u17] [] M sz cs ss := by
  have hsn := hV.n
  unfold SVn at hsn
  have rn0 : inR n0 := by constructor <;> omega
  have rn1 : inR n1 := by constructor <;> omega
  have rn2 : inR n2 := by constructor <;> omega
  have rn3 : inR n3 := by constructor <;> omega
  have rw9 : inR w := by constructor <;> omega
  have ry : inR y := by constructor <;> omega
  have rz : inR z := by constructor <;> omega
  have rY : inR Y := by constructor <;> omega
  refine g_const hX dL_law_949 ?_
  refine g_iload hX dL_law_950 rfl ?_
  refine g_const hX dL_law_952 ?_
  obtain ⟨zr12, hzr12⟩ : ∃ c : Int, z % 12 = c := ⟨_, rfl⟩
  have bzr12 : 0 ≤ zr12 ∧ zr12 < 12 := by omega
  refine y_irem (c := zr12) hX dL_law_954 rz (ya_in rfl) (by omega) (by omega) hzr12 ?_
  refine z_iadd hX dL_law_955 ?_
  refine g_istore hX dL_law_956 ?_
  dsimp only [List.set]
  refine g_const hX dL_law_958 ?_
  refine g_iload hX dL_law_959 rfl ?_
  refine g_const hX dL_law_961 ?_
  obtain ⟨yr28, hyr28⟩ : ∃ c : Int, y % 28 = c := ⟨_, rfl⟩
  have byr28 : 0 ≤ yr28 ∧ yr28 < 28 := by omega
  refine y_irem (c := yr28) hX dL_law_963 ry (ya_in rfl) (by omega) (by omega) hyr28 ?_
  refine z_iadd hX dL_law_964 ?_
  refine g_istore hX dL_law_965 ?_
  dsimp only [List.set]
  refine g_aload hX dL_law_967 rfl rfl ?_
  refine g_iload hX dL_law_968 rfl ?_
  refine g_iload hX dL_law_970 rfl ?_
  refine g_iload hX dL_law_972 rfl ?_
  have hd := yb_day (m := 1 + zr12) (d := 1 + yr28) hY (by omega) (by omega)
  obtain ⟨th, hth⟩ : ∃ th, thZ σ Y (placeZ Y (1 + zr12) (1 + yr28)).toNat = th := ⟨_, rfl⟩
  have htr := th_r hV Y (placeZ Y (1 + zr12) (1 + yr28)).toNat
  rw [hth] at htr
  have rth : inR th := by constructor <;> omega
  have qt : th ≠ -100 := by rw [← hth, ← hzr12, ← hyr28]; exact q
  refine l_theme hX hst dL_law_974 hH hV rY (by constructor <;> omega) (by constructor <;> omega) (show oc_theme σ Y (1 + zr12) (1 + yr28) = (0, th, σ) from by rw [← hth]; exact yb_theme σ hd) (show cs + 3 ≤ 600104 by omega) (show ss + 18 ≤ 7301314 by omega) (by first | exact Nat.le_of_ble_eq_true rfl | simp [cat_rf, Value.category]) (fun A ow τ M sz hH hV => ?_)
  refine g_istore hX dL_law_977 ?_
  dsimp only [List.set]
  refine g_aload hX dL_law_979 rfl rfl ?_
  refine g_const hX dL_law_980 ?_
  refine g_iload hX dL_law_982 rfl ?_
  refine g_iload hX dL_law_984 rfl ?_
  obtain ⟨yrn0, hyrn0⟩ : ∃ c : Int, y % n0 = c := ⟨_, rfl⟩
  have byrn0 : 0 ≤ yrn0 ∧ yrn0 < n0 := by rw [← hyrn0]; exact ⟨Int.emod_nonneg _ (by omega), Int.emod_lt_of_pos _ (by omega)⟩
  refine y_irem (c := yrn0) hX dL_law_985 ry rn0 (by omega) (by omega) hyrn0 ?_
  refine g_iload hX dL_law_986 rfl ?_
  refine g_iload hX dL_law_988 rfl ?_
  refine g_iload hX dL_law_990 rfl ?_
  obtain ⟨wy, ewy, hwy⟩ := yb_why1 (σ := σ) (a := yrn0) ⟨by omega, by omega⟩ hd (by rw [hth]; exact qt)
  refine l_act hX hst dL_law_992 hH hV (ya_in rfl) (by constructor <;> omega) rY (by constructor <;> omega) (by constructor <;> omega) ewy (show cs + 3 + 10 ≤ 600104 by omega) (show ss + 18 + 250 ≤ 7301314 by omega) (by first | exact Nat.le_of_ble_eq_true rfl | simp [cat_rf, Value.category]) (fun A ow τ M sz hH hV => ?_)
  refine g_istore hX dL_law_995 ?_
  dsimp only [List.set]
  refine g_iload hX dL_law_997 rfl ?_
  refine g_const hX dL_law_999 ?_
  refine yt_icmp_ne hX dL_law_1001 (by constructor <;> omega) (ya_in rfl) (by omega) ?_
  refine g_const hX dL_law_1008 ?_
  refine g_iload hX dL_law_1009 rfl ?_
  refine g_const hX dL_law_1011 ?_
  refine yt_icmp_ne hX dL_law_1013 rth (ya_in rfl) (by omega) ?_
  refine g_const hX dL_law_1020 ?_
  refine yt_icmp_eq hX dL_law_1021 (ya_in rfl) (ya_in rfl) rfl ?_
  refine g_aload hX dL_law_1026 rfl rfl ?_
  refine g_const hX dL_law_1027 ?_
  refine g_iload hX dL_law_1029 rfl ?_
  refine g_iload hX dL_law_1031 rfl ?_
  refine g_iload hX dL_law_1033 rfl ?_
  refine g_const hX dL_law_1035 ?_
  rw [hzr12, hyr28] at hsg
  refine l_act hX hst dL_law_1036 hH hV (ya_in rfl) rY (by constructor <;> omega) (by constructor <;> omega) (ya_in rfl) (hsg 0) (show cs + 3 + 10 + 10 ≤ 600104 by omega) (show ss + 18 + 250 + 250 ≤ 7301314 by omega) (by first | exact Nat.le_of_ble_eq_true rfl | simp [cat_rf, Value.category]) (fun A ow τ M sz hH hV => ?_)
  refine g_istore hX dL_law_1039 ?_
  dsimp only [List.set]
  refine g_iload hX dL_law_1041 rfl ?_
  refine g_const hX dL_law_1043 ?_
  refine yt_icmp_eq hX dL_law_1045 (ya_in rfl) (ya_in rfl) rfl ?_
  refine g_iload hX dL_law_1108 rfl ?_
  refine g_iload hX dL_law_1110 rfl ?_
  refine yf_if_ge hX dL_law_1112 (ya_in rfl) (by decide) ?_
  refine g_const hX dL_law_1115 ?_
  refine g_goto hX dL_law_1116 ?_
  refine y_iadd (c := n3) hX dL_law_1120 (by omega) ?_
  refine g_istore hX dL_law_1121 ?_
  dsimp only [List.set]
  exact g_wide (by omega) (by omega) (hn _ _ _ _ _ _ _ _ _ _ _ _ _ _ _ _ _ _ _ _ _ hH hV e0 e1 e2 e3)

set_option maxRecDepth 20000 in
theorem lawH3 {X : hX} (hX : Cok X mL_law) (hst : X.1.2.1.stackTraces = false) {b h : Nat} {n0 n1 n2 n3 k w y z Y : Int} {u7 u12 u13 u14 u15 u16 u17 : Value} {σ : SG} {A : Nat → Nat → Nat} {ow : Nat → Nat × Nat} {τ : Nat → Nat → Int} {M : hM} {sz cs ss : Nat} (rk : inR k) (hw : 0 ≤ w ∧ w < 13) (hy : 0 ≤ y ∧ y ≤ 1290555) (hz : 0 ≤ z ∧ z ≤ 21509) (hY : 1600 ≤ Y ∧ Y ≤ 2399) (hH : HX X.2.2.2.2.2.2.2.2.2 h A ow σ τ M) (hV : SV σ) (e0 : σ 0 0 0 = n0) (e1 : σ 1 0 0 = n1) (e2 : σ 2 0 0 = n2) (e3 : σ 3 0 0 = n3)  (q0 : 0 < n0) (q1 : 0 < n1) (q : thZ σ Y (placeZ Y (1 + z % 12) (1 + y % 28)).toNat ≠ -100) {g : Int} {σ9 : SG} (hsg : ∀ c, ya_act σ 23 Y (1 + z % 12) (1 + y % 28) c = (g, σ9)) (hg : inN σ 0 g) (c0 : σ9 0 0 0 = σ 0 0 0) (c1 : σ9 1 0 0 = σ 1 0 0) (c2 : σ9 2 0 0 = σ 2 0 0) (c3 : σ9 3 0 0 = σ 3 0 0 + 1) (hs0 : oc_service σ9 (σ 3 0 0) 0 = (0, g, σ9)) (hs3 : oc_service σ9 (σ 3 0 0) 3 = (0, 100 * (1 + z % 12) + (1 + y % 28), σ9)) (hwh : oc_why σ9 g Y (1 + z % 12) (1 + y % 28) = (0, 4, σ9)) {c9 s8 : Nat} (hc : cs + 32 ≤ c9) (hs : ss + 572 ≤ s8) (hc9 : c9 ≤ 600104) (hs8 : s8 ≤ 7301314) (hn : ∀ (σ' : SG) (A' : Nat → Nat → Nat) (ow' : Nat → Nat × Nat) (τ' : Nat → Nat → Int) (M' : hM) (s9 : Nat) (m0 m1 m2 m3 : Int) (u7 u8 u9 u10 u11 u12 u13 u14 u15 u16 u17 : Value), HX X.2.2.2.2.2.2.2.2.2 h A' ow' σ' τ' M' → SV σ' → σ' 0 0 0 = m0 → σ' 1 0 0 = m1 → σ' 2 0 0 = m2 → σ' 3 0 0 = m3 → G X 1123 [.ref b, .ref h, .int (iZ m0), .int (iZ m1), .int (iZ m2), .int (iZ m3), .int (iZ k), u7, u8, u9, u10, u11, u12, u13, u14, u15, u16, u17] [] M' s9 c9 s8) : G X 949 [.ref b, .ref h, .int (iZ n0), .int (iZ n1), .int (iZ n2), .int (iZ n3), .int (iZ k), u7, .int (iZ w), .int (iZ y), .int (iZ z), .int (iZ Y), u12, u13, u14, u15, u16, u17] [] M sz cs ss := by
  have hsn := hV.n
  unfold SVn at hsn
  have rn0 : inR n0 := by constructor <;> omega
  have rn1 : inR n1 := by constructor <;> omega
  have rn2 : inR n2 := by constructor <;> omega
  have rn3 : inR n3 := by constructor <;> omega
  have rw9 : inR w := by constructor <;> omega
  have ry : inR y := by constructor <;> omega
  have rz : inR z := by constructor <;> omega
  have rY : inR Y := by constructor <;> omega
  have hg1 := hg.1
  have hg2 := hg.2
  refine g_const hX dL_law_949 ?_
  refine g_iload hX dL_law_950 rfl ?_
  refine g_const hX dL_law_952 ?_
  obtain ⟨zr12, hzr12⟩ : ∃ c : Int, z % 12 = c := ⟨_, rfl⟩
  have bzr12 : 0 ≤ zr12 ∧ zr12 < 12 := by omega
  refine y_irem (c := zr12) hX dL_law_954 rz (ya_in rfl) (by omega) (by omega) hzr12 ?_
  refine z_iadd hX dL_law_955 ?_
  refine g_istore hX dL_law_956 ?_
  dsimp only [List.set]
  refine g_const hX dL_law_958 ?_
  refine g_iload hX dL_law_959 rfl ?_
  refine g_const hX dL_law_961 ?_
  obtain ⟨yr28, hyr28⟩ : ∃ c : Int, y % 28 = c := ⟨_, rfl⟩
  have byr28 : 0 ≤ yr28 ∧ yr28 < 28 := by omega
  refine y_irem (c := yr28) hX dL_law_963 ry (ya_in rfl) (by omega) (by omega) hyr28 ?_
  refine z_iadd hX dL_law_964 ?_
  refine g_istore hX dL_law_965 ?_
  dsimp only [List.set]
  refine g_aload hX dL_law_967 rfl rfl ?_
  refine g_iload hX dL_law_968 rfl ?_
  refine g_iload hX dL_law_970 rfl ?_
  refine g_iload hX dL_law_972 rfl ?_
  have hd := yb_day (m := 1 + zr12) (d := 1 + yr28) hY (by omega) (by omega)
  obtain ⟨th, hth⟩ : ∃ th, thZ σ Y (placeZ Y (1 + zr12) (1 + yr28)).toNat = th := ⟨_, rfl⟩
  have htr := th_r hV Y (placeZ Y (1 + zr12) (1 + yr28)).toNat
  rw [hth] at htr
  have rth : inR th := by constructor <;> omega
  have qt : th ≠ -100 := by rw [← hth, ← hzr12, ← hyr28]; exact q
  refine l_theme hX hst dL_law_974 hH hV rY (by constructor <;> omega) (by constructor <;> omega) (show oc_theme σ Y (1 + zr12) (1 + yr28) = (0, th, σ) from by rw [← hth]; exact yb_theme σ hd) (show cs + 3 ≤ 600104 by omega) (show ss + 18 ≤ 7301314 by omega) (by first | exact Nat.le_of_ble_eq_true rfl | simp [cat_rf, Value.category]) (fun A ow τ M sz hH hV => ?_)
  refine g_istore hX dL_law_977 ?_
  dsimp only [List.set]
  refine g_aload hX dL_law_979 rfl rfl ?_
  refine g_const hX dL_law_980 ?_
  refine g_iload hX dL_law_982 rfl ?_
  refine g_iload hX dL_law_984 rfl ?_
  obtain ⟨yrn0, hyrn0⟩ : ∃ c : Int, y % n0 = c := ⟨_, rfl⟩
  have byrn0 : 0 ≤ yrn0 ∧ yrn0 < n0 := by rw [← hyrn0]; exact ⟨Int.emod_nonneg _ (by omega), Int.emod_lt_of_pos _ (by omega)⟩
  refine y_irem (c := yrn0) hX dL_law_985 ry rn0 (by omega) (by omega) hyrn0 ?_
  refine g_iload hX dL_law_986 rfl ?_
  refine g_iload hX dL_law_988 rfl ?_
  refine g_iload hX dL_law_990 rfl ?_
  obtain ⟨wy, ewy, hwy⟩ := yb_why1 (σ := σ) (a := yrn0) ⟨by omega, by omega⟩ hd (by rw [hth]; exact qt)
  refine l_act hX hst dL_law_992 hH hV (ya_in rfl) (by constructor <;> omega) rY (by constructor <;> omega) (by constructor <;> omega) ewy (show cs + 3 + 10 ≤ 600104 by omega) (show ss + 18 + 250 ≤ 7301314 by omega) (by first | exact Nat.le_of_ble_eq_true rfl | simp [cat_rf, Value.category]) (fun A ow τ M sz hH hV => ?_)
  refine g_istore hX dL_law_995 ?_
  dsimp only [List.set]
  refine g_iload hX dL_law_997 rfl ?_
  refine g_const hX dL_law_999 ?_
  refine yt_icmp_ne hX dL_law_1001 (by constructor <;> omega) (ya_in rfl) (by omega) ?_
  refine g_const hX dL_law_1008 ?_
  refine g_iload hX dL_law_1009 rfl ?_
  refine g_const hX dL_law_1011 ?_
  refine yt_icmp_ne hX dL_law_1013 rth (ya_in rfl) (by omega) ?_
  refine g_const hX dL_law_1020 ?_
  refine yt_icmp_eq hX dL_law_1021 (ya_in rfl) (ya_in rfl) rfl ?_
  refine g_aload hX dL_law_1026 rfl rfl ?_
  refine g_const hX dL_law_1027 ?_
  refine g_iload hX dL_law_1029 rfl ?_
  refine g_iload hX dL_law_1031 rfl ?_
  refine g_iload hX dL_law_1033 rfl ?_
  refine g_const hX dL_law_1035 ?_
  rw [hzr12, hyr28] at hsg hwh hs3
  rw [e3] at hs0 hs3
  refine l_act hX hst dL_law_1036 hH hV (ya_in rfl) rY (by constructor <;> omega) (by constructor <;> omega) (ya_in rfl) (hsg 0) (show cs + 3 + 10 + 10 ≤ 600104 by omega) (show ss + 18 + 250 + 250 ≤ 7301314 by omega) (by first | exact Nat.le_of_ble_eq_true rfl | simp [cat_rf, Value.category]) (fun A ow τ M sz hH hV => ?_)
  refine g_istore hX dL_law_1039 ?_
  dsimp only [List.set]
  refine g_iload hX dL_law_1041 rfl ?_
  refine g_const hX dL_law_1043 ?_
  refine yf_icmp_eq hX dL_law_1045 (by constructor <;> omega) (ya_in rfl) (by omega) ?_
  refine g_iload hX dL_law_1048 rfl ?_
  refine yf_if_lt hX dL_law_1050 (by constructor <;> omega) (by omega) ?_
  refine g_iload hX dL_law_1053 rfl ?_
  refine g_const hX dL_law_1055 ?_
  refine yf_icmp_eq hX dL_law_1057 rth (ya_in rfl) (by omega) ?_
  refine g_aload hX dL_law_1060 rfl rfl ?_
  refine g_iload hX dL_law_1061 rfl ?_
  refine g_const hX dL_law_1063 ?_
  refine l_service hX hst dL_law_1064 hH hV rn3 (ya_in rfl) hs0 (show cs + 3 + 10 + 10 + 2 ≤ 600104 by omega) (show ss + 18 + 250 + 250 + 12 ≤ 7301314 by omega) (by first | exact Nat.le_of_ble_eq_true rfl | simp [cat_rf, Value.category]) (fun A ow τ M sz hH hV => ?_)
  refine g_iload hX dL_law_1067 rfl ?_
  refine yf_icmp_ne hX dL_law_1069 (by constructor <;> omega) (by constructor <;> omega) rfl ?_
  refine g_aload hX dL_law_1072 rfl rfl ?_
  refine g_iload hX dL_law_1073 rfl ?_
  refine g_const hX dL_law_1075 ?_
  refine l_service hX hst dL_law_1076 hH hV rn3 (ya_in rfl) hs3 (show cs + 3 + 10 + 10 + 2 + 2 ≤ 600104 by omega) (show ss + 18 + 250 + 250 + 12 + 12 ≤ 7301314 by omega) (by first | exact Nat.le_of_ble_eq_true rfl | simp [cat_rf, Value.category]) (fun A ow τ M sz hH hV => ?_)
  refine g_const hX dL_law_1079 ?_
  refine g_iload hX dL_law_1081 rfl ?_
  refine z_imul hX dL_law_1083 ?_
  refine g_iload hX dL_law_1084 rfl ?_
  refine z_iadd hX dL_law_1086 ?_
  refine yf_icmp_ne hX dL_law_1087 (by constructor <;> omega) (by constructor <;> omega) rfl ?_
  refine g_aload hX dL_law_1090 rfl rfl ?_
  refine g_iload hX dL_law_1091 rfl ?_
  refine g_iload hX dL_law_1093 rfl ?_
  refine g_iload hX dL_law_1095 rfl ?_
  refine g_iload hX dL_law_1097 rfl ?_
  refine l_why hX hst dL_law_1099 hH hV (by constructor <;> omega) rY (by constructor <;> omega) (by constructor <;> omega) hwh (show cs + 3 + 10 + 10 + 2 + 2 + 5 ≤ 600104 by omega) (show ss + 18 + 250 + 250 + 12 + 12 + 30 ≤ 7301314 by omega) (by first | exact Nat.le_of_ble_eq_true rfl | simp [cat_rf, Value.category]) (fun A ow τ M sz hH hV => ?_)
  refine g_const hX dL_law_1102 ?_
  refine yt_icmp_eq hX dL_law_1103 (ya_in rfl) (ya_in rfl) rfl ?_
  refine g_iload hX dL_law_1108 rfl ?_
  refine g_iload hX dL_law_1110 rfl ?_
  refine yt_if_ge hX dL_law_1112 (by constructor <;> omega) (by omega) ?_
  refine g_const hX dL_law_1119 ?_
  refine z_iadd hX dL_law_1120 ?_
  refine g_istore hX dL_law_1121 ?_
  dsimp only [List.set]
  exact g_wide (by omega) (by omega) (hn _ _ _ _ _ _ _ _ _ _ _ _ _ _ _ _ _ _ _ _ _ hH hV (by omega) (by omega) (by omega) (by omega))
