/-! the law's loop and its beginning -/
def LSc (X : hX) (b L : Nat) (zs : Nat → Int) : Prop := va_X b L (fun j => iZ (zs j)) X.1.2.2.2.2.1 X.1.2.2.2.2.1.heap ∧ b < X.1.2.2.2.2.1.heap.size ∧ b < X.2.2.2.2.2.2.2.1 ∧ L ≤ 260 ∧ ∀ j, inR (zs j)
theorem yb_w1 (s k : Nat) : s + 60 + 2700 ≤ s + 2760 + 2760 * k := by omega
theorem yb_w2 (s k : Nat) : s + 1500 + 67500 ≤ s + 69000 + 69000 * k := by omega
section R7
variable {X : hX} {d : hD} {pc n t n1 e1 : Nat} {lv st : List Value} {M : hM} {sz cs ss : Nat} {a v : Int} {b L : Nat} {zs : Nat → Int}
theorem z_sld (hX : Cok X d) (hS : LSc X b L zs) (h : At d pc .iaload 1 n) (h0 : 0 ≤ a) (h1 : a < L) (hv : zs a.toNat = v) (kk : G X n lv (.int (iZ v) :: st) M sz cs ss) : G X pc lv (.int (iZ a) :: .ref b :: st) M sz cs ss := by
  obtain ⟨⟨p, l, e, R, s, m, args, below⟩, meth, c, A, Q, g⟩ := X
  obtain ⟨hx, hb, hml, hown, hts, hKS, hAz, hAn, hst9, hlk, hrt, hnm, hR, hex⟩ := hX
  intro H locs ls hz hM hA hSv hl
  obtain ⟨hd, rfl⟩ := h
  obtain ⟨s1, s2, s3, s4, -⟩ := hS
  subst hv
  have hr : inR a := by constructor <;> omega
  refine va_sld (xs := fun j => iZ (zs j)) hx hb s1 s2 (fun q => absurd (hAz b q) (Nat.not_le.mpr s3)) hSv (z_in h0 h1 (by omega)) hd ?_
  rw [z_cl hr]
  exact kk H locs ls hz hM hA hSv hl
theorem z_slen (hX : Cok X d) (hS : LSc X b L zs) (h : At d pc .arraylength 1 n) (kk : G X n lv (.int (iZ (L : Int)) :: st) M sz cs ss) : G X pc lv (.ref b :: st) M sz cs ss := by
  obtain ⟨⟨p, l, e, R, s, m, args, below⟩, meth, c, A, Q, g⟩ := X
  obtain ⟨hx, hb, hml, hown, hts, hKS, hAz, hAn, hst9, hlk, hrt, hnm, hR, hex⟩ := hX
  intro H locs ls hz hM hA hSv hl
  obtain ⟨hd, rfl⟩ := h
  obtain ⟨s1, s2, s3, s4, -⟩ := hS
  exact va_slen (xs := fun j => iZ (zs j)) hx hb s1 s2 (fun q => absurd (hAz b q) (Nat.not_le.mpr s3)) hSv hd (kk H locs ls hz hM hA hSv hl)
end R7
set_option maxRecDepth 20000 in
theorem law_disp {X : hX} (hX : Cok X mL_law) (hst : X.1.2.1.stackTraces = false) {b h : Nat} {n0 n1 n2 n3 k w y z Y : Int} {u7 u12 u13 u14 u15 u16 u17 : Value} {σ : SG} {A : Nat → Nat → Nat} {ow : Nat → Nat × Nat} {τ : Nat → Nat → Int} {M : hM} {sz cs ss : Nat} (rk : inR k) (hw : 0 ≤ w ∧ w < 13) (hy : 0 ≤ y ∧ y ≤ 1290555) (hz : 0 ≤ z ∧ z ≤ 21509) (hY : 1600 ≤ Y ∧ Y ≤ 2399) (hH : HX X.2.2.2.2.2.2.2.2.2 h A ow σ τ M) (hV : SV σ) (e0 : σ 0 0 0 = n0) (e1 : σ 1 0 0 = n1) (e2 : σ 2 0 0 = n2) (e3 : σ 3 0 0 = n3) {c9 s8 : Nat} (hc : cs + 60 ≤ c9) (hs : ss + 1500 ≤ s8) (hc9 : c9 ≤ 600104) (hs8 : s8 ≤ 7301314) (hn : ∀ (σ' : SG) (A' : Nat → Nat → Nat) (ow' : Nat → Nat × Nat) (τ' : Nat → Nat → Int) (M' : hM) (s9 : Nat) (m0 m1 m2 m3 : Int) (u7 u8 u9 u10 u11 u12 u13 u14 u15 u16 u17 : Value), HX X.2.2.2.2.2.2.2.2.2 h A' ow' σ' τ' M' → SV σ' → σ' 0 0 0 = m0 → σ' 1 0 0 = m1 → σ' 2 0 0 = m2 → σ' 3 0 0 = m3 → G X 1123 [.ref b, .ref h, .int (iZ m0), .int (iZ m1), .int (iZ m2), .int (iZ m3), .int (iZ k), u7, u8, u9, u10, u11, u12, u13, u14, u15, u16, u17] [] M' s9 c9 s8) : G X 94 [.ref b, .ref h, .int (iZ n0), .int (iZ n1), .int (iZ n2), .int (iZ n3), .int (iZ k), u7, .int (iZ w), .int (iZ y), .int (iZ z), .int (iZ Y), u12, u13, u14, u15, u16, u17] [] M sz cs ss := by
  have hsn := hV.n
  unfold SVn at hsn
  have rn0 : inR n0 := by constructor <;> omega
  have rn1 : inR n1 := by constructor <;> omega
  have rn2 : inR n2 := by constructor <;> omega
  have rn3 : inR n3 := by constructor <;> omega
  have rw9 : inR w := by constructor <;> omega
  have ry : inR y := by constructor <;> omega
  have rz : inR z := by constructor <;> omega
  have rY : inR Y := by constructor <;> omega
  have pA : G X 103 [.ref b, .ref h, .int (iZ n0), .int (iZ n1), .int (iZ n2), .int (iZ n3), .int (iZ k), u7, .int (iZ w), .int (iZ y), .int (iZ z), .int (iZ Y), u12, u13, u14, u15, u16, u17] [] M sz cs ss := by
    by_cases q : n0 < 12
    · exact lawA1 hX hst rk hw hy hz hY hH hV e0 e1 e2 e3 q (by omega) (by omega) hc9 hs8 hn
    · exact lawA2 hX hst rk hw hy hz hY hH hV e0 e1 e2 e3 (by omega) (by omega) (by omega) hc9 hs8 hn
  refine g_iload hX dL_law_94 rfl ?_
  by_cases qw0 : w = 0
  · exact yt_if_eq hX dL_law_96 rw9 qw0 pA
  refine yf_if_eq hX dL_law_96 rw9 qw0 ?_
  refine g_iload hX dL_law_99 rfl ?_
  by_cases qn0 : n0 = 0
  · exact yf_if_ne hX dL_law_100 rn0 qn0 pA
  refine yt_if_ne hX dL_law_100 rn0 qn0 ?_
  have pB : G X 169 [.ref b, .ref h, .int (iZ n0), .int (iZ n1), .int (iZ n2), .int (iZ n3), .int (iZ k), u7, .int (iZ w), .int (iZ y), .int (iZ z), .int (iZ Y), u12, u13, u14, u15, u16, u17] [] M sz cs ss := by
    by_cases q : n1 < 12
    · exact lawB1 hX hst rk hw hy hz hY hH hV e0 e1 e2 e3 q (by omega) (by omega) hc9 hs8 hn
    · exact lawB2 hX hst rk hw hy hz hY hH hV e0 e1 e2 e3 (by omega) (by omega) (by omega) hc9 hs8 hn
  refine g_iload hX dL_law_159 rfl ?_
  refine g_const hX dL_law_161 ?_
  by_cases qw1 : w = 1
  · exact yt_icmp_eq hX dL_law_162 rw9 (ya_in rfl) qw1 pB
  refine yf_icmp_eq hX dL_law_162 rw9 (ya_in rfl) qw1 ?_
  refine g_iload hX dL_law_165 rfl ?_
  by_cases qn1 : n1 = 0
  · exact yf_if_ne hX dL_law_166 rn1 qn1 pB
  refine yt_if_ne hX dL_law_166 rn1 qn1 ?_
  have q0 : 0 < n0 := by omega
  have q1 : 0 < n1 := by omega
  refine g_iload hX dL_law_232 rfl ?_
  refine g_const hX dL_law_234 ?_
  by_cases qw4 : w < 4
  · refine yf_icmp_ge hX dL_law_235 rw9 (ya_in rfl) (by omega) ?_
    exact lawC0 hX hst rk hw hy hz hY hH hV e0 e1 e2 e3 q0 q1 (by omega) (by omega) hc9 hs8 hn
  refine yt_icmp_ge hX dL_law_235 rw9 (ya_in rfl) (by omega) ?_
  refine g_iload hX dL_law_441 rfl ?_
  refine g_const hX dL_law_443 ?_
  by_cases qw6 : w < 6
  · refine yf_icmp_ge hX dL_law_445 rw9 (ya_in rfl) (by omega) ?_
    by_cases qf : w = 4
    · by_cases q : n2 < 20
      · exact lawD1a hX hst rk hw hy hz hY hH hV e0 e1 e2 e3 qf q (by omega) (by omega) hc9 hs8 hn
      · exact lawD1b hX hst rk hw hy hz hY hH hV e0 e1 e2 e3 qf (by omega) (by omega) (by omega) hc9 hs8 hn
    · by_cases q : n2 < 20
      · exact lawD2a hX hst rk hw hy hz hY hH hV e0 e1 e2 e3 (by omega) q (by omega) (by omega) hc9 hs8 hn
      · exact lawD2b hX hst rk hw hy hz hY hH hV e0 e1 e2 e3 (by omega) (by omega) (by omega) (by omega) hc9 hs8 hn
  refine yt_icmp_ge hX dL_law_445 rw9 (ya_in rfl) (by omega) ?_
  refine g_iload hX dL_law_591 rfl ?_
  refine g_const hX dL_law_593 ?_
  by_cases qe : w = 6
  · refine yf_icmp_ne hX dL_law_595 rw9 (ya_in rfl) qe ?_
    exact lawE hX hst rk hw hy hz hY hH hV e0 e1 e2 e3 (by omega) (by omega) hc9 hs8 hn
  refine yt_icmp_ne hX dL_law_595 rw9 (ya_in rfl) qe ?_
  refine g_iload hX dL_law_680 rfl ?_
  refine g_const hX dL_law_682 ?_
  by_cases qw9 : w < 9
  · refine yf_icmp_ge hX dL_law_684 rw9 (ya_in rfl) (by omega) ?_
    by_cases q : 0 ≤ keptZ σ Y (placeZ Y (1 + z % 12) (1 + y % 28)).toNat
    · exact lawF1 hX hst rk hw hy hz hY hH hV e0 e1 e2 e3 q (by omega) (by omega) hc9 hs8 hn
    · by_cases q2 : wdayZ Y (placeZ Y (1 + z % 12) (1 + y % 28)) = 0
      · exact lawF2a hX hst rk hw hy hz hY hH hV e0 e1 e2 e3 (by omega) q2 (by omega) (by omega) hc9 hs8 hn
      · exact lawF2b hX hst rk hw hy hz hY hH hV e0 e1 e2 e3 (by omega) q2 (by omega) (by omega) hc9 hs8 hn
  refine yt_icmp_ge hX dL_law_684 rw9 (ya_in rfl) (by omega) ?_
  refine g_iload hX dL_law_873 rfl ?_
  refine g_const hX dL_law_875 ?_
  by_cases qg : w = 9
  · refine yf_icmp_ne hX dL_law_877 rw9 (ya_in rfl) qg ?_
    exact lawG hX hst rk hw hy hz hY hH hV e0 e1 e2 e3 q0 q1 (by omega) (by omega) hc9 hs8 hn
  refine yt_icmp_ne hX dL_law_877 rw9 (ya_in rfl) qg ?_
  by_cases qt : thZ σ Y (placeZ Y (1 + z % 12) (1 + y % 28)).toNat = -100
  · exact lawH1 hX hst rk hw hy hz hY hH hV e0 e1 e2 e3 q0 q1 qt (by omega) (by omega) hc9 hs8 hn
  · rcases yb_sing hV (yb_day (m := 1 + z % 12) (d := 1 + y % 28) hY (by omega) (by omega)) qt with hsg | ⟨g, σ9, hsg, hg, c0, c1, c2, c3, hs0, hs3, hwh⟩
    · exact lawH2 hX hst rk hw hy hz hY hH hV e0 e1 e2 e3 q0 q1 qt hsg (by omega) (by omega) hc9 hs8 hn
    · exact lawH3 hX hst rk hw hy hz hY hH hV e0 e1 e2 e3 q0 q1 qt hsg hg c0 c1 c2 c3 hs0 hs3 hwh (by omega) (by omega) hc9 hs8 hn

set_option maxRecDepth 20000 in
theorem law_loop {X : hX} {b L h : Nat} {zs : Nat → Int} (hX : Cok X mL_law) (hst : X.1.2.1.stackTraces = false) (hS : LSc X b L zs) (hend : ∀ (lv : List Value) (M : hM) (sz : Nat), G X 1152 lv [] M sz 600104 7301314) : ∀ (k9 : Nat) (k n0 n1 n2 n3 : Int) (σ : SG) (A : Nat → Nat → Nat) (ow : Nat → Nat × Nat) (τ : Nat → Nat → Int) (M : hM) (sz cs ss : Nat) (u7 u8 u9 u10 u11 u12 u13 u14 u15 u16 u17 : Value), 0 ≤ k → k + (k9 : Int) = 70 → cs + 2760 * k9 ≤ 600104 → ss + 69000 * k9 ≤ 7301314 → HX X.2.2.2.2.2.2.2.2.2 h A ow σ τ M → SV σ → σ 0 0 0 = n0 → σ 1 0 0 = n1 → σ 2 0 0 = n2 → σ 3 0 0 = n3 → G X 29 [.ref b, .ref h, .int (iZ n0), .int (iZ n1), .int (iZ n2), .int (iZ n3), .int (iZ k), u7, u8, u9, u10, u11, u12, u13, u14, u15, u16, u17] [] M sz cs ss := by
  have hL := hS.2.2.2.1
  intro k9
  induction k9 with
  | zero =>
    intro k n0 n1 n2 n3 σ A ow τ M sz cs ss u7 u8 u9 u10 u11 u12 u13 u14 u15 u16 u17 hk0 hk hcs hss hH hV e0 e1 e2 e3
    refine g_iload hX dL_law_29 rfl ?_
    refine g_const hX dL_law_31 ?_
    refine yt_icmp_ge hX dL_law_33 (by constructor <;> omega) (ya_in rfl) (by omega) ?_
    exact g_wide (by omega) (by omega) (hend _ M sz)
  | succ k9 ih =>
    intro k n0 n1 n2 n3 σ A ow τ M sz cs ss u7 u8 u9 u10 u11 u12 u13 u14 u15 u16 u17 hk0 hk hcs hss hH hV e0 e1 e2 e3
    have rk : inR k := by constructor <;> omega
    have hcs9 : cs + 2760 + 2760 * k9 ≤ 600104 := by omega
    have hss9 : ss + 69000 + 69000 * k9 ≤ 7301314 := by omega
    refine g_iload hX dL_law_29 rfl ?_
    refine g_const hX dL_law_31 ?_
    refine yf_icmp_ge hX dL_law_33 rk (ya_in rfl) (by omega) ?_
    have hj : ∀ v : Int, 0 ≤ v → v < 16777216 → G X 59 [.ref b, .ref h, .int (iZ n0), .int (iZ n1), .int (iZ n2), .int (iZ n3), .int (iZ k), u7, u8, u9, u10, u11, u12, u13, u14, u15, u16, u17] [.int (iZ v)] M sz cs ss := by
      intro v hv0 hv1
      have rv : inR v := by constructor <;> omega
      refine g_istore hX dL_law_59 ?_
      dsimp only [List.set]
      refine g_iload hX dL_law_61 rfl ?_
      refine g_const hX dL_law_63 ?_
      obtain ⟨w, hw⟩ : ∃ w : Int, v % 13 = w := ⟨_, rfl⟩
      refine y_irem (c := w) hX dL_law_65 rv (ya_in rfl) hv0 (by omega) hw ?_
      refine g_istore hX dL_law_66 ?_
      dsimp only [List.set]
      refine g_iload hX dL_law_68 rfl ?_
      refine g_const hX dL_law_70 ?_
      obtain ⟨y, hy⟩ : ∃ y : Int, v / 13 = y := ⟨_, rfl⟩
      refine y_idiv (c := y) hX dL_law_72 rv (ya_in rfl) hv0 (by omega) hy ?_
      refine g_istore hX dL_law_73 ?_
      dsimp only [List.set]
      have by9 : 0 ≤ y ∧ y ≤ 1290555 := by omega
      have ry : inR y := by constructor <;> omega
      refine g_iload hX dL_law_75 rfl ?_
      refine g_const hX dL_law_77 ?_
      obtain ⟨z, hz⟩ : ∃ z : Int, y / 60 = z := ⟨_, rfl⟩
      refine y_idiv (c := z) hX dL_law_79 ry (ya_in rfl) (by omega) (by omega) hz ?_
      refine g_istore hX dL_law_80 ?_
      dsimp only [List.set]
      refine g_const hX dL_law_82 ?_
      refine g_iload hX dL_law_85 rfl ?_
      refine g_const hX dL_law_87 ?_
      obtain ⟨q9, hq9⟩ : ∃ q : Int, y % 800 = q := ⟨_, rfl⟩
      refine y_irem (c := q9) hX dL_law_90 ry (ya_in rfl) (by omega) (by omega) hq9 ?_
      obtain ⟨Y, hY⟩ : ∃ Y : Int, 1600 + q9 = Y := ⟨_, rfl⟩
      refine y_iadd (c := Y) hX dL_law_91 hY ?_
      refine g_istore hX dL_law_92 ?_
      dsimp only [List.set]
      refine law_disp (c9 := cs + 60) (s8 := ss + 1500) hX hst rk (by omega) by9 (by omega) (by omega) hH hV e0 e1 e2 e3 (Nat.le_refl _) (Nat.le_refl _) (by omega) (by omega) ?_
      intro σ' A' ow' τ' M' s9 m0 m1 m2 m3 u7 u8 u9 u10 u11 u12 u13 u14 u15 u16 u17 hH hV e0 e1 e2 e3
      have hsn := hV.n
      unfold SVn at hsn
      have hi : ∀ (A : Nat → Nat → Nat) (ow : Nat → Nat × Nat) (τ : Nat → Nat → Int) (M : hM) (sz : Nat), HX X.2.2.2.2.2.2.2.2.2 h A ow σ' τ M → G X 1146 [.ref b, .ref h, .int (iZ m0), .int (iZ m1), .int (iZ m2), .int (iZ m3), .int (iZ k), u7, u8, u9, u10, u11, u12, u13, u14, u15, u16, u17] [] M sz (cs + 2760) (ss + 69000) := by
        intro A ow τ M sz hH
        refine y_iinc (c := k + 1) hX dL_law_1146 rfl rfl ?_
        dsimp only [List.set]
        refine g_goto hX dL_law_1149 ?_
        exact ih (k + 1) m0 m1 m2 m3 σ' A ow τ M sz (cs + 2760) (ss + 69000) u7 u8 u9 u10 u11 u12 u13 u14 u15 u16 u17 (by omega) (by omega) hcs9 hss9 hH hV e0 e1 e2 e3
      refine g_iload hX dL_law_1123 rfl ?_
      refine g_const hX dL_law_1125 ?_
      obtain ⟨r9, hr9⟩ : ∃ r : Int, k % 16 = r := ⟨_, rfl⟩
      refine y_irem (c := r9) hX dL_law_1127 rk (ya_in rfl) hk0 (by omega) hr9 ?_
      have rr : inR r9 := by constructor <;> omega
      by_cases q : r9 = 0
      · refine yf_if_ne hX dL_law_1128 rr q ?_
        refine g_aload hX dL_law_1131 rfl rfl ?_
        refine g_iload hX dL_law_1132 rfl ?_
        refine g_iload hX dL_law_1133 rfl ?_
        refine g_iload hX dL_law_1134 rfl ?_
        refine g_iload hX dL_law_1136 rfl ?_
        refine l_refuses hX hst dL_law_1138 hH hV e0 e1 e2 e3 (Nat.le_trans (yb_w1 cs k9) hcs9) (Nat.le_trans (yb_w2 ss k9) hss9) (by first | exact Nat.le_of_ble_eq_true rfl | simp [cat_rf, Value.category]) (fun A ow τ M sz hH hV => ?_)
        refine yt_if_ne hX dL_law_1141 (ya_in rfl) (by decide) ?_
        exact hi A ow τ M sz hH
      · refine yt_if_ne hX dL_law_1128 rr q ?_
        exact g_wide (by omega) (by omega) (hi A' ow' τ' M' s9 hH)
    refine g_aload hX dL_law_36 rfl rfl ?_
    refine z_slen hX hS dL_law_37 ?_
    have rL : inR (L : Int) := by constructor <;> omega
    by_cases q : (L : Int) = 0
    · refine yf_if_ne hX dL_law_38 rL q ?_
      refine g_const hX dL_law_41 ?_
      refine g_iload hX dL_law_43 rfl ?_
      refine z_imul hX dL_law_45 ?_
      refine g_goto hX dL_law_46 ?_
      exact hj (107 * k) (by omega) (by omega)
    · refine yt_if_ne hX dL_law_38 rL q ?_
      refine g_aload hX dL_law_49 rfl rfl ?_
      refine g_iload hX dL_law_50 rfl ?_
      refine g_aload hX dL_law_52 rfl rfl ?_
      refine z_slen hX hS dL_law_53 ?_
      obtain ⟨i9, hi9⟩ : ∃ i : Int, k % (L : Int) = i := ⟨_, rfl⟩
      have bi9 : 0 ≤ i9 ∧ i9 < (L : Int) := by rw [← hi9]; exact ⟨Int.emod_nonneg _ (by omega), Int.emod_lt_of_pos _ (by omega)⟩
      refine y_irem (c := i9) hX dL_law_54 rk rL hk0 (by omega) hi9 ?_
      refine z_sld hX hS dL_law_55 bi9.1 bi9.2 rfl ?_
      refine g_const hX dL_law_56 ?_
      refine g_iushr hX dL_law_58 ?_
      obtain ⟨x9, hx9, hx0, hx1⟩ := yb_ush (iZ (zs i9.toNat))
      rw [hx9]
      exact hj x9 hx0 hx1

set_option maxRecDepth 20000 in
theorem law_body {X : hX} {b L sz : Nat} {zs : Nat → Int} (hX : Cok X mL_law) (hst : X.1.2.1.stackTraces = false) (hS : LSc X b L zs) (hend : ∀ (lv : List Value) (M : hM) (sz : Nat), G X 1152 lv [] M sz 600104 7301314) : G X 0 [.ref b, U9, U9, U9, U9, U9, U9, U9, U9, U9, U9, U9, U9, U9, U9, U9, U9, U9] [] (fun _ => none) sz 0 0 := by
  refine g_cS0 (c2 := 0 + 17000) (s2 := 0 + 425000) hX (s_L_years hst) dL_law_0 (by first | exact Nat.le_of_ble_eq_true rfl | simp [cat_rf, Value.category]) ⟨rfl, rfl, (show 0 + 17000 ≤ 600104 by omega), (show 0 + 425000 ≤ 7301314 by omega)⟩ ?_
  refine ⟨rfl, fun M sz => Kc_i ?_⟩
  refine yt_if_ne hX dL_law_3 (ya_in rfl) (by decide) ?_
  refine g_drop ?_
  refine l_new hX hst dL_law_8 dL_law_11 dL_law_12 (show 0 + 17000 + 10 ≤ 600104 by omega) (show 0 + 425000 + 414 ≤ 7301314 by omega) (fun h A ow τ M sz hH hV => ?_)
  refine g_astore hX dL_law_15 rfl ?_
  dsimp only [List.set]
  refine g_const hX dL_law_16 ?_
  refine g_istore hX dL_law_17 ?_
  dsimp only [List.set]
  refine g_const hX dL_law_18 ?_
  refine g_istore hX dL_law_19 ?_
  dsimp only [List.set]
  refine g_const hX dL_law_20 ?_
  refine g_istore hX dL_law_21 ?_
  dsimp only [List.set]
  refine g_const hX dL_law_23 ?_
  refine g_istore hX dL_law_24 ?_
  dsimp only [List.set]
  refine g_const hX dL_law_26 ?_
  refine g_istore hX dL_law_27 ?_
  dsimp only [List.set]
  exact law_loop hX hst hS hend 70 0 0 0 0 0 σ0 A ow τ M sz _ _ _ _ _ _ _ _ _ _ _ _ _ (by omega) (by omega) (by omega) (by omega) hH hV rfl rfl rfl rfl
