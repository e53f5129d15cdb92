/-! the reference's year -/
def cOf (k : Nat) : Nat := ([10, 11, 12, 13, 14, 15, 20, 23, 21, 22, 24, 25, 26, 30, 31, 34, 32, 33, 35, 1019, 1020, 40, 41, 42, 43] : List Nat).getD k 2000
theorem cOf_inj : ∀ k : Nat, k < 25 → ∀ j : Nat, j < 25 → cOf k = cOf j → k = j := by decide
theorem MAR_c {σ σ' : SG} {P Q : Nat → Int} {k : Nat} (hk : k < 25) (h : σ' (cOf k) = σ (cOf k)) : MAR σ' P Q k = MAR σ P Q k := by
  rcases (show k = 0 ∨ k = 1 ∨ k = 2 ∨ k = 3 ∨ k = 4 ∨ k = 5 ∨ k = 6 ∨ k = 7 ∨ k = 8 ∨ k = 9 ∨ k = 10 ∨ k = 11 ∨ k = 12 ∨ k = 13 ∨ k = 14 ∨ k = 15 ∨ k = 16 ∨ k = 17 ∨ k = 18 ∨ k = 19 ∨ k = 20 ∨ k = 21 ∨ k = 22 ∨ k = 23 ∨ k = 24 by omega) with rfl | rfl | rfl | rfl | rfl | rfl | rfl | rfl | rfl | rfl | rfl | rfl | rfl | rfl | rfl | rfl | rfl | rfl | rfl | rfl | rfl | rfl | rfl | rfl | rfl
  · exact congrArg (fun f : Nat → Nat → Int => (.inr (0, 12, .inl (fun i => iZ (f i 0))) : hC)) (show σ' 10 = σ 10 from h)
  · exact congrArg (fun f : Nat → Nat → Int => (.inr (0, 12, .inl (fun i => iZ (f i 0))) : hC)) (show σ' 11 = σ 11 from h)
  · exact congrArg (fun f : Nat → Nat → Int => (.inr (1, 12, .inl (fun i => iZ (f i 0))) : hC)) (show σ' 12 = σ 12 from h)
  · exact congrArg (fun f : Nat → Nat → Int => (.inr (0, 12, .inl (fun i => iZ (f i 0))) : hC)) (show σ' 13 = σ 13 from h)
  · exact congrArg (fun f : Nat → Nat → Int => (.inr (0, 96, .inl (fun i => iZ (f (i / 8) (i % 8)))) : hC)) (show σ' 14 = σ 14 from h)
  · exact congrArg (fun f : Nat → Nat → Int => (.inr (0, 96, .inl (fun i => iZ (f (i / 8) (i % 8)))) : hC)) (show σ' 15 = σ 15 from h)
  · exact congrArg (fun f : Nat → Nat → Int => (.inr (0, 12, .inl (fun i => iZ (f i 0))) : hC)) (show σ' 20 = σ 20 from h)
  · exact congrArg (fun f : Nat → Nat → Int => (.inr (1, 12, .inl (fun i => iZ (f i 0))) : hC)) (show σ' 23 = σ 23 from h)
  · exact congrArg (fun f : Nat → Nat → Int => (.inr (0, 12, .inl (fun i => iZ (f i 0))) : hC)) (show σ' 21 = σ 21 from h)
  · exact congrArg (fun f : Nat → Nat → Int => (.inr (0, 12, .inl (fun i => iZ (f i 0))) : hC)) (show σ' 22 = σ 22 from h)
  · exact congrArg (fun f : Nat → Nat → Int => (.inr (0, 12, .inl (fun i => iZ (f i 0))) : hC)) (show σ' 24 = σ 24 from h)
  · exact congrArg (fun f : Nat → Nat → Int => (.inr (0, 96, .inl (fun i => iZ (f (i / 8) (i % 8)))) : hC)) (show σ' 25 = σ 25 from h)
  · exact congrArg (fun f : Nat → Nat → Int => (.inr (0, 96, .inl (fun i => iZ (f (i / 8) (i % 8)))) : hC)) (show σ' 26 = σ 26 from h)
  · exact congrArg (fun f : Nat → Nat → Int => (.inr (0, 20, .inl (fun i => iZ (f i 0))) : hC)) (show σ' 30 = σ 30 from h)
  · exact congrArg (fun f : Nat → Nat → Int => (.inr (1, 20, .inl (fun i => iZ (f i 0))) : hC)) (show σ' 31 = σ 31 from h)
  · exact congrArg (fun f : Nat → Nat → Int => (.inr (1, 20, .inl (fun i => iZ (f i 0))) : hC)) (show σ' 34 = σ 34 from h)
  · exact congrArg (fun f : Nat → Nat → Int => (.inr (0, 20, .inl (fun i => iZ (f i 0))) : hC)) (show σ' 32 = σ 32 from h)
  · exact congrArg (fun f : Nat → Nat → Int => (.inr (0, 20, .inl (fun i => iZ (f i 0))) : hC)) (show σ' 33 = σ 33 from h)
  · exact congrArg (fun f : Nat → Nat → Int => (.inr (0, 63, .inl (fun i => iZ (f (i / 3) (i % 3)))) : hC)) (show σ' 35 = σ 35 from h)
  · rfl
  · rfl
  · exact congrArg (fun f : Nat → Nat → Int => (.inr (0, 60, .inl (fun i => iZ (f i 0))) : hC)) (show σ' 40 = σ 40 from h)
  · exact congrArg (fun f : Nat → Nat → Int => (.inr (0, 60, .inl (fun i => iZ (f i 0))) : hC)) (show σ' 41 = σ 41 from h)
  · exact congrArg (fun f : Nat → Nat → Int => (.inr (0, 60, .inl (fun i => iZ (f i 0))) : hC)) (show σ' 42 = σ 42 from h)
  · exact congrArg (fun f : Nat → Nat → Int => (.inr (0, 60, .inl (fun i => iZ (f i 0))) : hC)) (show σ' 43 = σ 43 from h)
theorem MAR_q {σ : SG} {P Q Q' : Nat → Int} {k : Nat} (hk : k < 25) (h : k ≠ 20) : MAR σ P Q' k = MAR σ P Q k := by
  rcases (show k = 0 ∨ k = 1 ∨ k = 2 ∨ k = 3 ∨ k = 4 ∨ k = 5 ∨ k = 6 ∨ k = 7 ∨ k = 8 ∨ k = 9 ∨ k = 10 ∨ k = 11 ∨ k = 12 ∨ k = 13 ∨ k = 14 ∨ k = 15 ∨ k = 16 ∨ k = 17 ∨ k = 18 ∨ k = 19 ∨ k = 20 ∨ k = 21 ∨ k = 22 ∨ k = 23 ∨ k = 24 by omega) with rfl | rfl | rfl | rfl | rfl | rfl | rfl | rfl | rfl | rfl | rfl | rfl | rfl | rfl | rfl | rfl | rfl | rfl | rfl | rfl | rfl | rfl | rfl | rfl | rfl <;> first | rfl | exact absurd rfl h
theorem MAR_p {σ : SG} {P P' Q : Nat → Int} {k : Nat} (hk : k < 25) (h : k ≠ 19) : MAR σ P' Q k = MAR σ P Q k := by
  rcases (show k = 0 ∨ k = 1 ∨ k = 2 ∨ k = 3 ∨ k = 4 ∨ k = 5 ∨ k = 6 ∨ k = 7 ∨ k = 8 ∨ k = 9 ∨ k = 10 ∨ k = 11 ∨ k = 12 ∨ k = 13 ∨ k = 14 ∨ k = 15 ∨ k = 16 ∨ k = 17 ∨ k = 18 ∨ k = 19 ∨ k = 20 ∨ k = 21 ∨ k = 22 ∨ k = 23 ∨ k = 24 by omega) with rfl | rfl | rfl | rfl | rfl | rfl | rfl | rfl | rfl | rfl | rfl | rfl | rfl | rfl | rfl | rfl | rfl | rfl | rfl | rfl | rfl | rfl | rfl | rfl | rfl <;> first | rfl | exact absurd rfl h
theorem iu_iu (f : Nat → Int) (k : Nat) (a c : Int) : iu (iu f k a) k c = iu f k c := by
  funext q
  unfold iu
  split <;> rfl
section MXS
variable {b r : Nat} {σ : SG} {th : Int} {P Q : Nat → Int} {M M1 : hM}
theorem mx_qst (H : MX b r σ th P Q M) {k : Nat} {v : Int} (h1 : M1 (b + 20) = some (.inr (0, 20, .inl (upd (fun i => iZ (Q i)) k (iZ v))))) (h2 : ∀ q, q ≠ b + 20 → M1 q = M q) : MX b r σ th P (iu Q k v) M1 := H.upd (fun j => j = 20) ((h2 r (by have := H.1; omega)).trans H.2.1) (fun j hj hs => MAR_q hj hs) (fun q h3 h4 => h2 q (h4 20 (by decide) rfl)) (fun j hj hs => by rw [hs, h1, upd_iZ]; rfl)
theorem mx_pst (H : MX b r σ th P Q M) {k : Nat} {v : Int} (h1 : M1 (b + 19) = some (.inr (0, 366, .inl (upd (fun i => iZ (P i)) k (iZ v))))) (h2 : ∀ q, q ≠ b + 19 → M1 q = M q) : MX b r σ th (iu P k v) Q M1 := H.upd (fun j => j = 19) ((h2 r (by have := H.1; omega)).trans H.2.1) (fun j hj hs => MAR_p hj hs) (fun q h3 h4 => h2 q (h4 19 (by decide) rfl)) (fun j hj hs => by rw [hs, h1, upd_iZ]; rfl)
theorem mx_pex (H : MX b r σ th P Q M) {P' : Nat → Int} (h1 : M1 (b + 19) = some (.inr (0, 366, .inl (fun i => iZ (P' i))))) (h2 : ∀ q, q ≠ b + 19 → M1 q = M q) : MX b r σ th P' Q M1 := H.upd (fun j => j = 19) ((h2 r (by have := H.1; omega)).trans H.2.1) (fun j hj hs => MAR_p hj hs) (fun q h3 h4 => h2 q (h4 19 (by decide) rfl)) (fun j hj hs => by rw [hs, h1]; rfl)
end MXS
theorem east_md (y : Int) : (31 < eastZ y ∧ eastMDZ y = 369 + eastZ y) ∨ (eastZ y ≤ 31 ∧ eastMDZ y = 300 + eastZ y) := by
  unfold eastMDZ
  split <;> omega
theorem pl_east (y : Int) : placeZ y (eastMDZ y / 100) (eastMDZ y % 100) = placeZ y 3 (eastZ y) := by
  have he := east_r y
  have h3 : placeZ y 3 (eastZ y) = 59 + bZ (2 < (3 : Int) ∧ leapZ y) + eastZ y - 1 := rfl
  rcases east_md y with ⟨h1, h2⟩ | ⟨h1, h2⟩
  · rw [show eastMDZ y / 100 = 4 by omega, show eastMDZ y % 100 = eastZ y - 31 by omega, h3]
    have h4 : placeZ y 4 (eastZ y - 31) = 90 + bZ (2 < (4 : Int) ∧ leapZ y) + (eastZ y - 31) - 1 := rfl
    have h5 : bZ (2 < (4 : Int) ∧ leapZ y) = bZ (2 < (3 : Int) ∧ leapZ y) := bZ_iff ⟨fun q => ⟨by decide, q.2⟩, fun q => ⟨by decide, q.2⟩⟩
    omega
  · rw [show eastMDZ y / 100 = 3 by omega, show eastMDZ y % 100 = eastZ y by omega]
theorem mv_r {σ : SG} (hV : SV σ) {i : Nat} (hi : (i : Int) < σ 2 0 0) : FR (σ 30 i 0) (σ 31 i 0) (σ 32 i 0) (σ 33 i 0) ∧ (σ 34 i 0 = 0 ∨ σ 34 i 0 = 1) ∧ (σ 34 i 0 = 0 → σ 32 i 0 ≠ 0) ∧ (σ 34 i 0 ≠ 0 → σ 32 i 0 = 0) := by
  obtain ⟨h1, h2⟩ := hV.f.1 i hi
  refine ⟨h1, ?_⟩
  by_cases q : σ 32 i 0 = 0
  · rw [h2, bZ_t q]
    exact ⟨Or.inr rfl, fun h => by omega, fun _ => q⟩
  · rw [h2, bZ_f q]
    exact ⟨Or.inl rfl, fun _ => q, fun h => absurd rfl h⟩
def rdF (σ : SG) (v : Int) : Int := if v = -2 then 60 else if inN σ 2 v then 3 * v else -100
theorem div3 {t : Nat} {c : Int} (h : 0 ≤ c ∧ c < 3) : (3 * (t : Int) + c).toNat / 3 = t ∧ (3 * (t : Int) + c).toNat % 3 = c.toNat := by omega
theorem div20 {c : Int} (h : 0 ≤ c ∧ c < 3) : (60 + c).toNat / 3 = 20 ∧ (60 + c).toNat % 3 = c.toNat := by omega
def dZ (σ : SG) (y : Int) (P : Nat → Int) (i : Nat) : Int := dayZ y (σ 4 0 0) P (σ 30 i 0) (σ 31 i 0) (ownF y (σ 32 i 0) (σ 33 i 0))

def sp_X10_readingsFrom : hS := fun as M sz K => ∃ (b r : Nat) (σ : SG) (th : Int) (P Q : Nat → Int) (v : Int), as = [.ref r, .int (iZ v)] ∧ MX b r σ th P Q M ∧ SV σ ∧ inR v ∧ K (.inl (some (.int (iZ (rdF σ v))))) M sz
theorem s_X10_readingsFrom {l : Launch} {g : hG} (hst : l.stackTraces = false) : Ctr l g mX10_readingsFrom sp_X10_readingsFrom := by
  refine Ctr.mk9 hst (by decide) ?_ ?_
  · rintro as M sz K ⟨b, r, σ, th, P, Q, v, rfl, hM, hV, hv, hK⟩
    exact ⟨by simp [mX10_readingsFrom], cat_ok rfl⟩
  rintro X as M sz K hX rfl rfl hR ⟨b, r, σ, th, P, Q, v, rfl, hM, hV, hv, hK⟩
  show G X 0 [.ref r, .int (iZ v)] [] M sz 0 0
  obtain ⟨n0, n1, n2, n3, ⟨e0, hn0⟩, ⟨e1, hn1⟩, ⟨e2, hn2⟩, ⟨e3, hn3⟩⟩ := hV.nat
  refine g_iload hX dX10_readingsFrom_0 rfl ?_
  refine g_const hX dX10_readingsFrom_1 ?_
  refine z_icmp_ne hX dX10_readingsFrom_3 (by first | assumption | (constructor <;> omega)) (by first | assumption | (constructor <;> omega)) (fun c3 => ?_) (fun c3 => ?_)
  · refine g_iload hX dX10_readingsFrom_11 rfl ?_
    refine g_const hX dX10_readingsFrom_12 ?_
    refine g_aload hX dX10_readingsFrom_13 rfl rfl ?_
    refine g_get hX dX10_readingsFrom_14 (by first | assumption | exact hM.2.1) rfl ?_
    refine g_const hX dX10_readingsFrom_17 ?_
    refine z_isub hX dX10_readingsFrom_18 ?_
    refine g_cS3 (c2 := 0) (s2 := 0) hX (s_X10_isIn hst) dX10_readingsFrom_19 (by first | exact Nat.le_of_ble_eq_true rfl | simp [cat_rf, Value.category]) ⟨rfl, rfl, by decide, by decide⟩ ?_
    refine ⟨_, _, _, rfl, (by first | assumption | (constructor <;> omega)), (by first | assumption | (constructor <;> omega)), (by first | assumption | (constructor <;> omega)), Kc_i ?_⟩
    refine z_ifb_eq hX dX10_readingsFrom_22 (fun c22 => ?_) (fun c22 => ?_)
    · refine g_const hX dX10_readingsFrom_31 ?_
      refine g_iret hX hR dX10_readingsFrom_33 rfl rfl (by decide) (by decide) ?_
      exact kint hK (by unfold rdF; rw [if_neg c3, if_neg (fun h9 => c22 (by omega))])
    · refine g_const hX dX10_readingsFrom_25 ?_
      refine g_iload hX dX10_readingsFrom_26 rfl ?_
      refine z_imul hX dX10_readingsFrom_27 ?_
      refine g_goto hX dX10_readingsFrom_28 ?_
      refine g_iret hX hR dX10_readingsFrom_33 rfl rfl (by decide) (by decide) ?_
      exact kint hK (by unfold rdF; rw [if_neg c3, if_pos (show inN σ 2 v by constructor <;> omega)])
  · refine g_const hX dX10_readingsFrom_6 ?_
    refine g_goto hX dX10_readingsFrom_8 ?_
    refine g_iret hX hR dX10_readingsFrom_33 rfl rfl (by decide) (by decide) ?_
    exact kint hK (by unfold rdF; rw [if_pos c3])

def sp_X10_ownDay : hS := fun as M sz K => ∃ (b r : Nat) (σ : SG) (th : Int) (P Q : Nat → Int) (i : Nat) (y : Int), as = [.ref r, .int (iZ (i : Int)), .int (iZ y)] ∧ MX b r σ th P Q M ∧ SV σ ∧ (i : Int) < σ 2 0 0 ∧ (1600 ≤ y ∧ y ≤ 2399) ∧ K (.inl (some (.int (iZ (ownF y (σ 32 i 0) (σ 33 i 0)))))) M sz
theorem s_X10_ownDay {l : Launch} {g : hG} (hst : l.stackTraces = false) : Ctr l g mX10_ownDay sp_X10_ownDay := by
  refine Ctr.mk9 hst (by decide) ?_ ?_
  · rintro as M sz K ⟨b, r, σ, th, P, Q, i, y, rfl, hM, hV, hi, hy, hK⟩
    exact ⟨by simp [mX10_ownDay], cat_ok rfl⟩
  rintro X as M sz K hX rfl rfl hR ⟨b, r, σ, th, P, Q, i, y, rfl, hM, hV, hi, hy, hK⟩
  show G X 0 [.ref r, .int (iZ (i : Int)), .int (iZ y), U9] [] M sz 0 0
  obtain ⟨n0, n1, n2, n3, ⟨e0, hn0⟩, ⟨e1, hn1⟩, ⟨e2, hn2⟩, ⟨e3, hn3⟩⟩ := hV.nat
  have ha15 : M (b + 15) = some (.inr (1, 20, .inl (fun i => iZ (σ 34 i 0)))) := hM.2.2 15 (by decide)
  have ha17 : M (b + 17) = some (.inr (0, 20, .inl (fun i => iZ (σ 33 i 0)))) := hM.2.2 17 (by decide)
  have ha16 : M (b + 16) = some (.inr (0, 20, .inl (fun i => iZ (σ 32 i 0)))) := hM.2.2 16 (by decide)
  obtain ⟨⟨hF1, hF2, hF3⟩, h34, h340, h341⟩ := mv_r hV hi
  refine g_aload hX dX10_ownDay_0 rfl rfl ?_
  refine g_get hX dX10_ownDay_1 (by first | assumption | exact hM.2.1) rfl ?_
  refine g_iload hX dX10_ownDay_4 rfl ?_
  refine z_zald hX dX10_ownDay_5 (by first | assumption | exact hM.2.1) (by omega) (by omega) (by decide) rfl ?_
  try simp only [Int.toNat_natCast]
  refine z_if_eq hX dX10_ownDay_6 (by first | assumption | (constructor <;> omega)) (fun c6 => ?_) (fun c6 => ?_)
  · refine g_iload hX dX10_ownDay_34 rfl ?_
    refine g_aload hX dX10_ownDay_35 rfl rfl ?_
    refine g_get hX dX10_ownDay_36 (by first | assumption | exact hM.2.1) rfl ?_
    refine g_iload hX dX10_ownDay_39 rfl ?_
    refine z_iald hX dX10_ownDay_40 (by first | assumption | exact hM.2.1) (by omega) (by omega) (by decide) rfl ?_
    try simp only [Int.toNat_natCast]
    refine g_aload hX dX10_ownDay_41 rfl rfl ?_
    refine g_get hX dX10_ownDay_42 (by first | assumption | exact hM.2.1) rfl ?_
    refine g_iload hX dX10_ownDay_45 rfl ?_
    refine z_iald hX dX10_ownDay_46 (by first | assumption | exact hM.2.1) (by omega) (by omega) (by decide) rfl ?_
    try simp only [Int.toNat_natCast]
    refine g_cS3 (c2 := 0) (s2 := 0) hX (s_X10_isDay hst) dX10_ownDay_47 (by first | exact Nat.le_of_ble_eq_true rfl | simp [cat_rf, Value.category]) ⟨rfl, rfl, by decide, by decide⟩ ?_
    refine ⟨_, _, _, rfl, by constructor <;> omega, by constructor <;> omega, by constructor <;> omega, Kc_i ?_⟩
    have hml := mlen_r y (σ 32 i 0)
    refine z_ifb_eq hX dX10_ownDay_50 (fun c50 => ?_) (fun c50 => ?_)
    · refine g_const hX dX10_ownDay_72 ?_
      refine g_iret hX hR dX10_ownDay_74 rfl rfl (by decide) (by decide) ?_
      exact kint hK (by unfold ownF; rw [if_neg (h340 c6), if_pos (by omega)])
    · refine g_iload hX dX10_ownDay_53 rfl ?_
      refine g_aload hX dX10_ownDay_54 rfl rfl ?_
      refine g_get hX dX10_ownDay_55 (by first | assumption | exact hM.2.1) rfl ?_
      refine g_iload hX dX10_ownDay_58 rfl ?_
      refine z_iald hX dX10_ownDay_59 (by first | assumption | exact hM.2.1) (by omega) (by omega) (by decide) rfl ?_
      try simp only [Int.toNat_natCast]
      refine g_aload hX dX10_ownDay_60 rfl rfl ?_
      refine g_get hX dX10_ownDay_61 (by first | assumption | exact hM.2.1) rfl ?_
      refine g_iload hX dX10_ownDay_64 rfl ?_
      refine z_iald hX dX10_ownDay_65 (by first | assumption | exact hM.2.1) (by omega) (by omega) (by decide) rfl ?_
      try simp only [Int.toNat_natCast]
      refine g_cS3 (c2 := 0) (s2 := 0) hX (s_X10_placeOf hst) dX10_ownDay_66 (by first | exact Nat.le_of_ble_eq_true rfl | simp [cat_rf, Value.category]) ⟨rfl, rfl, by decide, by decide⟩ ?_
      refine ⟨_, _, _, rfl, by omega, by omega, by omega, Kc_i ?_⟩
      refine g_goto hX dX10_ownDay_69 ?_
      refine g_iret hX hR dX10_ownDay_74 rfl rfl (by decide) (by decide) ?_
      exact kint hK (by unfold ownF; rw [if_neg (h340 c6), if_neg (by omega)])
  · refine g_iload hX dX10_ownDay_9 rfl ?_
    refine g_cS1 (c2 := 0) (s2 := 0) hX (s_X10_easterOf hst) dX10_ownDay_10 (by first | exact Nat.le_of_ble_eq_true rfl | simp [cat_rf, Value.category]) ⟨rfl, rfl, by decide, by decide⟩ ?_
    refine ⟨_, rfl, by omega, Kc_i ?_⟩
    have hmd := east_md y
    have hea := east_r y
    refine g_istore hX dX10_ownDay_13 ?_
    dsimp only [List.set]
    refine g_iload hX dX10_ownDay_14 rfl ?_
    refine g_iload hX dX10_ownDay_15 rfl ?_
    refine g_const hX dX10_ownDay_16 ?_
    refine z_idiv hX dX10_ownDay_18 (by first | assumption | (constructor <;> omega)) (by first | assumption | (constructor <;> omega)) (by omega) (by omega) ?_
    refine g_iload hX dX10_ownDay_19 rfl ?_
    refine g_const hX dX10_ownDay_20 ?_
    refine z_irem hX dX10_ownDay_22 (by first | assumption | (constructor <;> omega)) (by first | assumption | (constructor <;> omega)) (by omega) (by omega) ?_
    refine g_cS3 (c2 := 0) (s2 := 0) hX (s_X10_placeOf hst) dX10_ownDay_23 (by first | exact Nat.le_of_ble_eq_true rfl | simp [cat_rf, Value.category]) ⟨rfl, rfl, by decide, by decide⟩ ?_
    refine ⟨_, _, _, rfl, by omega, by omega, by omega, Kc_i ?_⟩
    refine g_aload hX dX10_ownDay_26 rfl rfl ?_
    refine g_get hX dX10_ownDay_27 (by first | assumption | exact hM.2.1) rfl ?_
    refine g_iload hX dX10_ownDay_30 rfl ?_
    refine z_iald hX dX10_ownDay_31 (by first | assumption | exact hM.2.1) (by omega) (by omega) (by decide) rfl ?_
    try simp only [Int.toNat_natCast]
    refine z_iadd hX dX10_ownDay_32 ?_
    refine g_iret hX hR dX10_ownDay_33 rfl rfl (by decide) (by decide) ?_
    exact kint hK (by unfold ownF; rw [pl_east, if_pos (h341 c6)])

def sp_X10_isOpen : hS := fun as M sz K => ∃ (b r : Nat) (σ : SG) (th : Int) (P Q : Nat → Int) (y : Int) (k : Nat) (rk : Int), as = [.ref r, .int (iZ y), .int (iZ (k : Int)), .int (iZ rk)] ∧ MX b r σ th P Q M ∧ SV σ ∧ (1600 ≤ y ∧ y ≤ 2399) ∧ k < 366 ∧ (1 ≤ rk ∧ rk ≤ 9) ∧ (-100 ≤ P k ∧ P k ≤ 20) ∧ K (.inl (some (.int (iZ (bZ (opnZ y (σ 4 0 0) P rk k)))))) M sz
theorem s_X10_isOpen {l : Launch} {g : hG} (hst : l.stackTraces = false) : Ctr l g mX10_isOpen sp_X10_isOpen := by
  refine Ctr.mk9 hst (by decide) ?_ ?_
  · rintro as M sz K ⟨b, r, σ, th, P, Q, y, k, rk, rfl, hM, hV, hy, hk, hrk, hPk, hK⟩
    exact ⟨by simp [mX10_isOpen], cat_ok rfl⟩
  rintro X as M sz K hX rfl rfl hR ⟨b, r, σ, th, P, Q, y, k, rk, rfl, hM, hV, hy, hk, hrk, hPk, hK⟩
  show G X 0 [.ref r, .int (iZ y), .int (iZ (k : Int)), .int (iZ rk)] [] M sz 0 0
  obtain ⟨n0, n1, n2, n3, ⟨e0, hn0⟩, ⟨e1, hn1⟩, ⟨e2, hn2⟩, ⟨e3, hn3⟩⟩ := hV.nat
  have ha19 : M (b + 19) = some (.inr (0, 366, .inl (fun i => iZ (P i)))) := hM.2.2 19 (by decide)
  have hsn := hV.n.2.2.2.2
  refine g_aload hX dX10_isOpen_0 rfl rfl ?_
  refine g_get hX dX10_isOpen_1 (by first | assumption | exact hM.2.1) rfl ?_
  refine g_iload hX dX10_isOpen_4 rfl ?_
  refine z_iald hX dX10_isOpen_5 (by first | assumption | exact hM.2.1) (by omega) (by omega) (by decide) rfl ?_
  try simp only [Int.toNat_natCast]
  refine g_const hX dX10_isOpen_6 ?_
  refine z_icmp_ne hX dX10_isOpen_8 (by first | assumption | (constructor <;> omega)) (by first | assumption | (constructor <;> omega)) (fun c8 => ?_) (fun c8 => ?_)
  · refine g_const hX dX10_isOpen_31 ?_
    refine g_iret hX hR dX10_isOpen_32 rfl (by first | rfl | exact nar_b _ | exact nar_01 (by omega)) (by decide) (by decide) ?_
    exact kint hK (bZ_f (fun h9 => c8 h9.1))
  · refine g_iload hX dX10_isOpen_11 rfl ?_
    refine g_iload hX dX10_isOpen_12 rfl ?_
    refine g_cS2 (c2 := 0) (s2 := 0) hX (s_X10_weekdayOf hst) dX10_isOpen_13 (by first | exact Nat.le_of_ble_eq_true rfl | simp [cat_rf, Value.category]) ⟨rfl, rfl, by decide, by decide⟩ ?_
    refine ⟨_, _, rfl, by omega, by omega, Kc_i ?_⟩
    have hwd := wday_r y (k : Int)
    refine z_if_gt hX dX10_isOpen_16 (by first | assumption | (constructor <;> omega)) (fun c16 => ?_) (fun c16 => ?_)
    · refine g_const hX dX10_isOpen_27 ?_
      refine g_goto hX dX10_isOpen_28 ?_
      refine g_iret hX hR dX10_isOpen_32 rfl (by first | rfl | exact nar_b _ | exact nar_01 (by omega)) (by decide) (by decide) ?_
      exact kint hK (bZ_t ⟨c8, Or.inr (by omega)⟩)
    · refine g_iload hX dX10_isOpen_19 rfl ?_
      refine g_aload hX dX10_isOpen_20 rfl rfl ?_
      refine g_get hX dX10_isOpen_21 (by first | assumption | exact hM.2.1) rfl ?_
      refine z_icmp_lt hX dX10_isOpen_24 (by first | assumption | (constructor <;> omega)) (by first | assumption | (constructor <;> omega)) (fun c24 => ?_) (fun c24 => ?_)
      · refine g_const hX dX10_isOpen_31 ?_
        refine g_iret hX hR dX10_isOpen_32 rfl (by first | rfl | exact nar_b _ | exact nar_01 (by omega)) (by decide) (by decide) ?_
        exact kint hK (bZ_f (fun h9 => h9.2.elim (fun q => by omega) (fun q => q (by omega))))
      · refine g_const hX dX10_isOpen_27 ?_
        refine g_goto hX dX10_isOpen_28 ?_
        refine g_iret hX hR dX10_isOpen_32 rfl (by first | rfl | exact nar_b _ | exact nar_01 (by omega)) (by decide) (by decide) ?_
        exact kint hK (bZ_t ⟨c8, Or.inl (by omega)⟩)

def sp_X10_puts : hS := fun as M sz K => ∃ (b r : Nat) (σ : SG) (th : Int) (P Q : Nat → Int) (i0 : Nat) (y : Int), as = [.ref r, .int (iZ (i0 : Int)), .int (iZ y)] ∧ MX b r σ th P Q M ∧ SV σ ∧ (i0 : Int) < σ 2 0 0 ∧ (1600 ≤ y ∧ y ≤ 2399) ∧ (∀ k : Nat, -100 ≤ P k ∧ P k ≤ 20) ∧ (∀ M' : hM, MX b r σ th (if dZ σ y P i0 = -100 then P else iu P (dZ σ y P i0).toNat (i0 : Int)) (iu Q i0 (dZ σ y P i0)) M' → K (.inl none) M' sz)
theorem s_X10_puts {l : Launch} {g : hG} (hst : l.stackTraces = false) : Ctr l g mX10_puts sp_X10_puts := by
  refine Ctr.mk9 hst (by decide) ?_ ?_
  · rintro as M sz K ⟨b, r, σ, th, P, Q, i0, y, rfl, hM, hV, hi, hy, hPr, hK⟩
    exact ⟨by simp [mX10_puts], cat_ok rfl⟩
  rintro X as M sz K hX rfl rfl hR ⟨b, r, σ, th, P, Q, i0, y, rfl, hM, hV, hi, hy, hPr, hK⟩
  show G X 0 [.ref r, .int (iZ (i0 : Int)), .int (iZ y), U9, U9, U9] [] M sz 0 0
  obtain ⟨n0, n1, n2, n3, ⟨e0, hn0⟩, ⟨e1, hn1⟩, ⟨e2, hn2⟩, ⟨e3, hn3⟩⟩ := hV.nat
  have ha20 : M (b + 20) = some (.inr (0, 20, .inl (fun i => iZ (Q i)))) := hM.2.2 20 (by decide)
  have hrkk := (mv_r hV hi).1.1
  have hpo := (mv_r hV hi).1.2.1
  have hor := own_r (y := y) (mv_r hV hi).1.2.2
  have hn20 := hV.n.2.2.1
  have hyl := ylen_r y
  have loop : ∀ (own last : Int) (M1 : Nat → Option hC), own = ownF y (σ 32 i0 0) (σ 33 i0 0) → own ≠ -100 → last = (if σ 31 i0 0 = 1 then own + 30 else own) → MX b r σ th P (iu Q i0 (-100)) M1 → ∀ (n k : Nat), ((lstZ y (σ 31 i0 0) own + 1 - (k : Int)).toNat = n) → k ≤ 400 → dZ σ y P i0 = fstZ (opnZ y (σ 4 0 0) P (σ 30 i0 0)) k n → G X 44 [.ref r, .int (iZ (i0 : Int)), .int (iZ y), .int (iZ own), .int (iZ last), .int (iZ (k : Int))] [] M1 sz 0 0 := by
    intro own last M1 hown hne hlast hM
    have hl0 : 0 ≤ last ∧ last ≤ 400 := by (rw [hlast]; split <;> omega)
    have hlst : lstZ y (σ 31 i0 0) own = (if last < ylenZ y - 1 then last else ylenZ y - 1) := by rw [hlast]; rfl
    have hlst2 : (last < ylenZ y - 1 ∧ lstZ y (σ 31 i0 0) own = last) ∨ (ylenZ y - 1 ≤ last ∧ lstZ y (σ 31 i0 0) own = ylenZ y - 1) := by (rw [hlst]; split <;> omega)
    have ha14 : M1 (b + 14) = some (.inr (1, 20, .inl (fun i => iZ (σ 31 i 0)))) := hM.2.2 14 (by decide)
    have ha13 : M1 (b + 13) = some (.inr (0, 20, .inl (fun i => iZ (σ 30 i 0)))) := hM.2.2 13 (by decide)
    have ha19 : M1 (b + 19) = some (.inr (0, 366, .inl (fun i => iZ (P i)))) := hM.2.2 19 (by decide)
    have ha20 : M1 (b + 20) = some (.inr (0, 20, .inl (fun i => iZ (iu Q i0 (-100) i)))) := hM.2.2 20 (by decide)
    intro n
    induction n with
    | zero =>
      intro k hk hk4 hD
      have hD : dZ σ y P i0 = -100 := hD
      refine g_iload hX dX10_puts_44 rfl ?_
      refine g_iload hX dX10_puts_46 rfl ?_
      refine z_icmp_gt hX dX10_puts_48 (by first | assumption | (constructor <;> omega)) (by first | assumption | (constructor <;> omega)) (fun c48 => ?_) (fun c48 => ?_)
      · refine g_vret hX hR dX10_puts_109 rfl (by decide) (by decide) ?_
        exact hK M1 (by rw [hD, if_pos rfl]; exact hM)
      · refine g_iload hX dX10_puts_51 rfl ?_
        refine g_iload hX dX10_puts_53 rfl ?_
        refine g_cS1 (c2 := 0) (s2 := 0) hX (s_X10_lengthOf hst) dX10_puts_54 (by first | exact Nat.le_of_ble_eq_true rfl | simp [cat_rf, Value.category]) ⟨rfl, rfl, by decide, by decide⟩ ?_
        refine ⟨_, rfl, by omega, Kc_i ?_⟩
        refine z_icmp_ge hX dX10_puts_57 (by first | assumption | (constructor <;> omega)) (by first | assumption | (constructor <;> omega)) (fun c57 => ?_) (fun c57 => ?_)
        · refine g_vret hX hR dX10_puts_109 rfl (by decide) (by decide) ?_
          exact hK M1 (by rw [hD, if_pos rfl]; exact hM)
        · exfalso; omega
    | succ n ih =>
      intro k hk hk4 hD
      refine g_iload hX dX10_puts_44 rfl ?_
      refine g_iload hX dX10_puts_46 rfl ?_
      refine z_icmp_gt hX dX10_puts_48 (by first | assumption | (constructor <;> omega)) (by first | assumption | (constructor <;> omega)) (fun c48 => ?_) (fun c48 => ?_)
      · refine g_vret hX hR dX10_puts_109 rfl (by decide) (by decide) ?_
        exfalso; omega
      · refine g_iload hX dX10_puts_51 rfl ?_
        refine g_iload hX dX10_puts_53 rfl ?_
        refine g_cS1 (c2 := 0) (s2 := 0) hX (s_X10_lengthOf hst) dX10_puts_54 (by first | exact Nat.le_of_ble_eq_true rfl | simp [cat_rf, Value.category]) ⟨rfl, rfl, by decide, by decide⟩ ?_
        refine ⟨_, rfl, by omega, Kc_i ?_⟩
        refine z_icmp_ge hX dX10_puts_57 (by first | assumption | (constructor <;> omega)) (by first | assumption | (constructor <;> omega)) (fun c57 => ?_) (fun c57 => ?_)
        · refine g_vret hX hR dX10_puts_109 rfl (by decide) (by decide) ?_
          exfalso; omega
        · refine g_aload hX dX10_puts_60 rfl rfl ?_
          refine g_get hX dX10_puts_61 (by first | assumption | exact hM.2.1) rfl ?_
          refine g_iload hX dX10_puts_64 rfl ?_
          refine z_iald (b := -100) hX dX10_puts_65 ha20 (by omega) (by omega) (by decide) (by show iZ (iu Q i0 (-100) ((i0 : Int)).toNat) = iZ (-100); rw [Int.toNat_natCast, iu_s]) ?_
          try simp only [Int.toNat_natCast]
          refine g_const hX dX10_puts_66 ?_
          refine z_icmp_ne hX dX10_puts_68 (by first | assumption | (constructor <;> omega)) (by first | assumption | (constructor <;> omega)) (fun c68 => ?_) (fun c68 => ?_)
          · refine g_vret hX hR dX10_puts_109 rfl (by decide) (by decide) ?_
            exfalso; omega
          · refine g_aload hX dX10_puts_71 rfl rfl ?_
            refine g_iload hX dX10_puts_72 rfl ?_
            refine g_iload hX dX10_puts_73 rfl ?_
            refine g_aload hX dX10_puts_75 rfl rfl ?_
            refine g_get hX dX10_puts_76 (by first | assumption | exact hM.2.1) rfl ?_
            refine g_iload hX dX10_puts_79 rfl ?_
            refine z_iald hX dX10_puts_80 (by first | assumption | exact hM.2.1) (by omega) (by omega) (by decide) rfl ?_
            try simp only [Int.toNat_natCast]
            refine g_cV3 (c2 := 0) (s2 := 0) hX (s_X10_isOpen hst) dX10_puts_81 (by first | assumption | exact hM.2.1) (by first | exact Nat.le_of_ble_eq_true rfl | simp [cat_rf, Value.category]) ⟨rfl, rfl, by decide, by decide⟩ ?_
            refine ⟨_, _, _, _, _, _, y, k, _, rfl, hM, hV, hy, by omega, hrkk, hPr k, Kc_i ?_⟩
            refine z_ifb_eq hX dX10_puts_84 (fun c84 => ?_) (fun c84 => ?_)
            · refine z_iinc hX dX10_puts_103 rfl ?_
              dsimp only [List.set]
              refine g_goto hX dX10_puts_106 ?_
              refine g_eqL (lv' := [.ref r, .int (iZ (i0 : Int)), .int (iZ y), .int (iZ own), .int (iZ last), .int (iZ ((k + 1 : Nat) : Int))]) rfl rfl ?_
              exact ih (k + 1) (by omega) (by omega) (hD.trans (fst_n _ _ _ c84))
            · refine g_aload hX dX10_puts_87 rfl rfl ?_
              refine g_get hX dX10_puts_88 (by first | assumption | exact hM.2.1) rfl ?_
              refine g_iload hX dX10_puts_91 rfl ?_
              refine g_iload hX dX10_puts_92 rfl ?_
              refine o_iast hX dX10_puts_94 ha20 (by omega) (by omega) (by decide) (fun M2 hs2 hn2 => ?_)
              simp only [Int.toNat_natCast] at hs2
              have hM := mx_qst hM hs2 hn2
              rw [iu_iu] at hM
              have ha19 : M2 (b + 19) = some (.inr (0, 366, .inl (fun i => iZ (P i)))) := hM.2.2 19 (by decide)
              refine g_aload hX dX10_puts_95 rfl rfl ?_
              refine g_get hX dX10_puts_96 (by first | assumption | exact hM.2.1) rfl ?_
              refine g_iload hX dX10_puts_99 rfl ?_
              refine g_iload hX dX10_puts_101 rfl ?_
              refine o_iast hX dX10_puts_102 ha19 (by omega) (by omega) (by decide) (fun M3 hs3 hn3 => ?_)
              simp only [Int.toNat_natCast] at hs3
              have hM := mx_pst hM hs3 hn3
              have ha20 : M3 (b + 20) = some (.inr (0, 20, .inl (fun i => iZ (iu Q i0 (k : Int) i)))) := hM.2.2 20 (by decide)
              have hDk : dZ σ y P i0 = (k : Int) := hD.trans (fst_s _ _ _ c84)
              refine z_iinc hX dX10_puts_103 rfl ?_
              dsimp only [List.set]
              refine g_goto hX dX10_puts_106 ?_
              refine g_iload hX dX10_puts_44 rfl ?_
              refine g_iload hX dX10_puts_46 rfl ?_
              refine z_icmp_gt hX dX10_puts_48 (by first | assumption | (constructor <;> omega)) (by first | assumption | (constructor <;> omega)) (fun c48 => ?_) (fun c48 => ?_)
              · refine g_vret hX hR dX10_puts_109 rfl (by decide) (by decide) ?_
                exact hK M3 (by rw [hDk, if_neg (by omega), Int.toNat_natCast]; exact hM)
              · refine g_iload hX dX10_puts_51 rfl ?_
                refine g_iload hX dX10_puts_53 rfl ?_
                refine g_cS1 (c2 := 0) (s2 := 0) hX (s_X10_lengthOf hst) dX10_puts_54 (by first | exact Nat.le_of_ble_eq_true rfl | simp [cat_rf, Value.category]) ⟨rfl, rfl, by decide, by decide⟩ ?_
                refine ⟨_, rfl, by omega, Kc_i ?_⟩
                refine z_icmp_ge hX dX10_puts_57 (by first | assumption | (constructor <;> omega)) (by first | assumption | (constructor <;> omega)) (fun c57 => ?_) (fun c57 => ?_)
                · refine g_vret hX hR dX10_puts_109 rfl (by decide) (by decide) ?_
                  exact hK M3 (by rw [hDk, if_neg (by omega), Int.toNat_natCast]; exact hM)
                · refine g_aload hX dX10_puts_60 rfl rfl ?_
                  refine g_get hX dX10_puts_61 (by first | assumption | exact hM.2.1) rfl ?_
                  refine g_iload hX dX10_puts_64 rfl ?_
                  refine z_iald (b := (k : Int)) hX dX10_puts_65 ha20 (by omega) (by omega) (by decide) (by show iZ (iu Q i0 (k : Int) ((i0 : Int)).toNat) = iZ (k : Int); rw [Int.toNat_natCast, iu_s]) ?_
                  try simp only [Int.toNat_natCast]
                  refine g_const hX dX10_puts_66 ?_
                  refine z_icmp_ne hX dX10_puts_68 (by first | assumption | (constructor <;> omega)) (by first | assumption | (constructor <;> omega)) (fun c68 => ?_) (fun c68 => ?_)
                  · refine g_vret hX hR dX10_puts_109 rfl (by decide) (by decide) ?_
                    exact hK M3 (by rw [hDk, if_neg (by omega), Int.toNat_natCast]; exact hM)
                  · exfalso; omega
  refine g_aload hX dX10_puts_0 rfl rfl ?_
  refine g_iload hX dX10_puts_1 rfl ?_
  refine g_iload hX dX10_puts_2 rfl ?_
  refine g_cV2 (c2 := 0) (s2 := 0) hX (s_X10_ownDay hst) dX10_puts_3 (by first | assumption | exact hM.2.1) (by first | exact Nat.le_of_ble_eq_true rfl | simp [cat_rf, Value.category]) ⟨rfl, rfl, by decide, by decide⟩ ?_
  refine ⟨_, _, _, _, _, _, i0, y, rfl, hM, hV, hi, hy, Kc_i ?_⟩
  obtain ⟨own9, hown9⟩ : ∃ z : Int, z = ownF y (σ 32 i0 0) (σ 33 i0 0) := ⟨_, rfl⟩
  rw [← hown9] at hor ⊢
  refine g_istore hX dX10_puts_6 ?_
  dsimp only [List.set]
  refine g_aload hX dX10_puts_7 rfl rfl ?_
  refine g_get hX dX10_puts_8 (by first | assumption | exact hM.2.1) rfl ?_
  refine g_iload hX dX10_puts_11 rfl ?_
  refine g_const hX dX10_puts_12 ?_
  refine o_iast hX dX10_puts_14 ha20 (by omega) (by omega) (by decide) (fun M1 hs1 hn1 => ?_)
  simp only [Int.toNat_natCast] at hs1
  have hM := mx_qst hM hs1 hn1
  have ha14 : M1 (b + 14) = some (.inr (1, 20, .inl (fun i => iZ (σ 31 i 0)))) := hM.2.2 14 (by decide)
  have ha13 : M1 (b + 13) = some (.inr (0, 20, .inl (fun i => iZ (σ 30 i 0)))) := hM.2.2 13 (by decide)
  have ha19 : M1 (b + 19) = some (.inr (0, 366, .inl (fun i => iZ (P i)))) := hM.2.2 19 (by decide)
  have ha20 : M1 (b + 20) = some (.inr (0, 20, .inl (fun i => iZ (iu Q i0 (-100) i)))) := hM.2.2 20 (by decide)
  refine g_iload hX dX10_puts_15 rfl ?_
  refine g_const hX dX10_puts_16 ?_
  refine z_icmp_ne hX dX10_puts_18 (by first | assumption | (constructor <;> omega)) (by first | assumption | (constructor <;> omega)) (fun c18 => ?_) (fun c18 => ?_)
  · refine g_aload hX dX10_puts_22 rfl rfl ?_
    refine g_get hX dX10_puts_23 (by first | assumption | exact hM.2.1) rfl ?_
    refine g_iload hX dX10_puts_26 rfl ?_
    refine z_zald hX dX10_puts_27 (by first | assumption | exact hM.2.1) (by omega) (by omega) (by decide) rfl ?_
    try simp only [Int.toNat_natCast]
    refine z_if_eq hX dX10_puts_28 (by first | assumption | (constructor <;> omega)) (fun c28 => ?_) (fun c28 => ?_)
    · refine g_iload hX dX10_puts_38 rfl ?_
      refine g_istore hX dX10_puts_39 ?_
      dsimp only [List.set]
      refine g_iload hX dX10_puts_41 rfl ?_
      refine g_istore hX dX10_puts_42 ?_
      dsimp only [List.set]
      have hnat : own9 = ((own9.toNat : Nat) : Int) := by omega
      have h9 := loop own9 own9 M1 hown9 c18 (by rw [if_neg (by omega)]) hM _ own9.toNat rfl (by omega) (by unfold dZ dayZ; rw [← hown9, if_neg c18, ← hnat])
      rw [← hnat] at h9
      exact h9
    · refine g_iload hX dX10_puts_31 rfl ?_
      refine g_const hX dX10_puts_32 ?_
      refine z_iadd hX dX10_puts_34 ?_
      refine g_goto hX dX10_puts_35 ?_
      refine g_istore hX dX10_puts_39 ?_
      dsimp only [List.set]
      refine g_iload hX dX10_puts_41 rfl ?_
      refine g_istore hX dX10_puts_42 ?_
      dsimp only [List.set]
      have hnat : own9 = ((own9.toNat : Nat) : Int) := by omega
      have h9 := loop own9 (own9 + 30) M1 hown9 c18 (by rw [if_pos (by omega)]) hM _ own9.toNat rfl (by omega) (by unfold dZ dayZ; rw [← hown9, if_neg c18, ← hnat])
      rw [← hnat] at h9
      exact h9
  · refine g_vret hX hR dX10_puts_21 rfl (by decide) (by decide) ?_
    have hd9 : dZ σ y P i0 = -100 := by unfold dZ dayZ; rw [← hown9, if_pos c18]
    exact hK M1 (by rw [hd9, if_pos rfl]; exact hM)

def sp_X10_laysYear : hS := fun as M sz K => ∃ (b r : Nat) (σ : SG) (th : Int) (P Q : Nat → Int) (y : Int), as = [.ref r, .int (iZ y)] ∧ MX b r σ th P Q M ∧ SV σ ∧ (1600 ≤ y ∧ y ≤ 2399) ∧ (∀ (Q' : Nat → Int) (M' : hM), MX b r σ th (layZ σ y).1 Q' M' → (∀ k : Nat, (k : Int) < σ 2 0 0 → Q' k = (layZ σ y).2 k) → K (.inl none) M' sz)
theorem s_X10_laysYear {l : Launch} {g : hG} (hst : l.stackTraces = false) : Ctr l g mX10_laysYear sp_X10_laysYear := by
  refine Ctr.mk9 hst (by decide) ?_ ?_
  · rintro as M sz K ⟨b, r, σ, th, P, Q, y, rfl, hM, hV, hy, hK⟩
    exact ⟨by simp [mX10_laysYear], cat_ok rfl⟩
  rintro X as M sz K hX rfl rfl hR ⟨b, r, σ, th, P, Q, y, rfl, hM, hV, hy, hK⟩
  show G X 0 [.ref r, .int (iZ y), U9, U9] [] M sz 0 0
  obtain ⟨n0, n1, n2, n3, ⟨e0, hn0⟩, ⟨e1, hn1⟩, ⟨e2, hn2⟩, ⟨e3, hn3⟩⟩ := hV.nat
  have hFA := hV.FA
  obtain ⟨n, hn9⟩ : ∃ n : Nat, n = (σ 2 0 0).toNat := ⟨_, rfl⟩
  rw [← hn9] at hFA
  have hnn : (n : Int) = σ 2 0 0 := by omega
  have hlay : layZ σ y = lyR (FF σ) y (σ 4 0 0) n 9 := by rw [hn9]; rfl
  rw [hlay] at hK
  have inner : ∀ t : Nat, t < 9 → (∀ (M1 : Nat → Option hC) (P1 Q1 : Nat → Int), MX b r σ th P1 Q1 M1 → P1 = (lyJ (FF σ) y (σ 4 0 0) (9 - (t : Int)) n (lyR (FF σ) y (σ 4 0 0) n t)).1 → (∀ k : Nat, k < n → (9 - (t : Int) < σ 30 k 0 ∨ (σ 30 k 0 = 9 - (t : Int) ∧ k < n)) → Q1 k = (lyJ (FF σ) y (σ 4 0 0) (9 - (t : Int)) n (lyR (FF σ) y (σ 4 0 0) n t)).2 k) → G X 62 [.ref r, .int (iZ y), .int (iZ (9 - (t : Int))), .int (iZ (n : Int))] [] M1 sz 0 0) → ∀ (k9 j : Nat), j + k9 = n → ∀ (M1 : Nat → Option hC) (P1 Q1 : Nat → Int), MX b r σ th P1 Q1 M1 → P1 = (lyJ (FF σ) y (σ 4 0 0) (9 - (t : Int)) j (lyR (FF σ) y (σ 4 0 0) n t)).1 → (∀ k : Nat, k < n → (9 - (t : Int) < σ 30 k 0 ∨ (σ 30 k 0 = 9 - (t : Int) ∧ k < j)) → Q1 k = (lyJ (FF σ) y (σ 4 0 0) (9 - (t : Int)) j (lyR (FF σ) y (σ 4 0 0) n t)).2 k) → G X 32 [.ref r, .int (iZ y), .int (iZ (9 - (t : Int))), .int (iZ (j : Int))] [] M1 sz 0 0 := by
    intro t ht hend k9
    induction k9 with
    | zero =>
      intro j hj M1 P1 Q1 hM1 hP1 hQ1
      refine g_iload hX dX10_laysYear_32 rfl ?_
      refine g_aload hX dX10_laysYear_33 rfl rfl ?_
      refine g_get hX dX10_laysYear_34 (by first | assumption | exact hM1.2.1) rfl ?_
      refine z_icmp_ge hX dX10_laysYear_37 (by first | assumption | (constructor <;> omega)) (by first | assumption | (constructor <;> omega)) (fun c37 => ?_) (fun c37 => ?_)
      · obtain rfl : j = n := by omega
        exact hend M1 P1 Q1 hM1 hP1 hQ1
      · exfalso; omega
    | succ k9 ih =>
      intro j hj M1 P1 Q1 hM1 hP1 hQ1
      have ha13 : M1 (b + 13) = some (.inr (0, 20, .inl (fun i => iZ (σ 30 i 0)))) := hM1.2.2 13 (by decide)
      have hFj := (hV.f.1 j (by omega)).1.1
      have hLR1 : LR (lyJ (FF σ) y (σ 4 0 0) (9 - (t : Int)) j (lyR (FF σ) y (σ 4 0 0) n t)) := LR_lyJ hFA (LR_lyR hFA t) j (by omega)
      refine g_iload hX dX10_laysYear_32 rfl ?_
      refine g_aload hX dX10_laysYear_33 rfl rfl ?_
      refine g_get hX dX10_laysYear_34 (by first | assumption | exact hM1.2.1) rfl ?_
      refine z_icmp_ge hX dX10_laysYear_37 (by first | assumption | (constructor <;> omega)) (by first | assumption | (constructor <;> omega)) (fun c37 => ?_) (fun c37 => ?_)
      · exfalso; omega
      · refine g_aload hX dX10_laysYear_40 rfl rfl ?_
        refine g_get hX dX10_laysYear_41 (by first | assumption | exact hM1.2.1) rfl ?_
        refine g_iload hX dX10_laysYear_44 rfl ?_
        refine z_iald hX dX10_laysYear_45 (by first | assumption | exact hM1.2.1) (by omega) (by omega) (by decide) rfl ?_
        try simp only [Int.toNat_natCast]
        refine g_iload hX dX10_laysYear_46 rfl ?_
        refine z_icmp_ne hX dX10_laysYear_47 (by first | assumption | (constructor <;> omega)) (by first | assumption | (constructor <;> omega)) (fun c47 => ?_) (fun c47 => ?_)
        · refine z_iinc hX dX10_laysYear_56 rfl ?_
          dsimp only [List.set]
          refine g_goto hX dX10_laysYear_59 ?_
          refine ih (j + 1) (by omega) M1 P1 Q1 hM1 ?_ ?_
          · rw [hP1, lyJ_s, if_neg (show ¬ FF σ 0 j = 9 - (t : Int) by show ¬ σ 30 j 0 = _; omega)]
          · intro k hk1 hk2
            rw [lyJ_s, if_neg (show ¬ FF σ 0 j = 9 - (t : Int) by show ¬ σ 30 j 0 = _; omega)]
            exact hQ1 k hk1 (by
              rcases hk2 with h9 | h9
              · exact Or.inl h9
              · by_cases e9 : k = j
                · exfalso; rw [e9] at h9; omega
                · exact Or.inr ⟨h9.1, by omega⟩)
        · refine g_aload hX dX10_laysYear_50 rfl rfl ?_
          refine g_iload hX dX10_laysYear_51 rfl ?_
          refine g_iload hX dX10_laysYear_52 rfl ?_
          refine g_cV2 (c2 := 0) (s2 := 0) hX (s_X10_puts hst) dX10_laysYear_53 (by first | assumption | exact hM1.2.1) (by first | exact Nat.le_of_ble_eq_true rfl | simp [cat_rf, Value.category]) ⟨rfl, rfl, by decide, by decide⟩ ?_
          refine ⟨_, _, _, _, _, _, j, y, rfl, hM1, hV, by omega, hy, fun k => by rw [hP1]; exact (hLR1 k).1, fun M2 hM2 => Kc_v ?_⟩
          refine z_iinc hX dX10_laysYear_56 rfl ?_
          dsimp only [List.set]
          refine g_goto hX dX10_laysYear_59 ?_
          have hS9 : lyJ (FF σ) y (σ 4 0 0) (9 - (t : Int)) (j + 1) (lyR (FF σ) y (σ 4 0 0) n t) = lyS y (σ 4 0 0) (σ 30 j 0) (σ 31 j 0) (σ 32 j 0) (σ 33 j 0) j (lyJ (FF σ) y (σ 4 0 0) (9 - (t : Int)) j (lyR (FF σ) y (σ 4 0 0) n t)) := by rw [lyJ_s, if_pos (show FF σ 0 j = 9 - (t : Int) by show σ 30 j 0 = _; omega)]; rfl
          refine ih (j + 1) (by omega) M2 _ _ hM2 ?_ ?_
          · rw [hS9, hP1]
            rfl
          · intro k hk1 hk2
            rw [hS9, hP1]
            by_cases e9 : k = j
            · rw [e9, iu_s]
              exact (iu_s _ _ _).symm
            · rw [iu_n _ _ e9]
              refine (hQ1 k hk1 (by omega)).trans ?_
              exact (iu_n _ _ e9).symm
  have outer : ∀ (k9 t : Nat) (v : Value), t + k9 = 9 → ∀ (M1 : Nat → Option hC) (P1 Q1 : Nat → Int), MX b r σ th P1 Q1 M1 → P1 = (lyR (FF σ) y (σ 4 0 0) n t).1 → (∀ k : Nat, k < n → 9 - (t : Int) < σ 30 k 0 → Q1 k = (lyR (FF σ) y (σ 4 0 0) n t).2 k) → G X 26 [.ref r, .int (iZ y), .int (iZ (9 - (t : Int))), v] [] M1 sz 0 0 := by
    intro k9
    induction k9 with
    | zero =>
      intro t v ht M1 P1 Q1 hM1 hP1 hQ1
      refine g_iload hX dX10_laysYear_26 rfl ?_
      refine z_if_le hX dX10_laysYear_27 (by first | assumption | (constructor <;> omega)) (fun c27 => ?_) (fun c27 => ?_)
      · refine g_vret hX hR dX10_laysYear_68 rfl (by decide) (by decide) ?_
        obtain rfl : t = 9 := by omega
        refine hK Q1 M1 (hP1 ▸ hM1) (fun k hk => hQ1 k (by omega) (by have := (hV.f.1 k hk).1.1; omega))
      · exfalso; omega
    | succ k9 ih =>
      intro t v ht M1 P1 Q1 hM1 hP1 hQ1
      refine g_iload hX dX10_laysYear_26 rfl ?_
      refine z_if_le hX dX10_laysYear_27 (by first | assumption | (constructor <;> omega)) (fun c27 => ?_) (fun c27 => ?_)
      · exfalso; omega
      · refine g_const hX dX10_laysYear_30 ?_
        refine g_istore hX dX10_laysYear_31 ?_
        dsimp only [List.set]
        refine inner t (by omega) (fun M2 P2 Q2 hM2 hP2 hQ2 => ?_) n 0 (by omega) M1 P1 Q1 hM1 hP1 (fun k hk1 hk2 => hQ1 k hk1 (by omega))
        refine z_iinc hX dX10_laysYear_62 rfl ?_
        dsimp only [List.set]
        refine g_goto hX dX10_laysYear_65 ?_
        refine g_eqL (lv' := [.ref r, .int (iZ y), .int (iZ (9 - ((t + 1 : Nat) : Int))), .int (iZ (n : Int))]) (by rw [show (9 : Int) - (t : Int) + -1 = 9 - ((t + 1 : Nat) : Int) by omega]) rfl ?_
        exact ih (t + 1) (.int (iZ (n : Int))) (by omega) M2 P2 Q2 hM2 hP2 (fun k hk1 hk2 => hQ2 k hk1 (by omega))
  have clear : ∀ (k9 k : Nat), k + k9 = 366 → ∀ (M1 : Nat → Option hC) (P1 : Nat → Int), MX b r σ th P1 Q M1 → (∀ q : Nat, q < k → P1 q = -100) → G X 2 [.ref r, .int (iZ y), .int (iZ (k : Int)), U9] [] M1 sz 0 0 := by
    intro k9
    induction k9 with
    | zero =>
      intro k hk M1 P1 hM1 hP1
      refine g_iload hX dX10_laysYear_2 rfl ?_
      refine g_const hX dX10_laysYear_3 ?_
      refine z_icmp_ge hX dX10_laysYear_6 (by first | assumption | (constructor <;> omega)) (by first | assumption | (constructor <;> omega)) (fun c6 => ?_) (fun c6 => ?_)
      · refine g_const hX dX10_laysYear_23 ?_
        refine g_istore hX dX10_laysYear_25 ?_
        dsimp only [List.set]
        refine g_ext (hM1.2.2 19 (by decide)) (f' := fun _ => iZ (-100)) (fun q hq => by show iZ (P1 q) = iZ (-100); rw [hP1 q (by omega)]) ?_
        exact outer 9 0 _ (by omega) _ (fun _ => -100) Q (mx_pex hM1 (hup_s _ _ _) (fun q h9 => hup_n _ _ h9)) rfl (fun k hk1 hk2 => by have := hFA.2 k hk1; have h9 := this.1; exfalso; have h8 : FF σ 0 k = σ 30 k 0 := rfl; omega)
      · exfalso; omega
    | succ k9 ih =>
      intro k hk M1 P1 hM1 hP1
      have ha19 : M1 (b + 19) = some (.inr (0, 366, .inl (fun i => iZ (P1 i)))) := hM1.2.2 19 (by decide)
      refine g_iload hX dX10_laysYear_2 rfl ?_
      refine g_const hX dX10_laysYear_3 ?_
      refine z_icmp_ge hX dX10_laysYear_6 (by first | assumption | (constructor <;> omega)) (by first | assumption | (constructor <;> omega)) (fun c6 => ?_) (fun c6 => ?_)
      · exfalso; omega
      · refine g_aload hX dX10_laysYear_9 rfl rfl ?_
        refine g_get hX dX10_laysYear_10 (by first | assumption | exact hM1.2.1) rfl ?_
        refine g_iload hX dX10_laysYear_13 rfl ?_
        refine g_const hX dX10_laysYear_14 ?_
        refine o_iast hX dX10_laysYear_16 ha19 (by omega) (by omega) (by decide) (fun M2 hs2 hn2 => ?_)
        simp only [Int.toNat_natCast] at hs2
        have hM2 := mx_pst hM1 hs2 hn2
        refine z_iinc hX dX10_laysYear_17 rfl ?_
        dsimp only [List.set]
        refine g_goto hX dX10_laysYear_20 ?_
        refine g_eqL (lv' := [.ref r, .int (iZ y), .int (iZ ((k + 1 : Nat) : Int)), U9]) rfl rfl ?_
        exact ih (k + 1) (by omega) M2 _ hM2 (fun q hq => by
          by_cases e9 : q = k
          · rw [e9, iu_s]
          · rw [iu_n _ _ e9]; exact hP1 q (by omega))
  refine g_const hX dX10_laysYear_0 ?_
  refine g_istore hX dX10_laysYear_1 ?_
  dsimp only [List.set]
  exact clear 366 0 (by omega) M P hM (fun q hq => absurd hq (Nat.not_lt_zero q))

def sp_X10_keptOn : hS := fun as M sz K => ∃ (b r : Nat) (σ : SG) (th : Int) (P Q : Nat → Int) (y : Int) (p : Nat), as = [.ref r, .int (iZ y), .int (iZ (p : Int))] ∧ MX b r σ th P Q M ∧ SV σ ∧ (1600 ≤ y ∧ y ≤ 2399) ∧ p < 366 ∧ (∀ (P' Q' : Nat → Int) (M' : hM), MX b r σ th P' Q' M' → K (.inl (some (.int (iZ (keptZ σ y p))))) M' sz)
theorem s_X10_keptOn {l : Launch} {g : hG} (hst : l.stackTraces = false) : Ctr l g mX10_keptOn sp_X10_keptOn := by
  refine Ctr.mk9 hst (by decide) ?_ ?_
  · rintro as M sz K ⟨b, r, σ, th, P, Q, y, p, rfl, hM, hV, hy, hp, hK⟩
    exact ⟨by simp [mX10_keptOn], cat_ok rfl⟩
  rintro X as M sz K hX rfl rfl hR ⟨b, r, σ, th, P, Q, y, p, rfl, hM, hV, hy, hp, hK⟩
  show G X 0 [.ref r, .int (iZ y), .int (iZ (p : Int))] [] M sz 0 0
  obtain ⟨n0, n1, n2, n3, ⟨e0, hn0⟩, ⟨e1, hn1⟩, ⟨e2, hn2⟩, ⟨e3, hn3⟩⟩ := hV.nat
  have ha19 : M (b + 19) = some (.inr (0, 366, .inl (fun i => iZ (P i)))) := hM.2.2 19 (by decide)
  refine g_aload hX dX10_keptOn_0 rfl rfl ?_
  refine g_iload hX dX10_keptOn_1 rfl ?_
  refine g_cV1 (c2 := 0) (s2 := 0) hX (s_X10_laysYear hst) dX10_keptOn_2 (by first | assumption | exact hM.2.1) (by first | exact Nat.le_of_ble_eq_true rfl | simp [cat_rf, Value.category]) ⟨rfl, rfl, by decide, by decide⟩ ?_
  refine ⟨_, _, _, _, _, _, y, rfl, hM, hV, hy, fun Q1 M1 hM hQ1 => Kc_v ?_⟩
  have hLR := hV.LR y
  have hLp := (hLR p).1
  have ha19 : M1 (b + 19) = some (.inr (0, 366, .inl (fun i => iZ ((layZ σ y).1 i)))) := hM.2.2 19 (by decide)
  refine g_aload hX dX10_keptOn_5 rfl rfl ?_
  refine g_get hX dX10_keptOn_6 (by first | assumption | exact hM.2.1) rfl ?_
  refine g_iload hX dX10_keptOn_9 rfl ?_
  refine z_iald hX dX10_keptOn_10 (by first | assumption | exact hM.2.1) (by omega) (by omega) (by decide) rfl ?_
  try simp only [Int.toNat_natCast]
  refine g_const hX dX10_keptOn_11 ?_
  refine z_icmp_eq hX dX10_keptOn_13 (by first | assumption | (constructor <;> omega)) (by first | assumption | (constructor <;> omega)) (fun c13 => ?_) (fun c13 => ?_)
  · refine g_iload hX dX10_keptOn_25 rfl ?_
    refine g_iload hX dX10_keptOn_26 rfl ?_
    refine g_cS2 (c2 := 0) (s2 := 0) hX (s_X10_weekdayOf hst) dX10_keptOn_27 (by first | exact Nat.le_of_ble_eq_true rfl | simp [cat_rf, Value.category]) ⟨rfl, rfl, by decide, by decide⟩ ?_
    refine ⟨_, _, rfl, hy, by omega, Kc_i ?_⟩
    have hwd := wday_r y (p : Int)
    refine z_if_ne hX dX10_keptOn_30 (by first | assumption | (constructor <;> omega)) (fun c30 => ?_) (fun c30 => ?_)
    · refine g_const hX dX10_keptOn_38 ?_
      refine g_iret hX hR dX10_keptOn_40 rfl rfl (by decide) (by decide) ?_
      exact kint (hK _ _ _ hM) (by unfold keptZ keptS; rw [if_neg (fun h9 => c30 h9.2)]; exact c13)
    · refine g_const hX dX10_keptOn_33 ?_
      refine g_goto hX dX10_keptOn_35 ?_
      refine g_iret hX hR dX10_keptOn_40 rfl rfl (by decide) (by decide) ?_
      exact kint (hK _ _ _ hM) (by unfold keptZ keptS; rw [if_pos ⟨c13, c30⟩])
  · refine g_aload hX dX10_keptOn_16 rfl rfl ?_
    refine g_get hX dX10_keptOn_17 (by first | assumption | exact hM.2.1) rfl ?_
    refine g_iload hX dX10_keptOn_20 rfl ?_
    refine z_iald hX dX10_keptOn_21 (by first | assumption | exact hM.2.1) (by omega) (by omega) (by decide) rfl ?_
    try simp only [Int.toNat_natCast]
    refine g_goto hX dX10_keptOn_22 ?_
    refine g_iret hX hR dX10_keptOn_40 rfl rfl (by decide) (by decide) ?_
    exact kint (hK _ _ _ hM) (by unfold keptZ keptS; rw [if_neg (fun h9 => c13 h9.1)])

def sp_X10_themeOn : hS := fun as M sz K => ∃ (b r : Nat) (σ : SG) (th : Int) (P Q : Nat → Int) (y : Int) (p : Nat), as = [.ref r, .int (iZ y), .int (iZ (p : Int))] ∧ MX b r σ th P Q M ∧ SV σ ∧ (1600 ≤ y ∧ y ≤ 2399) ∧ p < 366 ∧ (∀ (P' Q' : Nat → Int) (M' : hM), MX b r σ th P' Q' M' → K (.inl (some (.int (iZ (thZ σ y p))))) M' sz)
theorem s_X10_themeOn {l : Launch} {g : hG} (hst : l.stackTraces = false) : Ctr l g mX10_themeOn sp_X10_themeOn := by
  refine Ctr.mk9 hst (by decide) ?_ ?_
  · rintro as M sz K ⟨b, r, σ, th, P, Q, y, p, rfl, hM, hV, hy, hp, hK⟩
    exact ⟨by simp [mX10_themeOn], cat_ok rfl⟩
  rintro X as M sz K hX rfl rfl hR ⟨b, r, σ, th, P, Q, y, p, rfl, hM, hV, hy, hp, hK⟩
  show G X 0 [.ref r, .int (iZ y), .int (iZ (p : Int)), U9] [] M sz 0 0
  obtain ⟨n0, n1, n2, n3, ⟨e0, hn0⟩, ⟨e1, hn1⟩, ⟨e2, hn2⟩, ⟨e3, hn3⟩⟩ := hV.nat
  have ha18 : M (b + 18) = some (.inr (0, 63, .inl (fun i => iZ (σ 35 (i / 3) (i % 3))))) := hM.2.2 18 (by decide)
  refine g_aload hX dX10_themeOn_0 rfl rfl ?_
  refine g_iload hX dX10_themeOn_1 rfl ?_
  refine g_iload hX dX10_themeOn_2 rfl ?_
  refine g_cV2 (c2 := 0) (s2 := 0) hX (s_X10_keptOn hst) dX10_themeOn_3 (by first | assumption | exact hM.2.1) (by first | exact Nat.le_of_ble_eq_true rfl | simp [cat_rf, Value.category]) ⟨rfl, rfl, by decide, by decide⟩ ?_
  refine ⟨_, _, _, _, _, _, y, p, rfl, hM, hV, hy, hp, fun P1 Q1 M1 hM => Kc_i ?_⟩
  have hkr := kept_r hV y p
  have hn20 := hV.n.2.2.1
  have ha18 : M1 (b + 18) = some (.inr (0, 63, .inl (fun i => iZ (σ 35 (i / 3) (i % 3))))) := hM.2.2 18 (by decide)
  refine g_istore hX dX10_themeOn_6 ?_
  dsimp only [List.set]
  refine g_iload hX dX10_themeOn_7 rfl ?_
  refine g_const hX dX10_themeOn_8 ?_
  refine z_icmp_ne hX dX10_themeOn_10 (by first | assumption | (constructor <;> omega)) (by first | assumption | (constructor <;> omega)) (fun c10 => ?_) (fun c10 => ?_)
  · refine g_aload hX dX10_themeOn_18 rfl rfl ?_
    refine g_get hX dX10_themeOn_19 (by first | assumption | exact hM.2.1) rfl ?_
    refine g_aload hX dX10_themeOn_22 rfl rfl ?_
    refine g_iload hX dX10_themeOn_23 rfl ?_
    refine g_cV1 (c2 := 0) (s2 := 0) hX (s_X10_readingsFrom hst) dX10_themeOn_24 (by first | assumption | exact hM.2.1) (by first | exact Nat.le_of_ble_eq_true rfl | simp [cat_rf, Value.category]) ⟨rfl, rfl, by decide, by decide⟩ ?_
    refine ⟨_, _, _, _, _, _, _, rfl, hM, hV, (by constructor <;> omega), Kc_i ?_⟩
    have hy3 : 0 ≤ y % 3 ∧ y % 3 < 3 := by omega
    have hrd : (keptZ σ y p = -2 ∧ rdF σ (keptZ σ y p) = 60) ∨ (0 ≤ keptZ σ y p ∧ keptZ σ y p < σ 2 0 0 ∧ rdF σ (keptZ σ y p) = 3 * keptZ σ y p) := by
      rcases hkr with h9 | h9 | h9
      · exact absurd h9 c10
      · exact Or.inl ⟨h9, by unfold rdF; rw [if_pos h9]⟩
      · refine Or.inr ⟨h9.1, h9.2, ?_⟩
        unfold rdF
        rw [if_neg (by omega), if_pos h9]
    have hrv : iZ (σ 35 ((rdF σ (keptZ σ y p) + y % 3).toNat / 3) ((rdF σ (keptZ σ y p) + y % 3).toNat % 3)) = iZ (thZ σ y p) := by
      unfold thZ
      rw [if_neg c10]
      rcases hrd with ⟨h8, h9⟩ | ⟨h7, h8, h9⟩
      · rw [if_pos h8, h9, (div20 hy3).1, (div20 hy3).2]
      · obtain ⟨f, hf⟩ : ∃ f : Nat, keptZ σ y p = (f : Int) := ⟨(keptZ σ y p).toNat, by omega⟩
        rw [if_neg (by omega), h9, hf, (div3 hy3).1, (div3 hy3).2, Int.toNat_natCast]
    refine g_iload hX dX10_themeOn_27 rfl ?_
    refine g_const hX dX10_themeOn_28 ?_
    refine z_irem hX dX10_themeOn_29 (by first | assumption | (constructor <;> omega)) (by first | assumption | (constructor <;> omega)) (by omega) (by omega) ?_
    refine z_iadd hX dX10_themeOn_30 ?_
    refine z_iald (b := thZ σ y p) hX dX10_themeOn_31 ha18 (by omega) (by omega) (by decide) hrv ?_
    try simp only [Int.toNat_natCast]
    refine g_iret hX hR dX10_themeOn_32 rfl rfl (by decide) (by decide) ?_
    exact hK _ _ _ hM
  · refine g_const hX dX10_themeOn_13 ?_
    refine g_goto hX dX10_themeOn_15 ?_
    refine g_iret hX hR dX10_themeOn_32 rfl rfl (by decide) (by decide) ?_
    exact kint (hK _ _ _ hM) (by unfold thZ; rw [if_pos c10])

def sp_X10_kept : hS := fun as M sz K => ∃ (b r : Nat) (σ : SG) (th : Int) (P Q : Nat → Int) (y m d : Int), as = [.ref r, .int (iZ y), .int (iZ m), .int (iZ d)] ∧ MX b r σ th P Q M ∧ SV σ ∧ inR y ∧ inR m ∧ inR d ∧ MO b r (oc_kept σ y m d) K
theorem s_X10_kept {l : Launch} {g : hG} (hst : l.stackTraces = false) : Ctr l g mX10_kept sp_X10_kept := by
  refine Ctr.mk9 hst (by decide) ?_ ?_
  · rintro as M sz K ⟨b, r, σ, th, P, Q, y, m, d, rfl, hM, hV, ry, rm, rd, hK⟩
    exact ⟨by simp [mX10_kept], cat_ok rfl⟩
  rintro X as M sz K hX rfl rfl hR ⟨b, r, σ, th, P, Q, y, m, d, rfl, hM, hV, ry, rm, rd, hK⟩
  show G X 0 [.ref r, .int (iZ y), .int (iZ m), .int (iZ d)] [] M sz 0 0
  obtain ⟨n0, n1, n2, n3, ⟨e0, hn0⟩, ⟨e1, hn1⟩, ⟨e2, hn2⟩, ⟨e3, hn3⟩⟩ := hV.nat
  refine g_aload hX dX10_kept_0 rfl rfl ?_
  refine g_iload hX dX10_kept_1 rfl ?_
  refine g_iload hX dX10_kept_2 rfl ?_
  refine g_iload hX dX10_kept_3 rfl ?_
  refine g_cS3 (c2 := 0) (s2 := 0) hX (s_X10_isDay hst) dX10_kept_4 (by first | exact Nat.le_of_ble_eq_true rfl | simp [cat_rf, Value.category]) ⟨rfl, rfl, by decide, by decide⟩ ?_
  refine ⟨_, _, _, rfl, (by first | assumption | (constructor <;> omega)), (by first | assumption | (constructor <;> omega)), (by first | assumption | (constructor <;> omega)), Kc_i ?_⟩
  refine z_ifb_eq hX dX10_kept_7 (fun c7 => ?_) (fun c7 => ?_)
  · refine g_const hX dX10_kept_14 ?_
    refine o_put hX dX10_kept_15 hM.2.1 (by simp [MFL]) rfl rfl (fun M1 hs1 hn1 => ?_)
    have hM := hM.th hs1 hn1
    
    refine g_aload hX dX10_kept_18 rfl rfl ?_
    refine g_get hX dX10_kept_19 (by first | assumption | exact hM.2.1) rfl ?_
    refine z_if_le hX dX10_kept_22 (by constructor <;> omega) (fun c22 => absurd c22 (by omega)) (fun c22 => ?_)
    
    refine g_const hX dX10_kept_25 ?_
    refine g_goto hX dX10_kept_26 ?_
    refine g_iret hX hR dX10_kept_40 rfl rfl (by decide) (by decide) ?_
    exact MV hK (c := 1) (if_pos c7) hM hV
  · refine g_const hX dX10_kept_10 ?_
    refine g_goto hX dX10_kept_11 ?_
    refine o_put hX dX10_kept_15 hM.2.1 (by simp [MFL]) rfl rfl (fun M1 hs1 hn1 => ?_)
    have hM := hM.th hs1 hn1
    
    refine g_aload hX dX10_kept_18 rfl rfl ?_
    refine g_get hX dX10_kept_19 (by first | assumption | exact hM.2.1) rfl ?_
    refine z_if_le hX dX10_kept_22 (by constructor <;> omega) (fun c22 => ?_) (fun c22 => absurd c22 (by omega))
    
    refine g_aload hX dX10_kept_29 rfl rfl ?_
    refine g_iload hX dX10_kept_30 rfl ?_
    refine g_iload hX dX10_kept_31 rfl ?_
    refine g_iload hX dX10_kept_32 rfl ?_
    refine g_iload hX dX10_kept_33 rfl ?_
    refine g_cS3 (c2 := 0) (s2 := 0) hX (s_X10_placeOf hst) dX10_kept_34 (by first | exact Nat.le_of_ble_eq_true rfl | simp [cat_rf, Value.category]) ⟨rfl, rfl, by decide, by decide⟩ ?_
    obtain ⟨qy, qm, qd1, qd2⟩ := id c7
    have hml := mlen_r y m
    have hcd := cal_d (y := y) qm ⟨qd1, qd2⟩
    have hyl := ylen_r y
    refine ⟨_, _, _, rfl, by omega, by omega, by omega, Kc_i ?_⟩
    obtain ⟨p, hp9⟩ : ∃ p : Nat, placeZ y m d = (p : Int) := ⟨(placeZ y m d).toNat, by omega⟩
    rw [hp9]
    refine g_cV2 (c2 := 0) (s2 := 0) hX (s_X10_keptOn hst) dX10_kept_37 (by first | assumption | exact hM.2.1) (by first | exact Nat.le_of_ble_eq_true rfl | simp [cat_rf, Value.category]) ⟨rfl, rfl, by decide, by decide⟩ ?_
    refine ⟨_, _, _, _, _, _, y, p, rfl, hM, hV, qy, by omega, fun P1 Q1 M9 hM => Kc_i ?_⟩
    refine g_iret hX hR dX10_kept_40 rfl rfl (by decide) (by decide) ?_
    exact MV hK (c := 0) ((if_neg (fun q => q c7)).trans (by rw [hp9, Int.toNat_natCast])) hM hV

def sp_X10_theme : hS := fun as M sz K => ∃ (b r : Nat) (σ : SG) (th : Int) (P Q : Nat → Int) (y m d : Int), as = [.ref r, .int (iZ y), .int (iZ m), .int (iZ d)] ∧ MX b r σ th P Q M ∧ SV σ ∧ inR y ∧ inR m ∧ inR d ∧ MO b r (oc_theme σ y m d) K
theorem s_X10_theme {l : Launch} {g : hG} (hst : l.stackTraces = false) : Ctr l g mX10_theme sp_X10_theme := by
  refine Ctr.mk9 hst (by decide) ?_ ?_
  · rintro as M sz K ⟨b, r, σ, th, P, Q, y, m, d, rfl, hM, hV, ry, rm, rd, hK⟩
    exact ⟨by simp [mX10_theme], cat_ok rfl⟩
  rintro X as M sz K hX rfl rfl hR ⟨b, r, σ, th, P, Q, y, m, d, rfl, hM, hV, ry, rm, rd, hK⟩
  show G X 0 [.ref r, .int (iZ y), .int (iZ m), .int (iZ d)] [] M sz 0 0
  obtain ⟨n0, n1, n2, n3, ⟨e0, hn0⟩, ⟨e1, hn1⟩, ⟨e2, hn2⟩, ⟨e3, hn3⟩⟩ := hV.nat
  refine g_aload hX dX10_theme_0 rfl rfl ?_
  refine g_iload hX dX10_theme_1 rfl ?_
  refine g_iload hX dX10_theme_2 rfl ?_
  refine g_iload hX dX10_theme_3 rfl ?_
  refine g_cS3 (c2 := 0) (s2 := 0) hX (s_X10_isDay hst) dX10_theme_4 (by first | exact Nat.le_of_ble_eq_true rfl | simp [cat_rf, Value.category]) ⟨rfl, rfl, by decide, by decide⟩ ?_
  refine ⟨_, _, _, rfl, (by first | assumption | (constructor <;> omega)), (by first | assumption | (constructor <;> omega)), (by first | assumption | (constructor <;> omega)), Kc_i ?_⟩
  refine z_ifb_eq hX dX10_theme_7 (fun c7 => ?_) (fun c7 => ?_)
  · refine g_const hX dX10_theme_14 ?_
    refine o_put hX dX10_theme_15 hM.2.1 (by simp [MFL]) rfl rfl (fun M1 hs1 hn1 => ?_)
    have hM := hM.th hs1 hn1
    
    refine g_aload hX dX10_theme_18 rfl rfl ?_
    refine g_get hX dX10_theme_19 (by first | assumption | exact hM.2.1) rfl ?_
    refine z_if_le hX dX10_theme_22 (by constructor <;> omega) (fun c22 => absurd c22 (by omega)) (fun c22 => ?_)
    
    refine g_const hX dX10_theme_25 ?_
    refine g_goto hX dX10_theme_26 ?_
    refine g_iret hX hR dX10_theme_40 rfl rfl (by decide) (by decide) ?_
    exact MV hK (c := 1) (if_pos c7) hM hV
  · refine g_const hX dX10_theme_10 ?_
    refine g_goto hX dX10_theme_11 ?_
    refine o_put hX dX10_theme_15 hM.2.1 (by simp [MFL]) rfl rfl (fun M1 hs1 hn1 => ?_)
    have hM := hM.th hs1 hn1
    
    refine g_aload hX dX10_theme_18 rfl rfl ?_
    refine g_get hX dX10_theme_19 (by first | assumption | exact hM.2.1) rfl ?_
    refine z_if_le hX dX10_theme_22 (by constructor <;> omega) (fun c22 => ?_) (fun c22 => absurd c22 (by omega))
    
    refine g_aload hX dX10_theme_29 rfl rfl ?_
    refine g_iload hX dX10_theme_30 rfl ?_
    refine g_iload hX dX10_theme_31 rfl ?_
    refine g_iload hX dX10_theme_32 rfl ?_
    refine g_iload hX dX10_theme_33 rfl ?_
    refine g_cS3 (c2 := 0) (s2 := 0) hX (s_X10_placeOf hst) dX10_theme_34 (by first | exact Nat.le_of_ble_eq_true rfl | simp [cat_rf, Value.category]) ⟨rfl, rfl, by decide, by decide⟩ ?_
    obtain ⟨qy, qm, qd1, qd2⟩ := id c7
    have hml := mlen_r y m
    have hcd := cal_d (y := y) qm ⟨qd1, qd2⟩
    have hyl := ylen_r y
    refine ⟨_, _, _, rfl, by omega, by omega, by omega, Kc_i ?_⟩
    obtain ⟨p, hp9⟩ : ∃ p : Nat, placeZ y m d = (p : Int) := ⟨(placeZ y m d).toNat, by omega⟩
    rw [hp9]
    refine g_cV2 (c2 := 0) (s2 := 0) hX (s_X10_themeOn hst) dX10_theme_37 (by first | assumption | exact hM.2.1) (by first | exact Nat.le_of_ble_eq_true rfl | simp [cat_rf, Value.category]) ⟨rfl, rfl, by decide, by decide⟩ ?_
    refine ⟨_, _, _, _, _, _, y, p, rfl, hM, hV, qy, by omega, fun P1 Q1 M9 hM => Kc_i ?_⟩
    refine g_iret hX hR dX10_theme_40 rfl rfl (by decide) (by decide) ?_
    exact MV hK (c := 0) ((if_neg (fun q => q c7)).trans (by rw [hp9, Int.toNat_natCast])) hM hV

def sp_X10_tellsWhen : hS := fun as M sz K => ∃ (b r : Nat) (σ : SG) (th : Int) (P Q : Nat → Int) (x y : Int), as = [.ref r, .int (iZ x), .int (iZ y)] ∧ MX b r σ th P Q M ∧ SV σ ∧ inR x ∧ inR y ∧ MO b r (oc_when σ x y) K
theorem s_X10_tellsWhen {l : Launch} {g : hG} (hst : l.stackTraces = false) : Ctr l g mX10_tellsWhen sp_X10_tellsWhen := by
  refine Ctr.mk9 hst (by decide) ?_ ?_
  · rintro as M sz K ⟨b, r, σ, th, P, Q, x, y, rfl, hM, hV, rx, ry, hK⟩
    exact ⟨by simp [mX10_tellsWhen], cat_ok rfl⟩
  rintro X as M sz K hX rfl rfl hR ⟨b, r, σ, th, P, Q, x, y, rfl, hM, hV, rx, ry, hK⟩
  show G X 0 [.ref r, .int (iZ x), .int (iZ y)] [] M sz 0 0
  obtain ⟨n0, n1, n2, n3, ⟨e0, hn0⟩, ⟨e1, hn1⟩, ⟨e2, hn2⟩, ⟨e3, hn3⟩⟩ := hV.nat
  have ha20 : M (b + 20) = some (.inr (0, 20, .inl (fun i => iZ (Q i)))) := hM.2.2 20 (by decide)
  refine g_aload hX dX10_tellsWhen_0 rfl rfl ?_
  refine g_iload hX dX10_tellsWhen_1 rfl ?_
  refine g_const hX dX10_tellsWhen_2 ?_
  refine g_aload hX dX10_tellsWhen_3 rfl rfl ?_
  refine g_get hX dX10_tellsWhen_4 (by first | assumption | exact hM.2.1) rfl ?_
  refine g_const hX dX10_tellsWhen_7 ?_
  refine z_isub hX dX10_tellsWhen_8 ?_
  refine g_cS3 (c2 := 0) (s2 := 0) hX (s_X10_isIn hst) dX10_tellsWhen_9 (by first | exact Nat.le_of_ble_eq_true rfl | simp [cat_rf, Value.category]) ⟨rfl, rfl, by decide, by decide⟩ ?_
  refine ⟨_, _, _, rfl, (by first | assumption | (constructor <;> omega)), (by first | assumption | (constructor <;> omega)), (by first | assumption | (constructor <;> omega)), Kc_i ?_⟩
  refine z_ifb_ne hX dX10_tellsWhen_12 (fun c12 => ?_) (fun c12 => ?_)
  · refine g_iload hX dX10_tellsWhen_19 rfl ?_
    refine g_cS1 (c2 := 0) (s2 := 0) hX (s_X10_isYear hst) dX10_tellsWhen_20 (by first | exact Nat.le_of_ble_eq_true rfl | simp [cat_rf, Value.category]) ⟨rfl, rfl, by decide, by decide⟩ ?_
    refine ⟨_, rfl, (by first | assumption | (constructor <;> omega)), Kc_i ?_⟩
    refine z_ifb_ne hX dX10_tellsWhen_23 (fun c23 => ?_) (fun c23 => ?_)
    · refine g_const hX dX10_tellsWhen_30 ?_
      refine o_put hX dX10_tellsWhen_31 hM.2.1 (by simp [MFL]) rfl rfl (fun M1 hs1 hn1 => ?_)
      have hM := hM.th hs1 hn1
      have ha20 : M1 (b + 20) = some (.inr (0, 20, .inl (fun i => iZ (Q i)))) := hM.2.2 20 (by decide)
      
      refine g_aload hX dX10_tellsWhen_34 rfl rfl ?_
      refine g_get hX dX10_tellsWhen_35 (by first | assumption | exact hM.2.1) rfl ?_
      refine z_if_le hX dX10_tellsWhen_38 (by constructor <;> omega) (fun c38 => ?_) (fun c38 => absurd c38 (by omega))
      
      refine g_aload hX dX10_tellsWhen_43 rfl rfl ?_
      refine g_iload hX dX10_tellsWhen_44 rfl ?_
      refine g_cV1 (c2 := 0) (s2 := 0) hX (s_X10_laysYear hst) dX10_tellsWhen_45 (by first | assumption | exact hM.2.1) (by first | exact Nat.le_of_ble_eq_true rfl | simp [cat_rf, Value.category]) ⟨rfl, rfl, by decide, by decide⟩ ?_
      obtain ⟨f, rfl⟩ : ∃ f : Nat, x = (f : Int) := ⟨x.toNat, by omega⟩
      refine ⟨_, _, _, _, _, _, y, rfl, hM, hV, c23, fun Q1 M9 hM hQ1 => Kc_v ?_⟩
      have hyl := ylen_r y
      have hdy := hV.day y f
      have hQf := hQ1 f (by omega)
      have ha20 : M9 (b + 20) = some (.inr (0, 20, .inl (fun i => iZ (Q1 i)))) := hM.2.2 20 (by decide)
      refine g_aload hX dX10_tellsWhen_48 rfl rfl ?_
      refine g_get hX dX10_tellsWhen_49 (by first | assumption | exact hM.2.1) rfl ?_
      refine g_iload hX dX10_tellsWhen_52 rfl ?_
      refine z_iald hX dX10_tellsWhen_53 (by first | assumption | exact hM.2.1) (by omega) (by omega) (by decide) rfl ?_
      try simp only [Int.toNat_natCast]
      refine g_const hX dX10_tellsWhen_54 ?_
      refine z_icmp_ne hX dX10_tellsWhen_56 (by first | assumption | (constructor <;> omega)) (by first | assumption | (constructor <;> omega)) (fun c56 => ?_) (fun c56 => ?_)
      · refine g_iload hX dX10_tellsWhen_64 rfl ?_
        refine g_aload hX dX10_tellsWhen_65 rfl rfl ?_
        refine g_get hX dX10_tellsWhen_66 (by first | assumption | exact hM.2.1) rfl ?_
        refine g_iload hX dX10_tellsWhen_69 rfl ?_
        refine z_iald hX dX10_tellsWhen_70 (by first | assumption | exact hM.2.1) (by omega) (by omega) (by decide) rfl ?_
        try simp only [Int.toNat_natCast]
        refine g_cS2 (c2 := 0) (s2 := 0) hX (s_X10_dateOf hst) dX10_tellsWhen_71 (by first | exact Nat.le_of_ble_eq_true rfl | simp [cat_rf, Value.category]) ⟨rfl, rfl, by decide, by decide⟩ ?_
        refine ⟨_, _, rfl, c23, by omega, Kc_i ?_⟩
        refine g_iret hX hR dX10_tellsWhen_74 rfl rfl (by decide) (by decide) ?_
        exact kint (MV hK (c := 0) ((if_neg (fun q => q ⟨by omega, by omega⟩)).trans (if_neg (fun q => q c23))) hM hV) (by rw [Int.toNat_natCast, hQf]; unfold whenZ; rw [if_neg (by omega)])
      · refine g_const hX dX10_tellsWhen_59 ?_
        refine g_goto hX dX10_tellsWhen_61 ?_
        refine g_iret hX hR dX10_tellsWhen_74 rfl rfl (by decide) (by decide) ?_
        exact kint (MV hK (c := 0) ((if_neg (fun q => q ⟨by omega, by omega⟩)).trans (if_neg (fun q => q c23))) hM hV) (by rw [Int.toNat_natCast]; unfold whenZ; rw [if_pos (by omega)])
    · refine g_const hX dX10_tellsWhen_26 ?_
      refine g_goto hX dX10_tellsWhen_27 ?_
      refine o_put hX dX10_tellsWhen_31 hM.2.1 (by simp [MFL]) rfl rfl (fun M1 hs1 hn1 => ?_)
      have hM := hM.th hs1 hn1
      have ha20 : M1 (b + 20) = some (.inr (0, 20, .inl (fun i => iZ (Q i)))) := hM.2.2 20 (by decide)
      
      refine g_aload hX dX10_tellsWhen_34 rfl rfl ?_
      refine g_get hX dX10_tellsWhen_35 (by first | assumption | exact hM.2.1) rfl ?_
      refine z_if_le hX dX10_tellsWhen_38 (by constructor <;> omega) (fun c38 => absurd c38 (by omega)) (fun c38 => ?_)
      
      refine g_const hX dX10_tellsWhen_41 ?_
      refine g_iret hX hR dX10_tellsWhen_42 rfl rfl (by decide) (by decide) ?_
      exact MV hK (c := 2) ((if_neg (fun q => q ⟨by omega, by omega⟩)).trans (if_pos c23)) hM hV
  · refine g_const hX dX10_tellsWhen_15 ?_
    refine g_goto hX dX10_tellsWhen_16 ?_
    refine o_put hX dX10_tellsWhen_31 hM.2.1 (by simp [MFL]) rfl rfl (fun M1 hs1 hn1 => ?_)
    have hM := hM.th hs1 hn1
    have ha20 : M1 (b + 20) = some (.inr (0, 20, .inl (fun i => iZ (Q i)))) := hM.2.2 20 (by decide)
    
    refine g_aload hX dX10_tellsWhen_34 rfl rfl ?_
    refine g_get hX dX10_tellsWhen_35 (by first | assumption | exact hM.2.1) rfl ?_
    refine z_if_le hX dX10_tellsWhen_38 (by constructor <;> omega) (fun c38 => absurd c38 (by omega)) (fun c38 => ?_)
    
    refine g_const hX dX10_tellsWhen_41 ?_
    refine g_iret hX hR dX10_tellsWhen_42 rfl rfl (by decide) (by decide) ?_
    exact MV hK (c := 1) (if_pos (fun q => c12 (by have := q.1; have := q.2; omega))) hM hV

def sp_X10_when : hS := fun as M sz K => ∃ (b r : Nat) (σ : SG) (th : Int) (P Q : Nat → Int) (x y : Int), as = [.ref r, .int (iZ x), .int (iZ y)] ∧ MX b r σ th P Q M ∧ SV σ ∧ inR x ∧ inR y ∧ MO b r (oc_when σ x y) K
theorem s_X10_when {l : Launch} {g : hG} (hst : l.stackTraces = false) : Ctr l g mX10_when sp_X10_when := by
  refine Ctr.mk9 hst (by decide) ?_ ?_
  · rintro as M sz K ⟨b, r, σ, th, P, Q, x, y, rfl, hM, hV, rx, ry, hK⟩
    exact ⟨by simp [mX10_when], cat_ok rfl⟩
  rintro X as M sz K hX rfl rfl hR ⟨b, r, σ, th, P, Q, x, y, rfl, hM, hV, rx, ry, hK⟩
  show G X 0 [.ref r, .int (iZ x), .int (iZ y)] [] M sz 0 0
  obtain ⟨n0, n1, n2, n3, ⟨e0, hn0⟩, ⟨e1, hn1⟩, ⟨e2, hn2⟩, ⟨e3, hn3⟩⟩ := hV.nat
  refine g_aload hX dX10_when_0 rfl rfl ?_
  refine g_iload hX dX10_when_1 rfl ?_
  refine g_iload hX dX10_when_2 rfl ?_
  refine g_cV2 (c2 := 0) (s2 := 0) hX (s_X10_tellsWhen hst) dX10_when_3 (by first | assumption | exact hM.2.1) (by first | exact Nat.le_of_ble_eq_true rfl | simp [cat_rf, Value.category]) ⟨rfl, rfl, by decide, by decide⟩ ?_
  refine ⟨_, _, _, _, _, _, _, _, rfl, hM, hV, rx, ry, fun P9 Q9 M9 s9 hM9 hV9 => Kc_i ?_⟩
  refine g_iret hX hR dX10_when_6 rfl rfl (by decide) (by decide) ?_
  exact hK P9 Q9 M9 s9 hM9 hV9

def sp_X10_whenAnew : hS := fun as M sz K => ∃ (b r : Nat) (σ : SG) (th : Int) (P Q : Nat → Int) (x y : Int), as = [.ref r, .int (iZ x), .int (iZ y)] ∧ MX b r σ th P Q M ∧ SV σ ∧ inR x ∧ inR y ∧ MO b r (oc_when σ x y) K
theorem s_X10_whenAnew {l : Launch} {g : hG} (hst : l.stackTraces = false) : Ctr l g mX10_whenAnew sp_X10_whenAnew := by
  refine Ctr.mk9 hst (by decide) ?_ ?_
  · rintro as M sz K ⟨b, r, σ, th, P, Q, x, y, rfl, hM, hV, rx, ry, hK⟩
    exact ⟨by simp [mX10_whenAnew], cat_ok rfl⟩
  rintro X as M sz K hX rfl rfl hR ⟨b, r, σ, th, P, Q, x, y, rfl, hM, hV, rx, ry, hK⟩
  show G X 0 [.ref r, .int (iZ x), .int (iZ y)] [] M sz 0 0
  obtain ⟨n0, n1, n2, n3, ⟨e0, hn0⟩, ⟨e1, hn1⟩, ⟨e2, hn2⟩, ⟨e3, hn3⟩⟩ := hV.nat
  refine g_aload hX dX10_whenAnew_0 rfl rfl ?_
  refine g_iload hX dX10_whenAnew_1 rfl ?_
  refine g_iload hX dX10_whenAnew_2 rfl ?_
  refine g_cV2 (c2 := 0) (s2 := 0) hX (s_X10_tellsWhen hst) dX10_whenAnew_3 (by first | assumption | exact hM.2.1) (by first | exact Nat.le_of_ble_eq_true rfl | simp [cat_rf, Value.category]) ⟨rfl, rfl, by decide, by decide⟩ ?_
  refine ⟨_, _, _, _, _, _, _, _, rfl, hM, hV, rx, ry, fun P9 Q9 M9 s9 hM9 hV9 => Kc_i ?_⟩
  refine g_iret hX hR dX10_whenAnew_6 rfl rfl (by decide) (by decide) ?_
  exact hK P9 Q9 M9 s9 hM9 hV9
