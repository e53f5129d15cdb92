/-! easter and when of the law -/
def sp_L_easter (g : hG) : hS := fun as M sz K => ∃ (h : Nat) (A : Nat → Nat → Nat) (ow : Nat → Nat × Nat) (σ : SG) (τ : Nat → Nat → Int) (y v : Int), as = [.ref h, .int (iZ y), .int (iZ v)] ∧ HX g.2.2.2.2 h A ow σ τ M ∧ SV σ ∧ (1600 ≤ y ∧ y ≤ 2399) ∧ inR v ∧ eastMDZ y = v ∧ (∀ (A' : Nat → Nat → Nat) (ow' : Nat → Nat × Nat) (τ' : Nat → Nat → Int) (M' : hM) (s9 : Nat), HX g.2.2.2.2 h A' ow' σ τ' M' → SV σ → K (.inl (some (.int (iZ 1)))) M' s9)
theorem ya_east (σ : SG) {y : Int} (hy : 1600 ≤ y ∧ y ≤ 2399) : oc_easter σ y = (0, eastMDZ y, σ) := if_neg (not_not_intro hy)
theorem s_L_easter {l : Launch} {g : hG} (hst : l.stackTraces = false) : Ctr l g mL_easterB (sp_L_easter g) := by
  refine Ctr.mk9 hst (by decide) ?_ ?_
  · rintro as M sz K ⟨h, A, ow, σ, τ, y, v, rfl, hH, hV, hy, rv, e, hK⟩
    exact ⟨by simp [mL_easterB], cat_ok rfl⟩
  rintro X as M sz K hX rfl rfl hR ⟨h, A, ow, σ, τ, y, v, rfl, hH, hV, hy, rv, e, hK⟩
  show G X 0 [.ref h, .int (iZ y), .int (iZ v)] [] M sz 0 0
  have e9 := ya_east σ hy
  rw [e] at e9
  refine g_aload hX dL_easterB_0 rfl rfl ?_
  refine g_iload hX dL_easterB_1 rfl ?_
  refine l_easter hX hst dL_easterB_2 hH hV (by constructor <;> omega) e9 (by decide) (by decide) (by simp) (fun A ow τ M sz hH hV => ?_)
  refine g_iload hX dL_easterB_5 rfl ?_
  refine yf_icmp_ne hX dL_easterB_6 rv rv rfl ?_
  refine g_aload hX dL_easterB_9 rfl rfl ?_
  refine g_iload hX dL_easterB_10 rfl ?_
  refine l_easterAnew hX hst dL_easterB_11 hH hV (by constructor <;> omega) e9 (by decide) (by decide) (by simp) (fun A ow τ M sz hH hV => ?_)
  refine g_iload hX dL_easterB_14 rfl ?_
  refine yf_icmp_ne hX dL_easterB_15 rv rv rfl ?_
  refine g_const hX dL_easterB_18 ?_
  refine g_goto hX dL_easterB_19 ?_
  refine g_iret hX hR dL_easterB_23 rfl rfl (by decide) (by decide) ?_
  exact hK _ _ _ _ _ hH hV
def sp_L_when (g : hG) : hS := fun as M sz K => ∃ (h : Nat) (A : Nat → Nat → Nat) (ow : Nat → Nat × Nat) (σ : SG) (τ : Nat → Nat → Int) (f y v : Int), as = [.ref h, .int (iZ f), .int (iZ y), .int (iZ v)] ∧ HX g.2.2.2.2 h A ow σ τ M ∧ SV σ ∧ inR f ∧ inR y ∧ inR v ∧ oc_when σ f y = (0, v, σ) ∧ (∀ (A' : Nat → Nat → Nat) (ow' : Nat → Nat × Nat) (τ' : Nat → Nat → Int) (M' : hM) (s9 : Nat), HX g.2.2.2.2 h A' ow' σ τ' M' → SV σ → K (.inl (some (.int (iZ 1)))) M' s9)
theorem s_L_when {l : Launch} {g : hG} (hst : l.stackTraces = false) : Ctr l g mL_whenB (sp_L_when g) := by
  refine Ctr.mk9 hst (by decide) ?_ ?_
  · rintro as M sz K ⟨h, A, ow, σ, τ, f, y, v, rfl, hH, hV, rf, ry, rv, e, hK⟩
    exact ⟨by simp [mL_whenB], cat_ok rfl⟩
  rintro X as M sz K hX rfl rfl hR ⟨h, A, ow, σ, τ, f, y, v, rfl, hH, hV, rf, ry, rv, e, hK⟩
  show G X 0 [.ref h, .int (iZ f), .int (iZ y), .int (iZ v)] [] M sz 0 0
  refine g_aload hX dL_whenB_0 rfl rfl ?_
  refine g_iload hX dL_whenB_1 rfl ?_
  refine g_iload hX dL_whenB_2 rfl ?_
  refine l_when hX hst dL_whenB_3 hH hV rf ry e (by decide) (by decide) (by simp) (fun A ow τ M sz hH hV => ?_)
  refine g_iload hX dL_whenB_6 rfl ?_
  refine yf_icmp_ne hX dL_whenB_7 rv rv rfl ?_
  refine g_aload hX dL_whenB_10 rfl rfl ?_
  refine g_iload hX dL_whenB_11 rfl ?_
  refine g_iload hX dL_whenB_12 rfl ?_
  refine l_whenAnew hX hst dL_whenB_13 hH hV rf ry e (by decide) (by decide) (by simp) (fun A ow τ M sz hH hV => ?_)
  refine g_iload hX dL_whenB_16 rfl ?_
  refine yf_icmp_ne hX dL_whenB_17 rv rv rfl ?_
  refine g_const hX dL_whenB_20 ?_
  refine g_goto hX dL_whenB_21 ?_
  refine g_iret hX hR dL_whenB_25 rfl rfl (by decide) (by decide) ?_
  exact hK _ _ _ _ _ hH hV
section Y5
variable {X : hX} {d : hD} {pc n t i : Nat} {lv st rest : List Value} {M : hM} {sz cs ss : Nat} {h : Nat} {A : Nat → Nat → Nat} {ow : Nat → Nat × Nat} {σ : SG} {τ : Nat → Nat → Int} {f y v : Int}
theorem l_Leaster (hX : Cok X d) (hst : X.1.2.1.stackTraces = false) (hat : AtS d pc mL_easterB 3 n) (hH : HX X.2.2.2.2.2.2.2.2.2 h A ow σ τ M) (hV : SV σ) (hy : 1600 ≤ y ∧ y ≤ 2399) (rv : inR v) (e : eastMDZ y = v) (hc : cs + 2 ≤ d.2.2.2.2.1.cells) (hs : ss + 12 ≤ d.2.2.2.2.1.slots) (hW : (rest.map fun v => v.category).sum ≤ 8) (kk : ∀ (A' : Nat → Nat → Nat) (ow' : Nat → Nat × Nat) (τ' : Nat → Nat → Int) (M' : hM) (s9 : Nat), HX X.2.2.2.2.2.2.2.2.2 h A' ow' σ τ' M' → SV σ → G X n lv (.int (iZ 1) :: rest) M' s9 (cs + 2) (ss + 12)) : G X pc lv (.int (iZ v) :: .int (iZ y) :: .ref h :: rest) M sz cs ss := by
  refine g_cS3 (c2 := cs + 2) (s2 := ss + 12) hX (s_L_easter hst) hat hW ⟨rfl, rfl, hc, hs⟩ ?_
  exact ⟨h, A, ow, σ, τ, y, v, rfl, hH, hV, hy, rv, e, fun A1 ow1 τ1 M1 s1 hH1 hV1 => Kc_i (kk A1 ow1 τ1 M1 s1 hH1 hV1)⟩
theorem l_Lwhen (hX : Cok X d) (hst : X.1.2.1.stackTraces = false) (hat : AtS d pc mL_whenB 4 n) (hH : HX X.2.2.2.2.2.2.2.2.2 h A ow σ τ M) (hV : SV σ) (rf : inR f) (ry : inR y) (rv : inR v) (e : oc_when σ f y = (0, v, σ)) (hc : cs + 4 ≤ d.2.2.2.2.1.cells) (hs : ss + 24 ≤ d.2.2.2.2.1.slots) (hW : (rest.map fun v => v.category).sum ≤ 8) (kk : ∀ (A' : Nat → Nat → Nat) (ow' : Nat → Nat × Nat) (τ' : Nat → Nat → Int) (M' : hM) (s9 : Nat), HX X.2.2.2.2.2.2.2.2.2 h A' ow' σ τ' M' → SV σ → G X n lv (.int (iZ 1) :: rest) M' s9 (cs + 4) (ss + 24)) : G X pc lv (.int (iZ v) :: .int (iZ y) :: .int (iZ f) :: .ref h :: rest) M sz cs ss := by
  refine g_cS4 (c2 := cs + 4) (s2 := ss + 24) hX (s_L_when hst) hat hW ⟨rfl, rfl, hc, hs⟩ ?_
  exact ⟨h, A, ow, σ, τ, f, y, v, rfl, hH, hV, rf, ry, rv, e, fun A1 ow1 τ1 M1 s1 hH1 hV1 => Kc_i (kk A1 ow1 τ1 M1 s1 hH1 hV1)⟩
end Y5
