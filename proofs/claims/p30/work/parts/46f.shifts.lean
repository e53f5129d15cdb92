/-! shifts -/
set_option maxRecDepth 20000 in
theorem sh_g1 {X : hX} (hX : Cok X mL_shiftsB) (hst : X.1.2.1.stackTraces = false) {M0 : hM} {sz0 : Nat} {K : hK} (hR : Ret X mL_shiftsB M0 sz0 K) (hK : ∀ (M' : hM) (s9 : Nat), K (.inl (some (.int (iZ 1)))) M' s9) {h : Nat} {A : Nat → Nat → Nat} {ow : Nat → Nat × Nat} {τ : Nat → Nat → Int} {M : hM} {sz cs ss : Nat} (hH : HX X.2.2.2.2.2.2.2.2.2 h A ow (ya_TB yhS1) τ M) (hV : SV (ya_TB yhS1)) (hc : cs + 17 ≤ 70) (hs : ss + 292 ≤ 1500) : G X 113 [.ref h] [.int (iZ 0), .int (iZ 0), .ref h] M sz cs ss := by
  refine g_const hX dL_shiftsB_113 ?_
  refine l_shift hX hst dL_shiftsB_115 hH hV (ya_in rfl) (ya_in rfl) (ya_in rfl) yhe8 (show cs + 3 ≤ 70 by omega) (show ss + 18 ≤ 1500 by omega) (by first | exact Nat.le_of_ble_eq_true rfl | simp [cat_rf, Value.category]) (fun A ow τ M sz hH hV => ?_)
  refine g_const hX dL_shiftsB_118 ?_
  refine yf_icmp_ne hX dL_shiftsB_120 (ya_in rfl) (ya_in rfl) (by decide) ?_
  refine g_aload hX dL_shiftsB_123 rfl rfl ?_
  refine g_const hX dL_shiftsB_124 ?_
  refine g_const hX dL_shiftsB_127 ?_
  refine g_const hX dL_shiftsB_129 ?_
  refine l_tune hX hst dL_shiftsB_131 hH hV (ya_in rfl) (ya_in rfl) (ya_in rfl) yhe9 (show cs + 3 + 10 ≤ 70 by omega) (show ss + 18 + 250 ≤ 1500 by omega) (by first | exact Nat.le_of_ble_eq_true rfl | simp [cat_rf, Value.category]) (fun A ow τ M sz hH hV => ?_)
  refine g_const hX dL_shiftsB_134 ?_
  refine yf_icmp_ne hX dL_shiftsB_135 (ya_in rfl) (ya_in rfl) (by decide) ?_
  refine g_aload hX dL_shiftsB_138 rfl rfl ?_
  refine g_const hX dL_shiftsB_139 ?_
  refine g_const hX dL_shiftsB_140 ?_
  refine g_const hX dL_shiftsB_141 ?_
  refine l_shift hX hst dL_shiftsB_142 hH hV (ya_in rfl) (ya_in rfl) (ya_in rfl) yhe10 (show cs + 3 + 10 + 3 ≤ 70 by omega) (show ss + 18 + 250 + 18 ≤ 1500 by omega) (by first | exact Nat.le_of_ble_eq_true rfl | simp [cat_rf, Value.category]) (fun A ow τ M sz hH hV => ?_)
  refine g_const hX dL_shiftsB_145 ?_
  refine yf_icmp_ne hX dL_shiftsB_147 (ya_in rfl) (ya_in rfl) (by decide) ?_
  refine g_aload hX dL_shiftsB_150 rfl rfl ?_
  refine l_metres hX hst dL_shiftsB_151 hH hV yhe11 (show cs + 3 + 10 + 3 + 0 ≤ 70 by omega) (show ss + 18 + 250 + 18 + 0 ≤ 1500 by omega) (by first | exact Nat.le_of_ble_eq_true rfl | simp [cat_rf, Value.category]) (fun A ow τ M sz hH hV => ?_)
  refine g_const hX dL_shiftsB_154 ?_
  refine yf_icmp_ne hX dL_shiftsB_155 (ya_in rfl) (ya_in rfl) (by decide) ?_
  refine g_aload hX dL_shiftsB_158 rfl rfl ?_
  refine g_const hX dL_shiftsB_159 ?_
  refine l_alike hX hst dL_shiftsB_160 hH hV (ya_in rfl) yhe12 (show cs + 3 + 10 + 3 + 0 + 1 ≤ 70 by omega) (show ss + 18 + 250 + 18 + 0 + 6 ≤ 1500 by omega) (by first | exact Nat.le_of_ble_eq_true rfl | simp [cat_rf, Value.category]) (fun A ow τ M sz hH hV => ?_)
  refine g_const hX dL_shiftsB_163 ?_
  refine yf_icmp_ne hX dL_shiftsB_164 (ya_in rfl) (ya_in rfl) (by decide) ?_
  refine g_const hX dL_shiftsB_167 ?_
  refine g_goto hX dL_shiftsB_168 ?_
  refine g_iret hX hR dL_shiftsB_172 rfl rfl (show cs + 3 + 10 + 3 + 0 + 1 ≤ 70 by omega) (show ss + 18 + 250 + 18 + 0 + 6 ≤ 1500 by omega) ?_
  exact hK _ _

set_option maxRecDepth 20000 in
theorem sh_g0 {X : hX} (hX : Cok X mL_shiftsB) (hst : X.1.2.1.stackTraces = false) {M0 : hM} {sz0 : Nat} {K : hK} (hR : Ret X mL_shiftsB M0 sz0 K) (hK : ∀ (M' : hM) (s9 : Nat), K (.inl (some (.int (iZ 1)))) M' s9) {M : hM} {sz cs ss : Nat} (hc : cs + 58 ≤ 70) (hs : ss + 1082 ≤ 1500) : G X 0 [U9] [] M sz cs ss := by
  refine g_drop ?_
  refine l_new hX hst dL_shiftsB_0 dL_shiftsB_3 dL_shiftsB_4 (show cs + 10 ≤ 70 by omega) (show ss + 414 ≤ 1500 by omega) (fun h A ow τ M sz hH hV => ?_)
  rw [ya_TB0] at hH hV
  refine g_astore hX dL_shiftsB_7 rfl ?_
  dsimp only [List.set]
  refine g_aload hX dL_shiftsB_8 rfl rfl ?_
  refine g_const hX dL_shiftsB_9 ?_
  refine g_const hX dL_shiftsB_12 ?_
  refine g_const hX dL_shiftsB_13 ?_
  refine l_tune hX hst dL_shiftsB_15 hH hV (ya_in rfl) (ya_in rfl) (ya_in rfl) yhe0 (show cs + 10 + 10 ≤ 70 by omega) (show ss + 414 + 250 ≤ 1500 by omega) (by first | exact Nat.le_of_ble_eq_true rfl | simp [cat_rf, Value.category]) (fun A ow τ M sz hH hV => ?_)
  refine yf_if_ne hX dL_shiftsB_18 (ya_in rfl) (by decide) ?_
  refine g_aload hX dL_shiftsB_21 rfl rfl ?_
  refine g_const hX dL_shiftsB_22 ?_
  refine g_const hX dL_shiftsB_23 ?_
  refine g_const hX dL_shiftsB_25 ?_
  refine l_shift hX hst dL_shiftsB_27 hH hV (ya_in rfl) (ya_in rfl) (ya_in rfl) yhe1 (show cs + 10 + 10 + 3 ≤ 70 by omega) (show ss + 414 + 250 + 18 ≤ 1500 by omega) (by first | exact Nat.le_of_ble_eq_true rfl | simp [cat_rf, Value.category]) (fun A ow τ M sz hH hV => ?_)
  refine g_const hX dL_shiftsB_30 ?_
  refine yf_icmp_ne hX dL_shiftsB_31 (ya_in rfl) (ya_in rfl) (by decide) ?_
  refine g_aload hX dL_shiftsB_34 rfl rfl ?_
  refine g_const hX dL_shiftsB_35 ?_
  refine g_const hX dL_shiftsB_36 ?_
  refine g_const hX dL_shiftsB_37 ?_
  refine l_shift hX hst dL_shiftsB_39 hH hV (ya_in rfl) (ya_in rfl) (ya_in rfl) yhe2 (show cs + 10 + 10 + 3 + 3 ≤ 70 by omega) (show ss + 414 + 250 + 18 + 18 ≤ 1500 by omega) (by first | exact Nat.le_of_ble_eq_true rfl | simp [cat_rf, Value.category]) (fun A ow τ M sz hH hV => ?_)
  refine g_const hX dL_shiftsB_42 ?_
  refine yf_icmp_ne hX dL_shiftsB_44 (ya_in rfl) (ya_in rfl) (by decide) ?_
  refine g_aload hX dL_shiftsB_47 rfl rfl ?_
  refine g_const hX dL_shiftsB_48 ?_
  refine g_const hX dL_shiftsB_49 ?_
  refine g_const hX dL_shiftsB_50 ?_
  refine l_shift hX hst dL_shiftsB_52 hH hV (ya_in rfl) (ya_in rfl) (ya_in rfl) yhe3 (show cs + 10 + 10 + 3 + 3 + 3 ≤ 70 by omega) (show ss + 414 + 250 + 18 + 18 + 18 ≤ 1500 by omega) (by first | exact Nat.le_of_ble_eq_true rfl | simp [cat_rf, Value.category]) (fun A ow τ M sz hH hV => ?_)
  refine yf_if_ne hX dL_shiftsB_55 (ya_in rfl) (by decide) ?_
  refine g_aload hX dL_shiftsB_58 rfl rfl ?_
  refine g_const hX dL_shiftsB_59 ?_
  refine g_const hX dL_shiftsB_60 ?_
  refine g_const hX dL_shiftsB_61 ?_
  refine l_shift hX hst dL_shiftsB_63 hH hV (ya_in rfl) (ya_in rfl) (ya_in rfl) yhe4 (show cs + 10 + 10 + 3 + 3 + 3 + 3 ≤ 70 by omega) (show ss + 414 + 250 + 18 + 18 + 18 + 18 ≤ 1500 by omega) (by first | exact Nat.le_of_ble_eq_true rfl | simp [cat_rf, Value.category]) (fun A ow τ M sz hH hV => ?_)
  refine yf_if_ne hX dL_shiftsB_66 (ya_in rfl) (by decide) ?_
  refine g_aload hX dL_shiftsB_69 rfl rfl ?_
  refine g_const hX dL_shiftsB_70 ?_
  refine g_const hX dL_shiftsB_71 ?_
  refine g_const hX dL_shiftsB_72 ?_
  refine l_shift hX hst dL_shiftsB_74 hH hV (ya_in rfl) (ya_in rfl) (ya_in rfl) yhe5 (show cs + 10 + 10 + 3 + 3 + 3 + 3 + 3 ≤ 70 by omega) (show ss + 414 + 250 + 18 + 18 + 18 + 18 + 18 ≤ 1500 by omega) (by first | exact Nat.le_of_ble_eq_true rfl | simp [cat_rf, Value.category]) (fun A ow τ M sz hH hV => ?_)
  refine g_const hX dL_shiftsB_77 ?_
  refine yf_icmp_ne hX dL_shiftsB_79 (ya_in rfl) (ya_in rfl) (by decide) ?_
  refine g_aload hX dL_shiftsB_82 rfl rfl ?_
  refine g_const hX dL_shiftsB_83 ?_
  refine g_const hX dL_shiftsB_84 ?_
  refine g_const hX dL_shiftsB_86 ?_
  refine l_shift hX hst dL_shiftsB_88 hH hV (ya_in rfl) (ya_in rfl) (ya_in rfl) yhe6 (show cs + 10 + 10 + 3 + 3 + 3 + 3 + 3 + 3 ≤ 70 by omega) (show ss + 414 + 250 + 18 + 18 + 18 + 18 + 18 + 18 ≤ 1500 by omega) (by first | exact Nat.le_of_ble_eq_true rfl | simp [cat_rf, Value.category]) (fun A ow τ M sz hH hV => ?_)
  refine g_const hX dL_shiftsB_91 ?_
  refine yf_icmp_ne hX dL_shiftsB_93 (ya_in rfl) (ya_in rfl) (by decide) ?_
  refine g_aload hX dL_shiftsB_96 rfl rfl ?_
  refine g_const hX dL_shiftsB_97 ?_
  refine g_const hX dL_shiftsB_98 ?_
  refine g_const hX dL_shiftsB_100 ?_
  refine l_shift hX hst dL_shiftsB_102 hH hV (ya_in rfl) (ya_in rfl) (ya_in rfl) yhe7 (show cs + 10 + 10 + 3 + 3 + 3 + 3 + 3 + 3 + 3 ≤ 70 by omega) (show ss + 414 + 250 + 18 + 18 + 18 + 18 + 18 + 18 + 18 ≤ 1500 by omega) (by first | exact Nat.le_of_ble_eq_true rfl | simp [cat_rf, Value.category]) (fun A ow τ M sz hH hV => ?_)
  refine g_const hX dL_shiftsB_105 ?_
  refine yf_icmp_ne hX dL_shiftsB_107 (ya_in rfl) (ya_in rfl) (by decide) ?_
  refine g_aload hX dL_shiftsB_110 rfl rfl ?_
  refine g_const hX dL_shiftsB_111 ?_
  refine g_const hX dL_shiftsB_112 ?_
  exact sh_g1 hX hst hR hK hH hV (by omega) (by omega)

def sp_L_shifts : hS := fun as M sz K => as = [] ∧ ∀ (M' : hM) (s9 : Nat), K (.inl (some (.int (iZ 1)))) M' s9
theorem s_L_shifts {l : Launch} {g : hG} (hst : l.stackTraces = false) : Ctr l g mL_shiftsB sp_L_shifts := by
  refine Ctr.mk9 hst (by decide) ?_ ?_
  · rintro as M sz K ⟨rfl, hK⟩
    exact ⟨by simp [mL_shiftsB], cat_ok rfl⟩
  rintro X as M sz K hX rfl rfl hR ⟨rfl, hK⟩
  show G X 0 [U9] [] M sz 0 0
  exact sh_g0 hX hst hR hK (by omega) (by omega)

