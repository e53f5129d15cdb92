/-! years -/
set_option maxRecDepth 100000 in
theorem ys_g12 {X : hX} (hX : Cok X mL_years) (hst : X.1.2.1.stackTraces = false) {M0 : hM} {sz0 : Nat} {K : hK} (hR : Ret X mL_years M0 sz0 K) (hK : ∀ (M' : hM) (s9 : Nat), K (.inl (some (.int (iZ 1)))) M' s9) {h : Nat} {A : Nat → Nat → Nat} {ow : Nat → Nat × Nat} {τ : Nat → Nat → Int} {M : hM} {sz cs ss : Nat} (hH : HX X.2.2.2.2.2.2.2.2.2 h A ow (ya_TB yyS15) τ M) (hV : SV (ya_TB yyS15)) (hc : cs + 11074 ≤ 17000) (hs : ss + 276524 ≤ 425000) : G X 935 [.ref h] [.int (iZ 2024), .int (iZ 4), .ref h] M sz cs ss := by
  refine g_const hX dL_years_935 ?_
  refine l_Lwhen hX hst dL_years_938 hH hV (ya_in rfl) (ya_in rfl) (ya_in rfl) yye55 (show cs + 4 ≤ 17000 by omega) (show ss + 24 ≤ 425000 by omega) (by first | exact Nat.le_of_ble_eq_true rfl | simp [cat_rf, Value.category]) (fun A ow τ M sz hH hV => ?_)
  refine yf_if_eq hX dL_years_941 (ya_in rfl) (by decide) ?_
  refine g_aload hX dL_years_944 rfl rfl ?_
  refine g_cS1 (c2 := cs + 4 + 6000) (s2 := ss + 24 + 150000) hX (s_L_songs hst) dL_years_945 (by first | exact Nat.le_of_ble_eq_true rfl | simp [cat_rf, Value.category]) ⟨rfl, rfl, (show cs + 4 + 6000 ≤ 17000 by omega), (show ss + 24 + 150000 ≤ 425000 by omega)⟩ ?_
  refine ⟨h, A, ow, τ, rfl, hH, hV, fun M sz => Kc_i ?_⟩
  refine yf_if_eq hX dL_years_948 (ya_in rfl) (by decide) ?_
  refine g_cS0 (c2 := cs + 4 + 6000 + 5000) (s2 := ss + 24 + 150000 + 125000) hX (s_L_most hst) dL_years_951 (by first | exact Nat.le_of_ble_eq_true rfl | simp [cat_rf, Value.category]) ⟨rfl, rfl, (show cs + 4 + 6000 + 5000 ≤ 17000 by omega), (show ss + 24 + 150000 + 125000 ≤ 425000 by omega)⟩ ?_
  refine ⟨rfl, fun M sz => Kc_i ?_⟩
  refine yf_if_eq hX dL_years_954 (ya_in rfl) (by decide) ?_
  refine g_cS0 (c2 := cs + 4 + 6000 + 5000 + 70) (s2 := ss + 24 + 150000 + 125000 + 1500) hX (s_L_shifts hst) dL_years_957 (by first | exact Nat.le_of_ble_eq_true rfl | simp [cat_rf, Value.category]) ⟨rfl, rfl, (show cs + 4 + 6000 + 5000 + 70 ≤ 17000 by omega), (show ss + 24 + 150000 + 125000 + 1500 ≤ 425000 by omega)⟩ ?_
  refine ⟨rfl, fun M sz => Kc_i ?_⟩
  refine yf_if_eq hX dL_years_960 (ya_in rfl) (by decide) ?_
  refine g_const hX dL_years_963 ?_
  refine g_goto hX dL_years_964 ?_
  refine g_iret hX hR dL_years_968 rfl rfl (show cs + 4 + 6000 + 5000 + 70 ≤ 17000 by omega) (show ss + 24 + 150000 + 125000 + 1500 ≤ 425000 by omega) ?_
  exact hK _ _

set_option maxRecDepth 100000 in
theorem ys_g11 {X : hX} (hX : Cok X mL_years) (hst : X.1.2.1.stackTraces = false) {M0 : hM} {sz0 : Nat} {K : hK} (hR : Ret X mL_years M0 sz0 K) (hK : ∀ (M' : hM) (s9 : Nat), K (.inl (some (.int (iZ 1)))) M' s9) {h : Nat} {A : Nat → Nat → Nat} {ow : Nat → Nat × Nat} {τ : Nat → Nat → Int} {M : hM} {sz cs ss : Nat} (hH : HX X.2.2.2.2.2.2.2.2.2 h A ow (ya_TB yyS13) τ M) (hV : SV (ya_TB yyS13)) (hc : cs + 11092 ≤ 17000) (hs : ss + 276632 ≤ 425000) : G X 853 [.ref h] [] M sz cs ss := by
  refine g_aload hX dL_years_853 rfl rfl ?_
  refine g_const hX dL_years_854 ?_
  refine g_const hX dL_years_856 ?_
  refine g_const hX dL_years_859 ?_
  refine l_Lwhen hX hst dL_years_861 hH hV (ya_in rfl) (ya_in rfl) (ya_in rfl) yye49 (show cs + 4 ≤ 17000 by omega) (show ss + 24 ≤ 425000 by omega) (by first | exact Nat.le_of_ble_eq_true rfl | simp [cat_rf, Value.category]) (fun A ow τ M sz hH hV => ?_)
  refine yf_if_eq hX dL_years_864 (ya_in rfl) (by decide) ?_
  refine g_aload hX dL_years_867 rfl rfl ?_
  refine g_const hX dL_years_868 ?_
  refine g_const hX dL_years_870 ?_
  refine g_const hX dL_years_873 ?_
  refine l_Lwhen hX hst dL_years_876 hH hV (ya_in rfl) (ya_in rfl) (ya_in rfl) yye50 (show cs + 4 + 4 ≤ 17000 by omega) (show ss + 24 + 24 ≤ 425000 by omega) (by first | exact Nat.le_of_ble_eq_true rfl | simp [cat_rf, Value.category]) (fun A ow τ M sz hH hV => ?_)
  refine yf_if_eq hX dL_years_879 (ya_in rfl) (by decide) ?_
  refine g_aload hX dL_years_882 rfl rfl ?_
  refine g_const hX dL_years_883 ?_
  refine l_sundays hX hst dL_years_884 hH hV (ya_in rfl) yye51 (show cs + 4 + 4 + 1 ≤ 17000 by omega) (show ss + 24 + 24 + 6 ≤ 425000 by omega) (by first | exact Nat.le_of_ble_eq_true rfl | simp [cat_rf, Value.category]) (fun A ow τ M sz hH hV => ?_)
  refine g_const hX dL_years_887 ?_
  refine yf_icmp_ne hX dL_years_889 (ya_in rfl) (ya_in rfl) (by decide) ?_
  refine g_aload hX dL_years_892 rfl rfl ?_
  refine g_const hX dL_years_893 ?_
  refine g_const hX dL_years_895 ?_
  refine g_const hX dL_years_898 ?_
  refine l_Lwhen hX hst dL_years_900 hH hV (ya_in rfl) (ya_in rfl) (ya_in rfl) yye52 (show cs + 4 + 4 + 1 + 4 ≤ 17000 by omega) (show ss + 24 + 24 + 6 + 24 ≤ 425000 by omega) (by first | exact Nat.le_of_ble_eq_true rfl | simp [cat_rf, Value.category]) (fun A ow τ M sz hH hV => ?_)
  refine yf_if_eq hX dL_years_903 (ya_in rfl) (by decide) ?_
  refine g_aload hX dL_years_906 rfl rfl ?_
  refine g_const hX dL_years_907 ?_
  refine g_const hX dL_years_909 ?_
  refine g_const hX dL_years_912 ?_
  refine l_Lwhen hX hst dL_years_915 hH hV (ya_in rfl) (ya_in rfl) (ya_in rfl) yye53 (show cs + 4 + 4 + 1 + 4 + 4 ≤ 17000 by omega) (show ss + 24 + 24 + 6 + 24 + 24 ≤ 425000 by omega) (by first | exact Nat.le_of_ble_eq_true rfl | simp [cat_rf, Value.category]) (fun A ow τ M sz hH hV => ?_)
  refine yf_if_eq hX dL_years_918 (ya_in rfl) (by decide) ?_
  refine g_aload hX dL_years_921 rfl rfl ?_
  refine g_const hX dL_years_922 ?_
  refine l_sundays hX hst dL_years_924 hH hV (ya_in rfl) yye54 (show cs + 4 + 4 + 1 + 4 + 4 + 1 ≤ 17000 by omega) (show ss + 24 + 24 + 6 + 24 + 24 + 6 ≤ 425000 by omega) (by first | exact Nat.le_of_ble_eq_true rfl | simp [cat_rf, Value.category]) (fun A ow τ M sz hH hV => ?_)
  refine yf_if_ne hX dL_years_927 (ya_in rfl) (by decide) ?_
  refine g_aload hX dL_years_930 rfl rfl ?_
  refine g_const hX dL_years_931 ?_
  refine g_const hX dL_years_932 ?_
  exact ys_g12 hX hst hR hK hH hV (by omega) (by omega)

set_option maxRecDepth 100000 in
theorem ys_g10 {X : hX} (hX : Cok X mL_years) (hst : X.1.2.1.stackTraces = false) {M0 : hM} {sz0 : Nat} {K : hK} (hR : Ret X mL_years M0 sz0 K) (hK : ∀ (M' : hM) (s9 : Nat), K (.inl (some (.int (iZ 1)))) M' s9) {h : Nat} {A : Nat → Nat → Nat} {ow : Nat → Nat × Nat} {τ : Nat → Nat → Int} {M : hM} {sz cs ss : Nat} (hH : HX X.2.2.2.2.2.2.2.2.2 h A ow (ya_TB yyS10) τ M) (hV : SV (ya_TB yyS10)) (hc : cs + 11127 ≤ 17000) (hs : ss + 277397 ≤ 425000) : G X 778 [.ref h] [] M sz cs ss := by
  refine g_aload hX dL_years_778 rfl rfl ?_
  refine g_const hX dL_years_779 ?_
  refine g_const hX dL_years_780 ?_
  refine g_const hX dL_years_781 ?_
  refine g_const hX dL_years_783 ?_
  refine l_feast hX hst dL_years_785 hH hV (ya_in rfl) (by decide) (ya_in rfl) (ya_in rfl) yye44 (show cs + 9 ≤ 17000 by omega) (show ss + 239 ≤ 425000 by omega) (by first | exact Nat.le_of_ble_eq_true rfl | simp [cat_rf, Value.category]) (fun A ow τ M sz hH hV => ?_)
  refine g_const hX dL_years_788 ?_
  refine yf_icmp_ne hX dL_years_790 (ya_in rfl) (ya_in rfl) (by decide) ?_
  refine g_aload hX dL_years_793 rfl rfl ?_
  refine g_const hX dL_years_794 ?_
  refine g_const hX dL_years_796 ?_
  refine g_const hX dL_years_799 ?_
  refine l_Lwhen hX hst dL_years_802 hH hV (ya_in rfl) (ya_in rfl) (ya_in rfl) yye45 (show cs + 9 + 4 ≤ 17000 by omega) (show ss + 239 + 24 ≤ 425000 by omega) (by first | exact Nat.le_of_ble_eq_true rfl | simp [cat_rf, Value.category]) (fun A ow τ M sz hH hV => ?_)
  refine yf_if_eq hX dL_years_805 (ya_in rfl) (by decide) ?_
  refine g_aload hX dL_years_808 rfl rfl ?_
  refine g_const hX dL_years_809 ?_
  refine g_const hX dL_years_810 ?_
  refine g_const hX dL_years_811 ?_
  refine g_const hX dL_years_813 ?_
  refine l_feast hX hst dL_years_815 hH hV (ya_in rfl) (by decide) (ya_in rfl) (ya_in rfl) yye46 (show cs + 9 + 4 + 9 ≤ 17000 by omega) (show ss + 239 + 24 + 239 ≤ 425000 by omega) (by first | exact Nat.le_of_ble_eq_true rfl | simp [cat_rf, Value.category]) (fun A ow τ M sz hH hV => ?_)
  refine g_const hX dL_years_818 ?_
  refine yf_icmp_ne hX dL_years_820 (ya_in rfl) (ya_in rfl) (by decide) ?_
  refine g_aload hX dL_years_823 rfl rfl ?_
  refine g_const hX dL_years_824 ?_
  refine g_const hX dL_years_826 ?_
  refine g_const hX dL_years_829 ?_
  refine l_Lwhen hX hst dL_years_832 hH hV (ya_in rfl) (ya_in rfl) (ya_in rfl) yye47 (show cs + 9 + 4 + 9 + 4 ≤ 17000 by omega) (show ss + 239 + 24 + 239 + 24 ≤ 425000 by omega) (by first | exact Nat.le_of_ble_eq_true rfl | simp [cat_rf, Value.category]) (fun A ow τ M sz hH hV => ?_)
  refine yf_if_eq hX dL_years_835 (ya_in rfl) (by decide) ?_
  refine g_aload hX dL_years_838 rfl rfl ?_
  refine g_const hX dL_years_839 ?_
  refine g_const hX dL_years_840 ?_
  refine g_const hX dL_years_841 ?_
  refine g_const hX dL_years_843 ?_
  refine l_feast hX hst dL_years_845 hH hV (ya_in rfl) (by decide) (ya_in rfl) (ya_in rfl) yye48 (show cs + 9 + 4 + 9 + 4 + 9 ≤ 17000 by omega) (show ss + 239 + 24 + 239 + 24 + 239 ≤ 425000 by omega) (by first | exact Nat.le_of_ble_eq_true rfl | simp [cat_rf, Value.category]) (fun A ow τ M sz hH hV => ?_)
  refine g_const hX dL_years_848 ?_
  refine yf_icmp_ne hX dL_years_850 (ya_in rfl) (ya_in rfl) (by decide) ?_
  exact ys_g11 hX hst hR hK hH hV (by omega) (by omega)

set_option maxRecDepth 100000 in
theorem ys_g9 {X : hX} (hX : Cok X mL_years) (hst : X.1.2.1.stackTraces = false) {M0 : hM} {sz0 : Nat} {K : hK} (hR : Ret X mL_years M0 sz0 K) (hK : ∀ (M' : hM) (s9 : Nat), K (.inl (some (.int (iZ 1)))) M' s9) {h : Nat} {A : Nat → Nat → Nat} {ow : Nat → Nat × Nat} {τ : Nat → Nat → Int} {M : hM} {sz cs ss : Nat} (hH : HX X.2.2.2.2.2.2.2.2.2 h A ow (ya_TB yyS9) τ M) (hV : SV (ya_TB yyS9)) (hc : cs + 11156 ≤ 17000) (hs : ss + 277756 ≤ 425000) : G X 695 [.ref h] [.int (iZ 7), .ref h] M sz cs ss := by
  refine g_const hX dL_years_695 ?_
  refine g_const hX dL_years_698 ?_
  refine l_Lwhen hX hst dL_years_700 hH hV (ya_in rfl) (ya_in rfl) (ya_in rfl) yye38 (show cs + 4 ≤ 17000 by omega) (show ss + 24 ≤ 425000 by omega) (by first | exact Nat.le_of_ble_eq_true rfl | simp [cat_rf, Value.category]) (fun A ow τ M sz hH hV => ?_)
  refine yf_if_eq hX dL_years_703 (ya_in rfl) (by decide) ?_
  refine g_aload hX dL_years_706 rfl rfl ?_
  refine g_const hX dL_years_707 ?_
  refine g_const hX dL_years_709 ?_
  refine g_const hX dL_years_712 ?_
  refine l_Lwhen hX hst dL_years_714 hH hV (ya_in rfl) (ya_in rfl) (ya_in rfl) yye39 (show cs + 4 + 4 ≤ 17000 by omega) (show ss + 24 + 24 ≤ 425000 by omega) (by first | exact Nat.le_of_ble_eq_true rfl | simp [cat_rf, Value.category]) (fun A ow τ M sz hH hV => ?_)
  refine yf_if_eq hX dL_years_717 (ya_in rfl) (by decide) ?_
  refine g_aload hX dL_years_720 rfl rfl ?_
  refine g_const hX dL_years_721 ?_
  refine g_const hX dL_years_723 ?_
  refine g_const hX dL_years_726 ?_
  refine l_Lwhen hX hst dL_years_728 hH hV (ya_in rfl) (ya_in rfl) (ya_in rfl) yye40 (show cs + 4 + 4 + 4 ≤ 17000 by omega) (show ss + 24 + 24 + 24 ≤ 425000 by omega) (by first | exact Nat.le_of_ble_eq_true rfl | simp [cat_rf, Value.category]) (fun A ow τ M sz hH hV => ?_)
  refine yf_if_eq hX dL_years_731 (ya_in rfl) (by decide) ?_
  refine g_aload hX dL_years_734 rfl rfl ?_
  refine g_const hX dL_years_735 ?_
  refine g_const hX dL_years_737 ?_
  refine g_const hX dL_years_738 ?_
  refine g_const hX dL_years_739 ?_
  refine l_feast hX hst dL_years_741 hH hV (ya_in rfl) (by decide) (ya_in rfl) (ya_in rfl) yye41 (show cs + 4 + 4 + 4 + 9 ≤ 17000 by omega) (show ss + 24 + 24 + 24 + 239 ≤ 425000 by omega) (by first | exact Nat.le_of_ble_eq_true rfl | simp [cat_rf, Value.category]) (fun A ow τ M sz hH hV => ?_)
  refine g_const hX dL_years_744 ?_
  refine yf_icmp_ne hX dL_years_746 (ya_in rfl) (ya_in rfl) (by decide) ?_
  refine g_aload hX dL_years_749 rfl rfl ?_
  refine g_const hX dL_years_750 ?_
  refine g_const hX dL_years_752 ?_
  refine g_const hX dL_years_755 ?_
  refine l_Lwhen hX hst dL_years_758 hH hV (ya_in rfl) (ya_in rfl) (ya_in rfl) yye42 (show cs + 4 + 4 + 4 + 9 + 4 ≤ 17000 by omega) (show ss + 24 + 24 + 24 + 239 + 24 ≤ 425000 by omega) (by first | exact Nat.le_of_ble_eq_true rfl | simp [cat_rf, Value.category]) (fun A ow τ M sz hH hV => ?_)
  refine yf_if_eq hX dL_years_761 (ya_in rfl) (by decide) ?_
  refine g_aload hX dL_years_764 rfl rfl ?_
  refine g_const hX dL_years_765 ?_
  refine g_const hX dL_years_766 ?_
  refine g_const hX dL_years_769 ?_
  refine l_Lwhen hX hst dL_years_772 hH hV (ya_in rfl) (ya_in rfl) (ya_in rfl) yye43 (show cs + 4 + 4 + 4 + 9 + 4 + 4 ≤ 17000 by omega) (show ss + 24 + 24 + 24 + 239 + 24 + 24 ≤ 425000 by omega) (by first | exact Nat.le_of_ble_eq_true rfl | simp [cat_rf, Value.category]) (fun A ow τ M sz hH hV => ?_)
  refine yf_if_eq hX dL_years_775 (ya_in rfl) (by decide) ?_
  exact ys_g10 hX hst hR hK hH hV (by omega) (by omega)

set_option maxRecDepth 100000 in
theorem ys_g8 {X : hX} (hX : Cok X mL_years) (hst : X.1.2.1.stackTraces = false) {M0 : hM} {sz0 : Nat} {K : hK} (hR : Ret X mL_years M0 sz0 K) (hK : ∀ (M' : hM) (s9 : Nat), K (.inl (some (.int (iZ 1)))) M' s9) {h : Nat} {A : Nat → Nat → Nat} {ow : Nat → Nat × Nat} {τ : Nat → Nat → Int} {M : hM} {sz cs ss : Nat} (hH : HX X.2.2.2.2.2.2.2.2.2 h A ow (ya_TB yyS8) τ M) (hV : SV (ya_TB yyS8)) (hc : cs + 11178 ≤ 17000) (hs : ss + 278073 ≤ 425000) : G X 622 [.ref h] [.ref h] M sz cs ss := by
  refine g_const hX dL_years_622 ?_
  refine g_const hX dL_years_623 ?_
  refine g_const hX dL_years_626 ?_
  refine l_Lwhen hX hst dL_years_629 hH hV (ya_in rfl) (ya_in rfl) (ya_in rfl) yye33 (show cs + 4 ≤ 17000 by omega) (show ss + 24 ≤ 425000 by omega) (by first | exact Nat.le_of_ble_eq_true rfl | simp [cat_rf, Value.category]) (fun A ow τ M sz hH hV => ?_)
  refine yf_if_eq hX dL_years_632 (ya_in rfl) (by decide) ?_
  refine g_aload hX dL_years_635 rfl rfl ?_
  refine g_const hX dL_years_636 ?_
  refine g_const hX dL_years_639 ?_
  refine g_const hX dL_years_640 ?_
  refine l_kept hX hst dL_years_642 hH hV (ya_in rfl) (ya_in rfl) (ya_in rfl) yye34 (show cs + 4 + 3 ≤ 17000 by omega) (show ss + 24 + 18 ≤ 425000 by omega) (by first | exact Nat.le_of_ble_eq_true rfl | simp [cat_rf, Value.category]) (fun A ow τ M sz hH hV => ?_)
  refine g_const hX dL_years_645 ?_
  refine yf_icmp_ne hX dL_years_647 (ya_in rfl) (ya_in rfl) (by decide) ?_
  refine g_aload hX dL_years_650 rfl rfl ?_
  refine g_const hX dL_years_651 ?_
  refine g_const hX dL_years_654 ?_
  refine g_const hX dL_years_655 ?_
  refine l_kept hX hst dL_years_657 hH hV (ya_in rfl) (ya_in rfl) (ya_in rfl) yye35 (show cs + 4 + 3 + 3 ≤ 17000 by omega) (show ss + 24 + 18 + 18 ≤ 425000 by omega) (by first | exact Nat.le_of_ble_eq_true rfl | simp [cat_rf, Value.category]) (fun A ow τ M sz hH hV => ?_)
  refine g_const hX dL_years_660 ?_
  refine yf_icmp_ne hX dL_years_661 (ya_in rfl) (ya_in rfl) (by decide) ?_
  refine g_aload hX dL_years_664 rfl rfl ?_
  refine g_const hX dL_years_665 ?_
  refine g_const hX dL_years_668 ?_
  refine g_const hX dL_years_669 ?_
  refine l_kept hX hst dL_years_671 hH hV (ya_in rfl) (ya_in rfl) (ya_in rfl) yye36 (show cs + 4 + 3 + 3 + 3 ≤ 17000 by omega) (show ss + 24 + 18 + 18 + 18 ≤ 425000 by omega) (by first | exact Nat.le_of_ble_eq_true rfl | simp [cat_rf, Value.category]) (fun A ow τ M sz hH hV => ?_)
  refine g_const hX dL_years_674 ?_
  refine yf_icmp_ne hX dL_years_675 (ya_in rfl) (ya_in rfl) (by decide) ?_
  refine g_aload hX dL_years_678 rfl rfl ?_
  refine g_const hX dL_years_679 ?_
  refine g_const hX dL_years_680 ?_
  refine g_const hX dL_years_681 ?_
  refine g_const hX dL_years_682 ?_
  refine l_feast hX hst dL_years_684 hH hV (ya_in rfl) (by decide) (ya_in rfl) (ya_in rfl) yye37 (show cs + 4 + 3 + 3 + 3 + 9 ≤ 17000 by omega) (show ss + 24 + 18 + 18 + 18 + 239 ≤ 425000 by omega) (by first | exact Nat.le_of_ble_eq_true rfl | simp [cat_rf, Value.category]) (fun A ow τ M sz hH hV => ?_)
  refine g_const hX dL_years_687 ?_
  refine yf_icmp_ne hX dL_years_689 (ya_in rfl) (ya_in rfl) (by decide) ?_
  refine g_aload hX dL_years_692 rfl rfl ?_
  refine g_const hX dL_years_693 ?_
  exact ys_g9 hX hst hR hK hH hV (by omega) (by omega)

set_option maxRecDepth 100000 in
theorem ys_g7 {X : hX} (hX : Cok X mL_years) (hst : X.1.2.1.stackTraces = false) {M0 : hM} {sz0 : Nat} {K : hK} (hR : Ret X mL_years M0 sz0 K) (hK : ∀ (M' : hM) (s9 : Nat), K (.inl (some (.int (iZ 1)))) M' s9) {h : Nat} {A : Nat → Nat → Nat} {ow : Nat → Nat × Nat} {τ : Nat → Nat → Int} {M : hM} {sz cs ss : Nat} (hH : HX X.2.2.2.2.2.2.2.2.2 h A ow (ya_TB yyS7) τ M) (hV : SV (ya_TB yyS7)) (hc : cs + 11195 ≤ 17000) (hs : ss + 278175 ≤ 425000) : G X 543 [.ref h] [.int (iZ 3), .int (iZ 2024), .ref h] M sz cs ss := by
  refine g_const hX dL_years_543 ?_
  refine l_kept hX hst dL_years_545 hH hV (ya_in rfl) (ya_in rfl) (ya_in rfl) yye27 (show cs + 3 ≤ 17000 by omega) (show ss + 18 ≤ 425000 by omega) (by first | exact Nat.le_of_ble_eq_true rfl | simp [cat_rf, Value.category]) (fun A ow τ M sz hH hV => ?_)
  refine g_const hX dL_years_548 ?_
  refine yf_icmp_ne hX dL_years_549 (ya_in rfl) (ya_in rfl) (by decide) ?_
  refine g_aload hX dL_years_552 rfl rfl ?_
  refine g_const hX dL_years_553 ?_
  refine g_const hX dL_years_556 ?_
  refine g_const hX dL_years_557 ?_
  refine l_kept hX hst dL_years_559 hH hV (ya_in rfl) (ya_in rfl) (ya_in rfl) yye28 (show cs + 3 + 3 ≤ 17000 by omega) (show ss + 18 + 18 ≤ 425000 by omega) (by first | exact Nat.le_of_ble_eq_true rfl | simp [cat_rf, Value.category]) (fun A ow τ M sz hH hV => ?_)
  refine g_const hX dL_years_562 ?_
  refine yf_icmp_ne hX dL_years_563 (ya_in rfl) (ya_in rfl) (by decide) ?_
  refine g_aload hX dL_years_566 rfl rfl ?_
  refine g_const hX dL_years_567 ?_
  refine g_const hX dL_years_570 ?_
  refine g_const hX dL_years_571 ?_
  refine l_kept hX hst dL_years_573 hH hV (ya_in rfl) (ya_in rfl) (ya_in rfl) yye29 (show cs + 3 + 3 + 3 ≤ 17000 by omega) (show ss + 18 + 18 + 18 ≤ 425000 by omega) (by first | exact Nat.le_of_ble_eq_true rfl | simp [cat_rf, Value.category]) (fun A ow τ M sz hH hV => ?_)
  refine g_const hX dL_years_576 ?_
  refine yf_icmp_ne hX dL_years_578 (ya_in rfl) (ya_in rfl) (by decide) ?_
  refine g_aload hX dL_years_581 rfl rfl ?_
  refine g_const hX dL_years_582 ?_
  refine g_const hX dL_years_585 ?_
  refine g_const hX dL_years_587 ?_
  refine l_kept hX hst dL_years_588 hH hV (ya_in rfl) (ya_in rfl) (ya_in rfl) yye30 (show cs + 3 + 3 + 3 + 3 ≤ 17000 by omega) (show ss + 18 + 18 + 18 + 18 ≤ 425000 by omega) (by first | exact Nat.le_of_ble_eq_true rfl | simp [cat_rf, Value.category]) (fun A ow τ M sz hH hV => ?_)
  refine g_const hX dL_years_591 ?_
  refine yt_icmp_eq hX dL_years_593 (ya_in rfl) (ya_in rfl) (by decide) ?_
  refine g_aload hX dL_years_598 rfl rfl ?_
  refine g_const hX dL_years_599 ?_
  refine g_const hX dL_years_600 ?_
  refine g_const hX dL_years_603 ?_
  refine l_Lwhen hX hst dL_years_606 hH hV (ya_in rfl) (ya_in rfl) (ya_in rfl) yye31 (show cs + 3 + 3 + 3 + 3 + 4 ≤ 17000 by omega) (show ss + 18 + 18 + 18 + 18 + 24 ≤ 425000 by omega) (by first | exact Nat.le_of_ble_eq_true rfl | simp [cat_rf, Value.category]) (fun A ow τ M sz hH hV => ?_)
  refine yf_if_eq hX dL_years_609 (ya_in rfl) (by decide) ?_
  refine g_aload hX dL_years_612 rfl rfl ?_
  refine g_const hX dL_years_613 ?_
  refine l_sundays hX hst dL_years_615 hH hV (ya_in rfl) yye32 (show cs + 3 + 3 + 3 + 3 + 4 + 1 ≤ 17000 by omega) (show ss + 18 + 18 + 18 + 18 + 24 + 6 ≤ 425000 by omega) (by first | exact Nat.le_of_ble_eq_true rfl | simp [cat_rf, Value.category]) (fun A ow τ M sz hH hV => ?_)
  refine yf_if_ne hX dL_years_618 (ya_in rfl) (by decide) ?_
  refine g_aload hX dL_years_621 rfl rfl ?_
  exact ys_g8 hX hst hR hK hH hV (by omega) (by omega)

set_option maxRecDepth 100000 in
theorem ys_g6 {X : hX} (hX : Cok X mL_years) (hst : X.1.2.1.stackTraces = false) {M0 : hM} {sz0 : Nat} {K : hK} (hR : Ret X mL_years M0 sz0 K) (hK : ∀ (M' : hM) (s9 : Nat), K (.inl (some (.int (iZ 1)))) M' s9) {h : Nat} {A : Nat → Nat → Nat} {ow : Nat → Nat × Nat} {τ : Nat → Nat → Int} {M : hM} {sz cs ss : Nat} (hH : HX X.2.2.2.2.2.2.2.2.2 h A ow (ya_TB yyS7) τ M) (hV : SV (ya_TB yyS7)) (hc : cs + 11219 ≤ 17000) (hs : ss + 278319 ≤ 425000) : G X 460 [.ref h] [.int (iZ 2023), .int (iZ 1), .ref h] M sz cs ss := by
  refine g_const hX dL_years_460 ?_
  refine l_Lwhen hX hst dL_years_462 hH hV (ya_in rfl) (ya_in rfl) (ya_in rfl) yye21 (show cs + 4 ≤ 17000 by omega) (show ss + 24 ≤ 425000 by omega) (by first | exact Nat.le_of_ble_eq_true rfl | simp [cat_rf, Value.category]) (fun A ow τ M sz hH hV => ?_)
  refine yf_if_eq hX dL_years_465 (ya_in rfl) (by decide) ?_
  refine g_aload hX dL_years_468 rfl rfl ?_
  refine g_const hX dL_years_469 ?_
  refine g_const hX dL_years_470 ?_
  refine g_const hX dL_years_473 ?_
  refine l_Lwhen hX hst dL_years_476 hH hV (ya_in rfl) (ya_in rfl) (ya_in rfl) yye22 (show cs + 4 + 4 ≤ 17000 by omega) (show ss + 24 + 24 ≤ 425000 by omega) (by first | exact Nat.le_of_ble_eq_true rfl | simp [cat_rf, Value.category]) (fun A ow τ M sz hH hV => ?_)
  refine yf_if_eq hX dL_years_479 (ya_in rfl) (by decide) ?_
  refine g_aload hX dL_years_482 rfl rfl ?_
  refine g_const hX dL_years_483 ?_
  refine g_const hX dL_years_484 ?_
  refine g_const hX dL_years_487 ?_
  refine l_Lwhen hX hst dL_years_490 hH hV (ya_in rfl) (ya_in rfl) (ya_in rfl) yye23 (show cs + 4 + 4 + 4 ≤ 17000 by omega) (show ss + 24 + 24 + 24 ≤ 425000 by omega) (by first | exact Nat.le_of_ble_eq_true rfl | simp [cat_rf, Value.category]) (fun A ow τ M sz hH hV => ?_)
  refine yf_if_eq hX dL_years_493 (ya_in rfl) (by decide) ?_
  refine g_aload hX dL_years_496 rfl rfl ?_
  refine g_const hX dL_years_497 ?_
  refine g_const hX dL_years_498 ?_
  refine g_const hX dL_years_501 ?_
  refine l_Lwhen hX hst dL_years_504 hH hV (ya_in rfl) (ya_in rfl) (ya_in rfl) yye24 (show cs + 4 + 4 + 4 + 4 ≤ 17000 by omega) (show ss + 24 + 24 + 24 + 24 ≤ 425000 by omega) (by first | exact Nat.le_of_ble_eq_true rfl | simp [cat_rf, Value.category]) (fun A ow τ M sz hH hV => ?_)
  refine yf_if_eq hX dL_years_507 (ya_in rfl) (by decide) ?_
  refine g_aload hX dL_years_510 rfl rfl ?_
  refine g_const hX dL_years_511 ?_
  refine g_const hX dL_years_512 ?_
  refine g_const hX dL_years_515 ?_
  refine l_Lwhen hX hst dL_years_518 hH hV (ya_in rfl) (ya_in rfl) (ya_in rfl) yye25 (show cs + 4 + 4 + 4 + 4 + 4 ≤ 17000 by omega) (show ss + 24 + 24 + 24 + 24 + 24 ≤ 425000 by omega) (by first | exact Nat.le_of_ble_eq_true rfl | simp [cat_rf, Value.category]) (fun A ow τ M sz hH hV => ?_)
  refine yf_if_eq hX dL_years_521 (ya_in rfl) (by decide) ?_
  refine g_aload hX dL_years_524 rfl rfl ?_
  refine g_const hX dL_years_525 ?_
  refine g_const hX dL_years_526 ?_
  refine g_const hX dL_years_529 ?_
  refine l_Lwhen hX hst dL_years_532 hH hV (ya_in rfl) (ya_in rfl) (ya_in rfl) yye26 (show cs + 4 + 4 + 4 + 4 + 4 + 4 ≤ 17000 by omega) (show ss + 24 + 24 + 24 + 24 + 24 + 24 ≤ 425000 by omega) (by first | exact Nat.le_of_ble_eq_true rfl | simp [cat_rf, Value.category]) (fun A ow τ M sz hH hV => ?_)
  refine yf_if_eq hX dL_years_535 (ya_in rfl) (by decide) ?_
  refine g_aload hX dL_years_538 rfl rfl ?_
  refine g_const hX dL_years_539 ?_
  refine g_const hX dL_years_542 ?_
  exact ys_g7 hX hst hR hK hH hV (by omega) (by omega)

set_option maxRecDepth 100000 in
theorem ys_g5 {X : hX} (hX : Cok X mL_years) (hst : X.1.2.1.stackTraces = false) {M0 : hM} {sz0 : Nat} {K : hK} (hR : Ret X mL_years M0 sz0 K) (hK : ∀ (M' : hM) (s9 : Nat), K (.inl (some (.int (iZ 1)))) M' s9) {h : Nat} {A : Nat → Nat → Nat} {ow : Nat → Nat × Nat} {τ : Nat → Nat → Int} {M : hM} {sz cs ss : Nat} (hH : HX X.2.2.2.2.2.2.2.2.2 h A ow (ya_TB yyS6) τ M) (hV : SV (ya_TB yyS6)) (hc : cs + 13938 ≤ 17000) (hs : ss + 346118 ≤ 425000) : G X 384 [.ref h] [.int (iZ 5), .int (iZ 5)] M sz cs ss := by
  refine yf_icmp_ne hX dL_years_384 (ya_in rfl) (ya_in rfl) (by decide) ?_
  refine g_aload hX dL_years_387 rfl rfl ?_
  refine g_const hX dL_years_388 ?_
  refine g_const hX dL_years_389 ?_
  refine g_const hX dL_years_392 ?_
  refine l_Lwhen hX hst dL_years_395 hH hV (ya_in rfl) (ya_in rfl) (ya_in rfl) yye17 (show cs + 4 ≤ 17000 by omega) (show ss + 24 ≤ 425000 by omega) (by first | exact Nat.le_of_ble_eq_true rfl | simp [cat_rf, Value.category]) (fun A ow τ M sz hH hV => ?_)
  refine yf_if_eq hX dL_years_398 (ya_in rfl) (by decide) ?_
  refine g_aload hX dL_years_401 rfl rfl ?_
  refine g_const hX dL_years_402 ?_
  refine g_const hX dL_years_404 ?_
  refine g_const hX dL_years_405 ?_
  refine l_moving hX hst dL_years_407 hH hV (ya_in rfl) (by decide) (ya_in rfl) yye18 (show cs + 4 + 7 ≤ 17000 by omega) (show ss + 24 + 227 ≤ 425000 by omega) (by first | exact Nat.le_of_ble_eq_true rfl | simp [cat_rf, Value.category]) (fun A ow τ M sz hH hV => ?_)
  refine g_const hX dL_years_410 ?_
  refine yf_icmp_ne hX dL_years_412 (ya_in rfl) (ya_in rfl) (by decide) ?_
  refine g_aload hX dL_years_415 rfl rfl ?_
  refine g_const hX dL_years_416 ?_
  refine g_const hX dL_years_417 ?_
  refine g_const hX dL_years_418 ?_
  refine g_const hX dL_years_420 ?_
  refine l_refuses hX hst dL_years_421 hH hV (by decide +kernel) (by decide +kernel) (by decide +kernel) (by decide +kernel) (show cs + 4 + 7 + 2700 ≤ 17000 by omega) (show ss + 24 + 227 + 67500 ≤ 425000 by omega) (by first | exact Nat.le_of_ble_eq_true rfl | simp [cat_rf, Value.category]) (fun A ow τ M sz hH hV => ?_)
  refine yf_if_eq hX dL_years_424 (ya_in rfl) (by decide) ?_
  refine g_aload hX dL_years_427 rfl rfl ?_
  refine g_const hX dL_years_428 ?_
  refine g_const hX dL_years_429 ?_
  refine g_const hX dL_years_432 ?_
  refine l_Lwhen hX hst dL_years_435 hH hV (ya_in rfl) (ya_in rfl) (ya_in rfl) yye19 (show cs + 4 + 7 + 2700 + 4 ≤ 17000 by omega) (show ss + 24 + 227 + 67500 + 24 ≤ 425000 by omega) (by first | exact Nat.le_of_ble_eq_true rfl | simp [cat_rf, Value.category]) (fun A ow τ M sz hH hV => ?_)
  refine yf_if_eq hX dL_years_438 (ya_in rfl) (by decide) ?_
  refine g_aload hX dL_years_441 rfl rfl ?_
  refine g_const hX dL_years_442 ?_
  refine g_const hX dL_years_443 ?_
  refine g_const hX dL_years_446 ?_
  refine l_Lwhen hX hst dL_years_449 hH hV (ya_in rfl) (ya_in rfl) (ya_in rfl) yye20 (show cs + 4 + 7 + 2700 + 4 + 4 ≤ 17000 by omega) (show ss + 24 + 227 + 67500 + 24 + 24 ≤ 425000 by omega) (by first | exact Nat.le_of_ble_eq_true rfl | simp [cat_rf, Value.category]) (fun A ow τ M sz hH hV => ?_)
  refine yf_if_eq hX dL_years_452 (ya_in rfl) (by decide) ?_
  refine g_aload hX dL_years_455 rfl rfl ?_
  refine g_const hX dL_years_456 ?_
  refine g_const hX dL_years_457 ?_
  exact ys_g6 hX hst hR hK hH hV (by omega) (by omega)

set_option maxRecDepth 100000 in
theorem ys_g4 {X : hX} (hX : Cok X mL_years) (hst : X.1.2.1.stackTraces = false) {M0 : hM} {sz0 : Nat} {K : hK} (hR : Ret X mL_years M0 sz0 K) (hK : ∀ (M' : hM) (s9 : Nat), K (.inl (some (.int (iZ 1)))) M' s9) {h : Nat} {A : Nat → Nat → Nat} {ow : Nat → Nat × Nat} {τ : Nat → Nat → Int} {M : hM} {sz cs ss : Nat} (hH : HX X.2.2.2.2.2.2.2.2.2 h A ow (ya_TB yyS2) τ M) (hV : SV (ya_TB yyS2)) (hc : cs + 13972 ≤ 17000) (hs : ss + 347062 ≤ 425000) : G X 317 [.ref h] [.int (iZ 1)] M sz cs ss := by
  refine g_const hX dL_years_317 ?_
  refine yf_icmp_ne hX dL_years_318 (ya_in rfl) (ya_in rfl) (by decide) ?_
  refine g_aload hX dL_years_321 rfl rfl ?_
  refine g_const hX dL_years_322 ?_
  refine g_const hX dL_years_324 ?_
  refine g_const hX dL_years_325 ?_
  refine l_moving hX hst dL_years_327 hH hV (ya_in rfl) (by decide) (ya_in rfl) yye12 (show cs + 7 ≤ 17000 by omega) (show ss + 227 ≤ 425000 by omega) (by first | exact Nat.le_of_ble_eq_true rfl | simp [cat_rf, Value.category]) (fun A ow τ M sz hH hV => ?_)
  refine g_const hX dL_years_330 ?_
  refine yf_icmp_ne hX dL_years_331 (ya_in rfl) (ya_in rfl) (by decide) ?_
  refine g_aload hX dL_years_334 rfl rfl ?_
  refine g_const hX dL_years_335 ?_
  refine g_const hX dL_years_337 ?_
  refine g_const hX dL_years_338 ?_
  refine g_const hX dL_years_339 ?_
  refine l_feast hX hst dL_years_341 hH hV (ya_in rfl) (by decide) (ya_in rfl) (ya_in rfl) yye13 (show cs + 7 + 9 ≤ 17000 by omega) (show ss + 227 + 239 ≤ 425000 by omega) (by first | exact Nat.le_of_ble_eq_true rfl | simp [cat_rf, Value.category]) (fun A ow τ M sz hH hV => ?_)
  refine g_const hX dL_years_344 ?_
  refine yf_icmp_ne hX dL_years_345 (ya_in rfl) (ya_in rfl) (by decide) ?_
  refine g_aload hX dL_years_348 rfl rfl ?_
  refine g_const hX dL_years_349 ?_
  refine g_const hX dL_years_350 ?_
  refine g_const hX dL_years_353 ?_
  refine l_Lwhen hX hst dL_years_356 hH hV (ya_in rfl) (ya_in rfl) (ya_in rfl) yye14 (show cs + 7 + 9 + 4 ≤ 17000 by omega) (show ss + 227 + 239 + 24 ≤ 425000 by omega) (by first | exact Nat.le_of_ble_eq_true rfl | simp [cat_rf, Value.category]) (fun A ow τ M sz hH hV => ?_)
  refine yf_if_eq hX dL_years_359 (ya_in rfl) (by decide) ?_
  refine g_aload hX dL_years_362 rfl rfl ?_
  refine g_const hX dL_years_363 ?_
  refine g_const hX dL_years_365 ?_
  refine g_const hX dL_years_366 ?_
  refine l_moving hX hst dL_years_367 hH hV (ya_in rfl) (by decide) (ya_in rfl) yye15 (show cs + 7 + 9 + 4 + 7 ≤ 17000 by omega) (show ss + 227 + 239 + 24 + 227 ≤ 425000 by omega) (by first | exact Nat.le_of_ble_eq_true rfl | simp [cat_rf, Value.category]) (fun A ow τ M sz hH hV => ?_)
  refine g_const hX dL_years_370 ?_
  refine yf_icmp_ne hX dL_years_371 (ya_in rfl) (ya_in rfl) (by decide) ?_
  refine g_aload hX dL_years_374 rfl rfl ?_
  refine g_const hX dL_years_375 ?_
  refine g_const hX dL_years_377 ?_
  refine g_const hX dL_years_378 ?_
  refine l_moving hX hst dL_years_380 hH hV (ya_in rfl) (by decide) (ya_in rfl) yye16 (show cs + 7 + 9 + 4 + 7 + 7 ≤ 17000 by omega) (show ss + 227 + 239 + 24 + 227 + 227 ≤ 425000 by omega) (by first | exact Nat.le_of_ble_eq_true rfl | simp [cat_rf, Value.category]) (fun A ow τ M sz hH hV => ?_)
  refine g_const hX dL_years_383 ?_
  exact ys_g5 hX hst hR hK hH hV (by omega) (by omega)

set_option maxRecDepth 100000 in
theorem ys_g3 {X : hX} (hX : Cok X mL_years) (hst : X.1.2.1.stackTraces = false) {M0 : hM} {sz0 : Nat} {K : hK} (hR : Ret X mL_years M0 sz0 K) (hK : ∀ (M' : hM) (s9 : Nat), K (.inl (some (.int (iZ 1)))) M' s9) {h : Nat} {A : Nat → Nat → Nat} {ow : Nat → Nat × Nat} {τ : Nat → Nat → Int} {M : hM} {sz cs ss : Nat} (hH : HX X.2.2.2.2.2.2.2.2.2 h A ow (ya_TB yyS0) τ M) (hV : SV (ya_TB yyS0)) (hc : cs + 13999 ≤ 17000) (hs : ss + 347594 ≤ 425000) : G X 243 [.ref h] [.int (iZ 2)] M sz cs ss := by
  refine g_const hX dL_years_243 ?_
  refine yf_icmp_ne hX dL_years_244 (ya_in rfl) (ya_in rfl) (by decide) ?_
  refine g_aload hX dL_years_247 rfl rfl ?_
  refine g_const hX dL_years_248 ?_
  refine g_const hX dL_years_251 ?_
  refine g_const hX dL_years_252 ?_
  refine l_kept hX hst dL_years_254 hH hV (ya_in rfl) (ya_in rfl) (ya_in rfl) yye7 (show cs + 3 ≤ 17000 by omega) (show ss + 18 ≤ 425000 by omega) (by first | exact Nat.le_of_ble_eq_true rfl | simp [cat_rf, Value.category]) (fun A ow τ M sz hH hV => ?_)
  refine g_const hX dL_years_257 ?_
  refine yf_icmp_ne hX dL_years_259 (ya_in rfl) (ya_in rfl) (by decide) ?_
  refine g_aload hX dL_years_262 rfl rfl ?_
  refine g_const hX dL_years_263 ?_
  refine g_const hX dL_years_266 ?_
  refine g_const hX dL_years_267 ?_
  refine l_kept hX hst dL_years_269 hH hV (ya_in rfl) (ya_in rfl) (ya_in rfl) yye8 (show cs + 3 + 3 ≤ 17000 by omega) (show ss + 18 + 18 ≤ 425000 by omega) (by first | exact Nat.le_of_ble_eq_true rfl | simp [cat_rf, Value.category]) (fun A ow τ M sz hH hV => ?_)
  refine g_const hX dL_years_272 ?_
  refine yf_icmp_ne hX dL_years_274 (ya_in rfl) (ya_in rfl) (by decide) ?_
  refine g_aload hX dL_years_277 rfl rfl ?_
  refine g_const hX dL_years_278 ?_
  refine g_const hX dL_years_281 ?_
  refine g_const hX dL_years_282 ?_
  refine l_theme hX hst dL_years_284 hH hV (ya_in rfl) (ya_in rfl) (ya_in rfl) yye9 (show cs + 3 + 3 + 3 ≤ 17000 by omega) (show ss + 18 + 18 + 18 ≤ 425000 by omega) (by first | exact Nat.le_of_ble_eq_true rfl | simp [cat_rf, Value.category]) (fun A ow τ M sz hH hV => ?_)
  refine g_const hX dL_years_287 ?_
  refine yt_icmp_eq hX dL_years_289 (ya_in rfl) (ya_in rfl) (by decide) ?_
  refine g_aload hX dL_years_294 rfl rfl ?_
  refine g_const hX dL_years_295 ?_
  refine g_const hX dL_years_297 ?_
  refine g_const hX dL_years_298 ?_
  refine g_const hX dL_years_300 ?_
  refine l_feast hX hst dL_years_302 hH hV (ya_in rfl) (by decide) (ya_in rfl) (ya_in rfl) yye10 (show cs + 3 + 3 + 3 + 9 ≤ 17000 by omega) (show ss + 18 + 18 + 18 + 239 ≤ 425000 by omega) (by first | exact Nat.le_of_ble_eq_true rfl | simp [cat_rf, Value.category]) (fun A ow τ M sz hH hV => ?_)
  refine yf_if_ne hX dL_years_305 (ya_in rfl) (by decide) ?_
  refine g_aload hX dL_years_308 rfl rfl ?_
  refine g_const hX dL_years_309 ?_
  refine g_const hX dL_years_310 ?_
  refine g_const hX dL_years_311 ?_
  refine g_const hX dL_years_312 ?_
  refine l_feast hX hst dL_years_314 hH hV (ya_in rfl) (by decide) (ya_in rfl) (ya_in rfl) yye11 (show cs + 3 + 3 + 3 + 9 + 9 ≤ 17000 by omega) (show ss + 18 + 18 + 18 + 239 + 239 ≤ 425000 by omega) (by first | exact Nat.le_of_ble_eq_true rfl | simp [cat_rf, Value.category]) (fun A ow τ M sz hH hV => ?_)
  exact ys_g4 hX hst hR hK hH hV (by omega) (by omega)

set_option maxRecDepth 100000 in
theorem ys_g2 {X : hX} (hX : Cok X mL_years) (hst : X.1.2.1.stackTraces = false) {M0 : hM} {sz0 : Nat} {K : hK} (hR : Ret X mL_years M0 sz0 K) (hK : ∀ (M' : hM) (s9 : Nat), K (.inl (some (.int (iZ 1)))) M' s9) {h : Nat} {A : Nat → Nat → Nat} {ow : Nat → Nat × Nat} {τ : Nat → Nat → Int} {M : hM} {sz cs ss : Nat} (hH : HX X.2.2.2.2.2.2.2.2.2 h A ow (ya_TB yyS0) τ M) (hV : SV (ya_TB yyS0)) (hc : cs + 14017 ≤ 17000) (hs : ss + 347702 ≤ 425000) : G X 168 [.ref h] [.int (iZ 3), .int (iZ 2024), .ref h] M sz cs ss := by
  refine g_const hX dL_years_168 ?_
  refine l_weekday hX hst dL_years_170 hH hV (ya_in rfl) (ya_in rfl) (ya_in rfl) yye1 (show cs + 3 ≤ 17000 by omega) (show ss + 18 ≤ 425000 by omega) (by first | exact Nat.le_of_ble_eq_true rfl | simp [cat_rf, Value.category]) (fun A ow τ M sz hH hV => ?_)
  refine yf_if_ne hX dL_years_173 (ya_in rfl) (by decide) ?_
  refine g_aload hX dL_years_176 rfl rfl ?_
  refine g_const hX dL_years_177 ?_
  refine g_const hX dL_years_180 ?_
  refine g_const hX dL_years_181 ?_
  refine l_weekday hX hst dL_years_182 hH hV (ya_in rfl) (ya_in rfl) (ya_in rfl) yye2 (show cs + 3 + 3 ≤ 17000 by omega) (show ss + 18 + 18 ≤ 425000 by omega) (by first | exact Nat.le_of_ble_eq_true rfl | simp [cat_rf, Value.category]) (fun A ow τ M sz hH hV => ?_)
  refine g_const hX dL_years_185 ?_
  refine yf_icmp_ne hX dL_years_187 (ya_in rfl) (ya_in rfl) (by decide) ?_
  refine g_aload hX dL_years_190 rfl rfl ?_
  refine g_const hX dL_years_191 ?_
  refine g_const hX dL_years_194 ?_
  refine g_const hX dL_years_196 ?_
  refine l_weekday hX hst dL_years_198 hH hV (ya_in rfl) (ya_in rfl) (ya_in rfl) yye3 (show cs + 3 + 3 + 3 ≤ 17000 by omega) (show ss + 18 + 18 + 18 ≤ 425000 by omega) (by first | exact Nat.le_of_ble_eq_true rfl | simp [cat_rf, Value.category]) (fun A ow τ M sz hH hV => ?_)
  refine g_const hX dL_years_201 ?_
  refine yf_icmp_ne hX dL_years_202 (ya_in rfl) (ya_in rfl) (by decide) ?_
  refine g_aload hX dL_years_205 rfl rfl ?_
  refine g_const hX dL_years_206 ?_
  refine g_const hX dL_years_209 ?_
  refine g_const hX dL_years_210 ?_
  refine l_weekday hX hst dL_years_211 hH hV (ya_in rfl) (ya_in rfl) (ya_in rfl) yye4 (show cs + 3 + 3 + 3 + 3 ≤ 17000 by omega) (show ss + 18 + 18 + 18 + 18 ≤ 425000 by omega) (by first | exact Nat.le_of_ble_eq_true rfl | simp [cat_rf, Value.category]) (fun A ow τ M sz hH hV => ?_)
  refine g_const hX dL_years_214 ?_
  refine yf_icmp_ne hX dL_years_215 (ya_in rfl) (ya_in rfl) (by decide) ?_
  refine g_aload hX dL_years_218 rfl rfl ?_
  refine g_const hX dL_years_219 ?_
  refine g_const hX dL_years_222 ?_
  refine g_const hX dL_years_224 ?_
  refine l_weekday hX hst dL_years_226 hH hV (ya_in rfl) (ya_in rfl) (ya_in rfl) yye5 (show cs + 3 + 3 + 3 + 3 + 3 ≤ 17000 by omega) (show ss + 18 + 18 + 18 + 18 + 18 ≤ 425000 by omega) (by first | exact Nat.le_of_ble_eq_true rfl | simp [cat_rf, Value.category]) (fun A ow τ M sz hH hV => ?_)
  refine g_const hX dL_years_229 ?_
  refine yf_icmp_ne hX dL_years_230 (ya_in rfl) (ya_in rfl) (by decide) ?_
  refine g_aload hX dL_years_233 rfl rfl ?_
  refine g_const hX dL_years_234 ?_
  refine g_const hX dL_years_237 ?_
  refine g_const hX dL_years_238 ?_
  refine l_weekday hX hst dL_years_240 hH hV (ya_in rfl) (ya_in rfl) (ya_in rfl) yye6 (show cs + 3 + 3 + 3 + 3 + 3 + 3 ≤ 17000 by omega) (show ss + 18 + 18 + 18 + 18 + 18 + 18 ≤ 425000 by omega) (by first | exact Nat.le_of_ble_eq_true rfl | simp [cat_rf, Value.category]) (fun A ow τ M sz hH hV => ?_)
  exact ys_g3 hX hst hR hK hH hV (by omega) (by omega)

set_option maxRecDepth 100000 in
theorem ys_g1 {X : hX} (hX : Cok X mL_years) (hst : X.1.2.1.stackTraces = false) {M0 : hM} {sz0 : Nat} {K : hK} (hR : Ret X mL_years M0 sz0 K) (hK : ∀ (M' : hM) (s9 : Nat), K (.inl (some (.int (iZ 1)))) M' s9) {h : Nat} {A : Nat → Nat → Nat} {ow : Nat → Nat × Nat} {τ : Nat → Nat → Int} {M : hM} {sz cs ss : Nat} (hH : HX X.2.2.2.2.2.2.2.2.2 h A ow (ya_TB yyS0) τ M) (hV : SV (ya_TB yyS0)) (hc : cs + 14030 ≤ 17000) (hs : ss + 347780 ≤ 425000) : G X 81 [.ref h] [.int (iZ 1)] M sz cs ss := by
  refine yf_if_eq hX dL_years_81 (ya_in rfl) (by decide) ?_
  refine g_aload hX dL_years_84 rfl rfl ?_
  refine g_const hX dL_years_85 ?_
  refine g_const hX dL_years_88 ?_
  refine l_Leaster hX hst dL_years_91 hH hV (by decide) (ya_in rfl) (by decide +kernel) (show cs + 2 ≤ 17000 by omega) (show ss + 12 ≤ 425000 by omega) (by first | exact Nat.le_of_ble_eq_true rfl | simp [cat_rf, Value.category]) (fun A ow τ M sz hH hV => ?_)
  refine yf_if_eq hX dL_years_94 (ya_in rfl) (by decide) ?_
  refine g_aload hX dL_years_97 rfl rfl ?_
  refine g_const hX dL_years_98 ?_
  refine g_const hX dL_years_101 ?_
  refine l_Leaster hX hst dL_years_104 hH hV (by decide) (ya_in rfl) (by decide +kernel) (show cs + 2 + 2 ≤ 17000 by omega) (show ss + 12 + 12 ≤ 425000 by omega) (by first | exact Nat.le_of_ble_eq_true rfl | simp [cat_rf, Value.category]) (fun A ow τ M sz hH hV => ?_)
  refine yf_if_eq hX dL_years_107 (ya_in rfl) (by decide) ?_
  refine g_aload hX dL_years_110 rfl rfl ?_
  refine g_const hX dL_years_111 ?_
  refine g_const hX dL_years_114 ?_
  refine l_Leaster hX hst dL_years_117 hH hV (by decide) (ya_in rfl) (by decide +kernel) (show cs + 2 + 2 + 2 ≤ 17000 by omega) (show ss + 12 + 12 + 12 ≤ 425000 by omega) (by first | exact Nat.le_of_ble_eq_true rfl | simp [cat_rf, Value.category]) (fun A ow τ M sz hH hV => ?_)
  refine yf_if_eq hX dL_years_120 (ya_in rfl) (by decide) ?_
  refine g_aload hX dL_years_123 rfl rfl ?_
  refine g_const hX dL_years_124 ?_
  refine g_const hX dL_years_127 ?_
  refine l_Leaster hX hst dL_years_130 hH hV (by decide) (ya_in rfl) (by decide +kernel) (show cs + 2 + 2 + 2 + 2 ≤ 17000 by omega) (show ss + 12 + 12 + 12 + 12 ≤ 425000 by omega) (by first | exact Nat.le_of_ble_eq_true rfl | simp [cat_rf, Value.category]) (fun A ow τ M sz hH hV => ?_)
  refine yf_if_eq hX dL_years_133 (ya_in rfl) (by decide) ?_
  refine g_aload hX dL_years_136 rfl rfl ?_
  refine g_const hX dL_years_137 ?_
  refine g_const hX dL_years_140 ?_
  refine l_Leaster hX hst dL_years_143 hH hV (by decide) (ya_in rfl) (by decide +kernel) (show cs + 2 + 2 + 2 + 2 + 2 ≤ 17000 by omega) (show ss + 12 + 12 + 12 + 12 + 12 ≤ 425000 by omega) (by first | exact Nat.le_of_ble_eq_true rfl | simp [cat_rf, Value.category]) (fun A ow τ M sz hH hV => ?_)
  refine yf_if_eq hX dL_years_146 (ya_in rfl) (by decide) ?_
  refine g_aload hX dL_years_149 rfl rfl ?_
  refine g_const hX dL_years_150 ?_
  refine g_const hX dL_years_153 ?_
  refine g_const hX dL_years_154 ?_
  refine l_weekday hX hst dL_years_155 hH hV (ya_in rfl) (ya_in rfl) (ya_in rfl) yye0 (show cs + 2 + 2 + 2 + 2 + 2 + 3 ≤ 17000 by omega) (show ss + 12 + 12 + 12 + 12 + 12 + 18 ≤ 425000 by omega) (by first | exact Nat.le_of_ble_eq_true rfl | simp [cat_rf, Value.category]) (fun A ow τ M sz hH hV => ?_)
  refine g_const hX dL_years_158 ?_
  refine yf_icmp_ne hX dL_years_160 (ya_in rfl) (ya_in rfl) (by decide) ?_
  refine g_aload hX dL_years_163 rfl rfl ?_
  refine g_const hX dL_years_164 ?_
  refine g_const hX dL_years_167 ?_
  exact ys_g2 hX hst hR hK hH hV (by omega) (by omega)

set_option maxRecDepth 100000 in
theorem ys_g0 {X : hX} (hX : Cok X mL_years) (hst : X.1.2.1.stackTraces = false) {M0 : hM} {sz0 : Nat} {K : hK} (hR : Ret X mL_years M0 sz0 K) (hK : ∀ (M' : hM) (s9 : Nat), K (.inl (some (.int (iZ 1)))) M' s9) {M : hM} {sz cs ss : Nat} (hc : cs + 16750 ≤ 17000) (hs : ss + 415754 ≤ 425000) : G X 0 [U9] [] M sz cs ss := by
  refine g_drop ?_
  refine l_new hX hst dL_years_0 dL_years_3 dL_years_4 (show cs + 10 ≤ 17000 by omega) (show ss + 414 ≤ 425000 by omega) (fun h A ow τ M sz hH hV => ?_)
  rw [ya_TB0] at hH hV
  refine g_astore hX dL_years_7 rfl ?_
  dsimp only [List.set]
  refine g_aload hX dL_years_8 rfl rfl ?_
  refine g_const hX dL_years_9 ?_
  refine g_const hX dL_years_10 ?_
  refine g_const hX dL_years_11 ?_
  refine g_const hX dL_years_12 ?_
  refine l_refuses hX hst dL_years_13 hH hV (by decide +kernel) (by decide +kernel) (by decide +kernel) (by decide +kernel) (show cs + 10 + 2700 ≤ 17000 by omega) (show ss + 414 + 67500 ≤ 425000 by omega) (by first | exact Nat.le_of_ble_eq_true rfl | simp [cat_rf, Value.category]) (fun A ow τ M sz hH hV => ?_)
  refine yf_if_eq hX dL_years_16 (ya_in rfl) (by decide) ?_
  refine g_aload hX dL_years_19 rfl rfl ?_
  refine g_const hX dL_years_20 ?_
  refine g_const hX dL_years_23 ?_
  refine l_Leaster hX hst dL_years_26 hH hV (by decide) (ya_in rfl) (by decide +kernel) (show cs + 10 + 2700 + 2 ≤ 17000 by omega) (show ss + 414 + 67500 + 12 ≤ 425000 by omega) (by first | exact Nat.le_of_ble_eq_true rfl | simp [cat_rf, Value.category]) (fun A ow τ M sz hH hV => ?_)
  refine yf_if_eq hX dL_years_29 (ya_in rfl) (by decide) ?_
  refine g_aload hX dL_years_32 rfl rfl ?_
  refine g_const hX dL_years_33 ?_
  refine g_const hX dL_years_36 ?_
  refine l_Leaster hX hst dL_years_39 hH hV (by decide) (ya_in rfl) (by decide +kernel) (show cs + 10 + 2700 + 2 + 2 ≤ 17000 by omega) (show ss + 414 + 67500 + 12 + 12 ≤ 425000 by omega) (by first | exact Nat.le_of_ble_eq_true rfl | simp [cat_rf, Value.category]) (fun A ow τ M sz hH hV => ?_)
  refine yf_if_eq hX dL_years_42 (ya_in rfl) (by decide) ?_
  refine g_aload hX dL_years_45 rfl rfl ?_
  refine g_const hX dL_years_46 ?_
  refine g_const hX dL_years_49 ?_
  refine l_Leaster hX hst dL_years_52 hH hV (by decide) (ya_in rfl) (by decide +kernel) (show cs + 10 + 2700 + 2 + 2 + 2 ≤ 17000 by omega) (show ss + 414 + 67500 + 12 + 12 + 12 ≤ 425000 by omega) (by first | exact Nat.le_of_ble_eq_true rfl | simp [cat_rf, Value.category]) (fun A ow τ M sz hH hV => ?_)
  refine yf_if_eq hX dL_years_55 (ya_in rfl) (by decide) ?_
  refine g_aload hX dL_years_58 rfl rfl ?_
  refine g_const hX dL_years_59 ?_
  refine g_const hX dL_years_62 ?_
  refine l_Leaster hX hst dL_years_65 hH hV (by decide) (ya_in rfl) (by decide +kernel) (show cs + 10 + 2700 + 2 + 2 + 2 + 2 ≤ 17000 by omega) (show ss + 414 + 67500 + 12 + 12 + 12 + 12 ≤ 425000 by omega) (by first | exact Nat.le_of_ble_eq_true rfl | simp [cat_rf, Value.category]) (fun A ow τ M sz hH hV => ?_)
  refine yf_if_eq hX dL_years_68 (ya_in rfl) (by decide) ?_
  refine g_aload hX dL_years_71 rfl rfl ?_
  refine g_const hX dL_years_72 ?_
  refine g_const hX dL_years_75 ?_
  refine l_Leaster hX hst dL_years_78 hH hV (by decide) (ya_in rfl) (by decide +kernel) (show cs + 10 + 2700 + 2 + 2 + 2 + 2 + 2 ≤ 17000 by omega) (show ss + 414 + 67500 + 12 + 12 + 12 + 12 + 12 ≤ 425000 by omega) (by first | exact Nat.le_of_ble_eq_true rfl | simp [cat_rf, Value.category]) (fun A ow τ M sz hH hV => ?_)
  exact ys_g1 hX hst hR hK hH hV (by omega) (by omega)

def sp_L_years : hS := fun as M sz K => as = [] ∧ ∀ (M' : hM) (s9 : Nat), K (.inl (some (.int (iZ 1)))) M' s9
theorem s_L_years {l : Launch} {g : hG} (hst : l.stackTraces = false) : Ctr l g mL_years sp_L_years := by
  refine Ctr.mk9 hst (by decide) ?_ ?_
  · rintro as M sz K ⟨rfl, hK⟩
    exact ⟨by simp [mL_years], cat_ok rfl⟩
  rintro X as M sz K hX rfl rfl hR ⟨rfl, hK⟩
  show G X 0 [U9] [] M sz 0 0
  exact ys_g0 hX hst hR hK (by omega) (by omega)

