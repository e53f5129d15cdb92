/-! songs -/
set_option maxRecDepth 20000 in
theorem so_g9 {X : hX} (hX : Cok X mL_songs) (hst : X.1.2.1.stackTraces = false) {M0 : hM} {sz0 : Nat} {K : hK} (hR : Ret X mL_songs M0 sz0 K) (hK : ∀ (M' : hM) (s9 : Nat), K (.inl (some (.int (iZ 1)))) M' s9) {h : Nat} {A : Nat → Nat → Nat} {ow : Nat → Nat × Nat} {τ : Nat → Nat → Int} {M : hM} {sz cs ss : Nat} (hH : HX X.2.2.2.2.2.2.2.2.2 h A ow (ya_TB yoS27) τ M) (hV : SV (ya_TB yoS27)) (hc : cs + 2715 ≤ 6000) (hs : ss + 67590 ≤ 150000) : G X 1040 [.ref h] [] M sz cs ss := by
  refine g_aload hX dL_songs_1040 rfl rfl ?_
  refine g_const hX dL_songs_1041 ?_
  refine g_const hX dL_songs_1042 ?_
  refine l_service hX hst dL_songs_1043 hH hV (ya_in rfl) (ya_in rfl) yoe89 (show cs + 2 ≤ 6000 by omega) (show ss + 12 ≤ 150000 by omega) (by first | exact Nat.le_of_ble_eq_true rfl | simp [cat_rf, Value.category]) (fun A ow τ M sz hH hV => ?_)
  refine g_const hX dL_songs_1046 ?_
  refine yf_icmp_ne hX dL_songs_1048 (ya_in rfl) (ya_in rfl) (by decide) ?_
  refine g_aload hX dL_songs_1051 rfl rfl ?_
  refine g_const hX dL_songs_1052 ?_
  refine g_const hX dL_songs_1053 ?_
  refine l_service hX hst dL_songs_1054 hH hV (ya_in rfl) (ya_in rfl) yoe90 (show cs + 2 + 2 ≤ 6000 by omega) (show ss + 12 + 12 ≤ 150000 by omega) (by first | exact Nat.le_of_ble_eq_true rfl | simp [cat_rf, Value.category]) (fun A ow τ M sz hH hV => ?_)
  refine g_const hX dL_songs_1057 ?_
  refine yf_icmp_ne hX dL_songs_1058 (ya_in rfl) (ya_in rfl) (by decide) ?_
  refine g_aload hX dL_songs_1061 rfl rfl ?_
  refine g_const hX dL_songs_1062 ?_
  refine g_const hX dL_songs_1063 ?_
  refine g_const hX dL_songs_1066 ?_
  refine g_const hX dL_songs_1068 ?_
  refine l_why hX hst dL_songs_1069 hH hV (ya_in rfl) (ya_in rfl) (ya_in rfl) (ya_in rfl) yoe91 (show cs + 2 + 2 + 5 ≤ 6000 by omega) (show ss + 12 + 12 + 30 ≤ 150000 by omega) (by first | exact Nat.le_of_ble_eq_true rfl | simp [cat_rf, Value.category]) (fun A ow τ M sz hH hV => ?_)
  refine g_const hX dL_songs_1072 ?_
  refine yf_icmp_ne hX dL_songs_1073 (ya_in rfl) (ya_in rfl) (by decide) ?_
  refine g_aload hX dL_songs_1076 rfl rfl ?_
  refine g_const hX dL_songs_1077 ?_
  refine g_const hX dL_songs_1078 ?_
  refine g_const hX dL_songs_1079 ?_
  refine l_reading hX hst dL_songs_1081 hH hV (ya_in rfl) (ya_in rfl) (ya_in rfl) yoe92 (show cs + 2 + 2 + 5 + 3 ≤ 6000 by omega) (show ss + 12 + 12 + 30 + 18 ≤ 150000 by omega) (by first | exact Nat.le_of_ble_eq_true rfl | simp [cat_rf, Value.category]) (fun A ow τ M sz hH hV => ?_)
  refine g_const hX dL_songs_1084 ?_
  refine yf_icmp_ne hX dL_songs_1085 (ya_in rfl) (ya_in rfl) (by decide) ?_
  refine g_aload hX dL_songs_1088 rfl rfl ?_
  refine g_const hX dL_songs_1089 ?_
  refine g_const hX dL_songs_1092 ?_
  refine g_const hX dL_songs_1094 ?_
  refine l_theme hX hst dL_songs_1096 hH hV (ya_in rfl) (ya_in rfl) (ya_in rfl) yoe93 (show cs + 2 + 2 + 5 + 3 + 3 ≤ 6000 by omega) (show ss + 12 + 12 + 30 + 18 + 18 ≤ 150000 by omega) (by first | exact Nat.le_of_ble_eq_true rfl | simp [cat_rf, Value.category]) (fun A ow τ M sz hH hV => ?_)
  refine g_const hX dL_songs_1099 ?_
  refine yf_icmp_ne hX dL_songs_1101 (ya_in rfl) (ya_in rfl) (by decide) ?_
  refine g_aload hX dL_songs_1104 rfl rfl ?_
  refine g_const hX dL_songs_1105 ?_
  refine g_const hX dL_songs_1106 ?_
  refine g_const hX dL_songs_1107 ?_
  refine g_const hX dL_songs_1109 ?_
  refine l_refuses hX hst dL_songs_1111 hH hV (by decide +kernel) (by decide +kernel) (by decide +kernel) (by decide +kernel) (show cs + 2 + 2 + 5 + 3 + 3 + 2700 ≤ 6000 by omega) (show ss + 12 + 12 + 30 + 18 + 18 + 67500 ≤ 150000 by omega) (by first | exact Nat.le_of_ble_eq_true rfl | simp [cat_rf, Value.category]) (fun A ow τ M sz hH hV => ?_)
  refine yf_if_eq hX dL_songs_1114 (ya_in rfl) (by decide) ?_
  refine g_const hX dL_songs_1117 ?_
  refine g_goto hX dL_songs_1118 ?_
  refine g_iret hX hR dL_songs_1122 rfl rfl (show cs + 2 + 2 + 5 + 3 + 3 + 2700 ≤ 6000 by omega) (show ss + 12 + 12 + 30 + 18 + 18 + 67500 ≤ 150000 by omega) ?_
  exact hK _ _

set_option maxRecDepth 20000 in
theorem so_g8 {X : hX} (hX : Cok X mL_songs) (hst : X.1.2.1.stackTraces = false) {M0 : hM} {sz0 : Nat} {K : hK} (hR : Ret X mL_songs M0 sz0 K) (hK : ∀ (M' : hM) (s9 : Nat), K (.inl (some (.int (iZ 1)))) M' s9) {h : Nat} {A : Nat → Nat → Nat} {ow : Nat → Nat × Nat} {τ : Nat → Nat → Int} {M : hM} {sz cs ss : Nat} (hH : HX X.2.2.2.2.2.2.2.2.2 h A ow (ya_TB yoS23) τ M) (hV : SV (ya_TB yoS23)) (hc : cs + 2756 ≤ 6000) (hs : ss + 68415 ≤ 150000) : G X 922 [.ref h] [.int (iZ 2), .ref h] M sz cs ss := by
  refine g_const hX dL_songs_922 ?_
  refine l_service hX hst dL_songs_923 hH hV (ya_in rfl) (ya_in rfl) yoe78 (show cs + 2 ≤ 6000 by omega) (show ss + 12 ≤ 150000 by omega) (by first | exact Nat.le_of_ble_eq_true rfl | simp [cat_rf, Value.category]) (fun A ow τ M sz hH hV => ?_)
  refine yf_if_ne hX dL_songs_926 (ya_in rfl) (by decide) ?_
  refine g_aload hX dL_songs_929 rfl rfl ?_
  refine g_const hX dL_songs_930 ?_
  refine g_const hX dL_songs_933 ?_
  refine g_const hX dL_songs_934 ?_
  refine l_sing hX hst dL_songs_935 hH hV (ya_in rfl) (ya_in rfl) (ya_in rfl) yoe79 (show cs + 2 + 8 ≤ 6000 by omega) (show ss + 12 + 241 ≤ 150000 by omega) (by first | exact Nat.le_of_ble_eq_true rfl | simp [cat_rf, Value.category]) (fun A ow τ M sz hH hV => ?_)
  refine g_const hX dL_songs_938 ?_
  refine yf_icmp_ne hX dL_songs_939 (ya_in rfl) (ya_in rfl) (by decide) ?_
  refine g_aload hX dL_songs_942 rfl rfl ?_
  refine g_const hX dL_songs_943 ?_
  refine l_sung hX hst dL_songs_944 hH hV (ya_in rfl) yoe80 (show cs + 2 + 8 + 1 ≤ 6000 by omega) (show ss + 12 + 241 + 6 ≤ 150000 by omega) (by first | exact Nat.le_of_ble_eq_true rfl | simp [cat_rf, Value.category]) (fun A ow τ M sz hH hV => ?_)
  refine g_const hX dL_songs_947 ?_
  refine yf_icmp_ne hX dL_songs_948 (ya_in rfl) (ya_in rfl) (by decide) ?_
  refine g_aload hX dL_songs_951 rfl rfl ?_
  refine g_const hX dL_songs_952 ?_
  refine l_sung hX hst dL_songs_953 hH hV (ya_in rfl) yoe81 (show cs + 2 + 8 + 1 + 1 ≤ 6000 by omega) (show ss + 12 + 241 + 6 + 6 ≤ 150000 by omega) (by first | exact Nat.le_of_ble_eq_true rfl | simp [cat_rf, Value.category]) (fun A ow τ M sz hH hV => ?_)
  refine g_const hX dL_songs_956 ?_
  refine yt_icmp_eq hX dL_songs_957 (ya_in rfl) (ya_in rfl) (by decide) ?_
  refine g_aload hX dL_songs_962 rfl rfl ?_
  refine g_const hX dL_songs_963 ?_
  refine g_const hX dL_songs_966 ?_
  refine g_const hX dL_songs_967 ?_
  refine l_sing hX hst dL_songs_969 hH hV (ya_in rfl) (ya_in rfl) (ya_in rfl) yoe82 (show cs + 2 + 8 + 1 + 1 + 8 ≤ 6000 by omega) (show ss + 12 + 241 + 6 + 6 + 241 ≤ 150000 by omega) (by first | exact Nat.le_of_ble_eq_true rfl | simp [cat_rf, Value.category]) (fun A ow τ M sz hH hV => ?_)
  refine yf_if_ne hX dL_songs_972 (ya_in rfl) (by decide) ?_
  refine g_aload hX dL_songs_975 rfl rfl ?_
  refine g_const hX dL_songs_976 ?_
  refine l_sung hX hst dL_songs_977 hH hV (ya_in rfl) yoe83 (show cs + 2 + 8 + 1 + 1 + 8 + 1 ≤ 6000 by omega) (show ss + 12 + 241 + 6 + 6 + 241 + 6 ≤ 150000 by omega) (by first | exact Nat.le_of_ble_eq_true rfl | simp [cat_rf, Value.category]) (fun A ow τ M sz hH hV => ?_)
  refine g_const hX dL_songs_980 ?_
  refine yf_icmp_ne hX dL_songs_981 (ya_in rfl) (ya_in rfl) (by decide) ?_
  refine g_aload hX dL_songs_984 rfl rfl ?_
  refine g_const hX dL_songs_985 ?_
  refine g_const hX dL_songs_986 ?_
  refine g_const hX dL_songs_989 ?_
  refine g_const hX dL_songs_990 ?_
  refine l_why hX hst dL_songs_992 hH hV (ya_in rfl) (ya_in rfl) (ya_in rfl) (ya_in rfl) yoe84 (show cs + 2 + 8 + 1 + 1 + 8 + 1 + 5 ≤ 6000 by omega) (show ss + 12 + 241 + 6 + 6 + 241 + 6 + 30 ≤ 150000 by omega) (by first | exact Nat.le_of_ble_eq_true rfl | simp [cat_rf, Value.category]) (fun A ow τ M sz hH hV => ?_)
  refine yf_if_ne hX dL_songs_995 (ya_in rfl) (by decide) ?_
  refine g_aload hX dL_songs_998 rfl rfl ?_
  refine g_const hX dL_songs_999 ?_
  refine g_const hX dL_songs_1002 ?_
  refine g_const hX dL_songs_1003 ?_
  refine l_sing hX hst dL_songs_1005 hH hV (ya_in rfl) (ya_in rfl) (ya_in rfl) yoe85 (show cs + 2 + 8 + 1 + 1 + 8 + 1 + 5 + 8 ≤ 6000 by omega) (show ss + 12 + 241 + 6 + 6 + 241 + 6 + 30 + 241 ≤ 150000 by omega) (by first | exact Nat.le_of_ble_eq_true rfl | simp [cat_rf, Value.category]) (fun A ow τ M sz hH hV => ?_)
  refine yf_if_ne hX dL_songs_1008 (ya_in rfl) (by decide) ?_
  refine g_aload hX dL_songs_1011 rfl rfl ?_
  refine g_const hX dL_songs_1012 ?_
  refine l_sung hX hst dL_songs_1013 hH hV (ya_in rfl) yoe86 (show cs + 2 + 8 + 1 + 1 + 8 + 1 + 5 + 8 + 1 ≤ 6000 by omega) (show ss + 12 + 241 + 6 + 6 + 241 + 6 + 30 + 241 + 6 ≤ 150000 by omega) (by first | exact Nat.le_of_ble_eq_true rfl | simp [cat_rf, Value.category]) (fun A ow τ M sz hH hV => ?_)
  refine g_const hX dL_songs_1016 ?_
  refine yf_icmp_ne hX dL_songs_1017 (ya_in rfl) (ya_in rfl) (by decide) ?_
  refine g_aload hX dL_songs_1020 rfl rfl ?_
  refine g_const hX dL_songs_1021 ?_
  refine g_const hX dL_songs_1022 ?_
  refine g_const hX dL_songs_1023 ?_
  refine l_line hX hst dL_songs_1024 hH hV (ya_in rfl) (ya_in rfl) (ya_in rfl) yoe87 (show cs + 2 + 8 + 1 + 1 + 8 + 1 + 5 + 8 + 1 + 4 ≤ 6000 by omega) (show ss + 12 + 241 + 6 + 6 + 241 + 6 + 30 + 241 + 6 + 24 ≤ 150000 by omega) (by first | exact Nat.le_of_ble_eq_true rfl | simp [cat_rf, Value.category]) (fun A ow τ M sz hH hV => ?_)
  refine g_const hX dL_songs_1027 ?_
  refine yf_icmp_ne hX dL_songs_1028 (ya_in rfl) (ya_in rfl) (by decide) ?_
  refine g_aload hX dL_songs_1031 rfl rfl ?_
  refine g_const hX dL_songs_1032 ?_
  refine g_const hX dL_songs_1033 ?_
  refine l_fits hX hst dL_songs_1034 hH hV (ya_in rfl) (ya_in rfl) yoe88 (show cs + 2 + 8 + 1 + 1 + 8 + 1 + 5 + 8 + 1 + 4 + 2 ≤ 6000 by omega) (show ss + 12 + 241 + 6 + 6 + 241 + 6 + 30 + 241 + 6 + 24 + 12 ≤ 150000 by omega) (by first | exact Nat.le_of_ble_eq_true rfl | simp [cat_rf, Value.category]) (fun A ow τ M sz hH hV => ?_)
  refine yf_if_ne hX dL_songs_1037 (ya_in rfl) (by decide) ?_
  exact so_g9 hX hst hR hK hH hV (by omega) (by omega)

set_option maxRecDepth 20000 in
theorem so_g7 {X : hX} (hX : Cok X mL_songs) (hst : X.1.2.1.stackTraces = false) {M0 : hM} {sz0 : Nat} {K : hK} (hR : Ret X mL_songs M0 sz0 K) (hK : ∀ (M' : hM) (s9 : Nat), K (.inl (some (.int (iZ 1)))) M' s9) {h : Nat} {A : Nat → Nat → Nat} {ow : Nat → Nat × Nat} {τ : Nat → Nat → Int} {M : hM} {sz cs ss : Nat} (hH : HX X.2.2.2.2.2.2.2.2.2 h A ow (ya_TB yoS21) τ M) (hV : SV (ya_TB yoS21)) (hc : cs + 2799 ≤ 6000) (hs : ss + 69056 ≤ 150000) : G X 809 [.ref h] [] M sz cs ss := by
  refine g_aload hX dL_songs_809 rfl rfl ?_
  refine g_const hX dL_songs_810 ?_
  refine g_const hX dL_songs_812 ?_
  refine g_const hX dL_songs_813 ?_
  refine l_reading hX hst dL_songs_814 hH hV (ya_in rfl) (ya_in rfl) (ya_in rfl) yoe69 (show cs + 3 ≤ 6000 by omega) (show ss + 18 ≤ 150000 by omega) (by first | exact Nat.le_of_ble_eq_true rfl | simp [cat_rf, Value.category]) (fun A ow τ M sz hH hV => ?_)
  refine g_const hX dL_songs_817 ?_
  refine yf_icmp_ne hX dL_songs_819 (ya_in rfl) (ya_in rfl) (by decide) ?_
  refine g_aload hX dL_songs_822 rfl rfl ?_
  refine g_const hX dL_songs_823 ?_
  refine g_const hX dL_songs_824 ?_
  refine g_const hX dL_songs_827 ?_
  refine g_const hX dL_songs_828 ?_
  refine l_why hX hst dL_songs_829 hH hV (ya_in rfl) (ya_in rfl) (ya_in rfl) (ya_in rfl) yoe70 (show cs + 3 + 5 ≤ 6000 by omega) (show ss + 18 + 30 ≤ 150000 by omega) (by first | exact Nat.le_of_ble_eq_true rfl | simp [cat_rf, Value.category]) (fun A ow τ M sz hH hV => ?_)
  refine g_const hX dL_songs_832 ?_
  refine yf_icmp_ne hX dL_songs_833 (ya_in rfl) (ya_in rfl) (by decide) ?_
  refine g_aload hX dL_songs_836 rfl rfl ?_
  refine g_const hX dL_songs_837 ?_
  refine g_const hX dL_songs_839 ?_
  refine g_const hX dL_songs_842 ?_
  refine g_const hX dL_songs_843 ?_
  refine g_const hX dL_songs_844 ?_
  refine l_act hX hst dL_songs_845 hH hV (ya_in rfl) (ya_in rfl) (ya_in rfl) (ya_in rfl) (ya_in rfl) yoe72 (show cs + 3 + 5 + 10 ≤ 6000 by omega) (show ss + 18 + 30 + 250 ≤ 150000 by omega) (by first | exact Nat.le_of_ble_eq_true rfl | simp [cat_rf, Value.category]) (fun A ow τ M sz hH hV => ?_)
  refine g_const hX dL_songs_848 ?_
  refine yf_icmp_ne hX dL_songs_850 (ya_in rfl) (ya_in rfl) (by decide) ?_
  refine g_aload hX dL_songs_853 rfl rfl ?_
  refine g_const hX dL_songs_854 ?_
  refine g_const hX dL_songs_855 ?_
  refine g_const hX dL_songs_858 ?_
  refine g_const hX dL_songs_859 ?_
  refine l_why hX hst dL_songs_861 hH hV (ya_in rfl) (ya_in rfl) (ya_in rfl) (ya_in rfl) yoe73 (show cs + 3 + 5 + 10 + 5 ≤ 6000 by omega) (show ss + 18 + 30 + 250 + 30 ≤ 150000 by omega) (by first | exact Nat.le_of_ble_eq_true rfl | simp [cat_rf, Value.category]) (fun A ow τ M sz hH hV => ?_)
  refine g_const hX dL_songs_864 ?_
  refine yf_icmp_ne hX dL_songs_865 (ya_in rfl) (ya_in rfl) (by decide) ?_
  refine g_aload hX dL_songs_868 rfl rfl ?_
  refine g_const hX dL_songs_869 ?_
  refine g_const hX dL_songs_870 ?_
  refine g_const hX dL_songs_873 ?_
  refine g_const hX dL_songs_874 ?_
  refine l_why hX hst dL_songs_876 hH hV (ya_in rfl) (ya_in rfl) (ya_in rfl) (ya_in rfl) yoe74 (show cs + 3 + 5 + 10 + 5 + 5 ≤ 6000 by omega) (show ss + 18 + 30 + 250 + 30 + 30 ≤ 150000 by omega) (by first | exact Nat.le_of_ble_eq_true rfl | simp [cat_rf, Value.category]) (fun A ow τ M sz hH hV => ?_)
  refine g_const hX dL_songs_879 ?_
  refine yf_icmp_ne hX dL_songs_880 (ya_in rfl) (ya_in rfl) (by decide) ?_
  refine g_aload hX dL_songs_883 rfl rfl ?_
  refine g_const hX dL_songs_884 ?_
  refine g_const hX dL_songs_885 ?_
  refine g_const hX dL_songs_888 ?_
  refine g_const hX dL_songs_889 ?_
  refine l_why hX hst dL_songs_891 hH hV (ya_in rfl) (ya_in rfl) (ya_in rfl) (ya_in rfl) yoe75 (show cs + 3 + 5 + 10 + 5 + 5 + 5 ≤ 6000 by omega) (show ss + 18 + 30 + 250 + 30 + 30 + 30 ≤ 150000 by omega) (by first | exact Nat.le_of_ble_eq_true rfl | simp [cat_rf, Value.category]) (fun A ow τ M sz hH hV => ?_)
  refine yf_if_ne hX dL_songs_894 (ya_in rfl) (by decide) ?_
  refine g_aload hX dL_songs_897 rfl rfl ?_
  refine g_const hX dL_songs_898 ?_
  refine g_const hX dL_songs_901 ?_
  refine g_const hX dL_songs_902 ?_
  refine l_sing hX hst dL_songs_904 hH hV (ya_in rfl) (ya_in rfl) (ya_in rfl) yoe76 (show cs + 3 + 5 + 10 + 5 + 5 + 5 + 8 ≤ 6000 by omega) (show ss + 18 + 30 + 250 + 30 + 30 + 30 + 241 ≤ 150000 by omega) (by first | exact Nat.le_of_ble_eq_true rfl | simp [cat_rf, Value.category]) (fun A ow τ M sz hH hV => ?_)
  refine yf_if_ne hX dL_songs_907 (ya_in rfl) (by decide) ?_
  refine g_aload hX dL_songs_910 rfl rfl ?_
  refine g_const hX dL_songs_911 ?_
  refine g_const hX dL_songs_912 ?_
  refine l_service hX hst dL_songs_913 hH hV (ya_in rfl) (ya_in rfl) yoe77 (show cs + 3 + 5 + 10 + 5 + 5 + 5 + 8 + 2 ≤ 6000 by omega) (show ss + 18 + 30 + 250 + 30 + 30 + 30 + 241 + 12 ≤ 150000 by omega) (by first | exact Nat.le_of_ble_eq_true rfl | simp [cat_rf, Value.category]) (fun A ow τ M sz hH hV => ?_)
  refine g_const hX dL_songs_916 ?_
  refine yf_icmp_ne hX dL_songs_917 (ya_in rfl) (ya_in rfl) (by decide) ?_
  refine g_aload hX dL_songs_920 rfl rfl ?_
  refine g_const hX dL_songs_921 ?_
  exact so_g8 hX hst hR hK hH hV (by omega) (by omega)

set_option maxRecDepth 20000 in
theorem so_g6 {X : hX} (hX : Cok X mL_songs) (hst : X.1.2.1.stackTraces = false) {M0 : hM} {sz0 : Nat} {K : hK} (hR : Ret X mL_songs M0 sz0 K) (hK : ∀ (M' : hM) (s9 : Nat), K (.inl (some (.int (iZ 1)))) M' s9) {h : Nat} {A : Nat → Nat → Nat} {ow : Nat → Nat × Nat} {τ : Nat → Nat → Int} {M : hM} {sz cs ss : Nat} (hH : HX X.2.2.2.2.2.2.2.2.2 h A ow (ya_TB yoS19) τ M) (hV : SV (ya_TB yoS19)) (hc : cs + 5528 ≤ 6000) (hs : ss + 136923 ≤ 150000) : G X 693 [.ref h] [.int (iZ 1)] M sz cs ss := by
  refine g_const hX dL_songs_693 ?_
  refine yf_icmp_ne hX dL_songs_694 (ya_in rfl) (ya_in rfl) (by decide) ?_
  refine g_aload hX dL_songs_697 rfl rfl ?_
  refine g_const hX dL_songs_698 ?_
  refine g_const hX dL_songs_699 ?_
  refine g_const hX dL_songs_700 ?_
  refine g_const hX dL_songs_702 ?_
  refine l_refuses hX hst dL_songs_703 hH hV (by decide +kernel) (by decide +kernel) (by decide +kernel) (by decide +kernel) (show cs + 2700 ≤ 6000 by omega) (show ss + 67500 ≤ 150000 by omega) (by first | exact Nat.le_of_ble_eq_true rfl | simp [cat_rf, Value.category]) (fun A ow τ M sz hH hV => ?_)
  refine yf_if_eq hX dL_songs_706 (ya_in rfl) (by decide) ?_
  refine g_aload hX dL_songs_709 rfl rfl ?_
  refine g_const hX dL_songs_710 ?_
  refine g_const hX dL_songs_711 ?_
  refine g_const hX dL_songs_714 ?_
  refine g_const hX dL_songs_716 ?_
  refine l_why hX hst dL_songs_718 hH hV (ya_in rfl) (ya_in rfl) (ya_in rfl) (ya_in rfl) yoe61 (show cs + 2700 + 5 ≤ 6000 by omega) (show ss + 67500 + 30 ≤ 150000 by omega) (by first | exact Nat.le_of_ble_eq_true rfl | simp [cat_rf, Value.category]) (fun A ow τ M sz hH hV => ?_)
  refine g_const hX dL_songs_721 ?_
  refine yf_icmp_ne hX dL_songs_722 (ya_in rfl) (ya_in rfl) (by decide) ?_
  refine g_aload hX dL_songs_725 rfl rfl ?_
  refine g_const hX dL_songs_726 ?_
  refine g_const hX dL_songs_727 ?_
  refine l_allowText hX hst dL_songs_728 hH hV (ya_in rfl) (by decide) yoe62 (show cs + 2700 + 5 + 1 ≤ 6000 by omega) (show ss + 67500 + 30 + 6 ≤ 150000 by omega) (by first | exact Nat.le_of_ble_eq_true rfl | simp [cat_rf, Value.category]) (fun A ow τ M sz hH hV => ?_)
  refine yf_if_ne hX dL_songs_731 (ya_in rfl) (by decide) ?_
  refine g_aload hX dL_songs_734 rfl rfl ?_
  refine g_const hX dL_songs_735 ?_
  refine g_const hX dL_songs_736 ?_
  refine l_allowText hX hst dL_songs_737 hH hV (ya_in rfl) (by decide) yoe63 (show cs + 2700 + 5 + 1 + 1 ≤ 6000 by omega) (show ss + 67500 + 30 + 6 + 6 ≤ 150000 by omega) (by first | exact Nat.le_of_ble_eq_true rfl | simp [cat_rf, Value.category]) (fun A ow τ M sz hH hV => ?_)
  refine yf_if_eq hX dL_songs_740 (ya_in rfl) (by decide) ?_
  refine g_aload hX dL_songs_743 rfl rfl ?_
  refine g_const hX dL_songs_744 ?_
  refine g_const hX dL_songs_745 ?_
  refine g_const hX dL_songs_748 ?_
  refine g_const hX dL_songs_750 ?_
  refine l_why hX hst dL_songs_752 hH hV (ya_in rfl) (ya_in rfl) (ya_in rfl) (ya_in rfl) yoe64 (show cs + 2700 + 5 + 1 + 1 + 5 ≤ 6000 by omega) (show ss + 67500 + 30 + 6 + 6 + 30 ≤ 150000 by omega) (by first | exact Nat.le_of_ble_eq_true rfl | simp [cat_rf, Value.category]) (fun A ow τ M sz hH hV => ?_)
  refine yf_if_ne hX dL_songs_755 (ya_in rfl) (by decide) ?_
  refine g_aload hX dL_songs_758 rfl rfl ?_
  refine g_const hX dL_songs_759 ?_
  refine g_const hX dL_songs_760 ?_
  refine g_const hX dL_songs_763 ?_
  refine g_const hX dL_songs_765 ?_
  refine l_why hX hst dL_songs_767 hH hV (ya_in rfl) (ya_in rfl) (ya_in rfl) (ya_in rfl) yoe65 (show cs + 2700 + 5 + 1 + 1 + 5 + 5 ≤ 6000 by omega) (show ss + 67500 + 30 + 6 + 6 + 30 + 30 ≤ 150000 by omega) (by first | exact Nat.le_of_ble_eq_true rfl | simp [cat_rf, Value.category]) (fun A ow τ M sz hH hV => ?_)
  refine g_const hX dL_songs_770 ?_
  refine yf_icmp_ne hX dL_songs_771 (ya_in rfl) (ya_in rfl) (by decide) ?_
  refine g_aload hX dL_songs_774 rfl rfl ?_
  refine g_const hX dL_songs_775 ?_
  refine g_const hX dL_songs_778 ?_
  refine g_const hX dL_songs_780 ?_
  refine l_sing hX hst dL_songs_782 hH hV (ya_in rfl) (ya_in rfl) (ya_in rfl) yoe66 (show cs + 2700 + 5 + 1 + 1 + 5 + 5 + 8 ≤ 6000 by omega) (show ss + 67500 + 30 + 6 + 6 + 30 + 30 + 241 ≤ 150000 by omega) (by first | exact Nat.le_of_ble_eq_true rfl | simp [cat_rf, Value.category]) (fun A ow τ M sz hH hV => ?_)
  refine g_const hX dL_songs_785 ?_
  refine yf_icmp_ne hX dL_songs_786 (ya_in rfl) (ya_in rfl) (by decide) ?_
  refine g_aload hX dL_songs_789 rfl rfl ?_
  refine g_const hX dL_songs_790 ?_
  refine g_const hX dL_songs_791 ?_
  refine l_service hX hst dL_songs_792 hH hV (ya_in rfl) (ya_in rfl) yoe67 (show cs + 2700 + 5 + 1 + 1 + 5 + 5 + 8 + 2 ≤ 6000 by omega) (show ss + 67500 + 30 + 6 + 6 + 30 + 30 + 241 + 12 ≤ 150000 by omega) (by first | exact Nat.le_of_ble_eq_true rfl | simp [cat_rf, Value.category]) (fun A ow τ M sz hH hV => ?_)
  refine g_const hX dL_songs_795 ?_
  refine yf_icmp_ne hX dL_songs_796 (ya_in rfl) (ya_in rfl) (by decide) ?_
  refine g_aload hX dL_songs_799 rfl rfl ?_
  refine g_const hX dL_songs_800 ?_
  refine g_const hX dL_songs_801 ?_
  refine l_service hX hst dL_songs_802 hH hV (ya_in rfl) (ya_in rfl) yoe68 (show cs + 2700 + 5 + 1 + 1 + 5 + 5 + 8 + 2 + 2 ≤ 6000 by omega) (show ss + 67500 + 30 + 6 + 6 + 30 + 30 + 241 + 12 + 12 ≤ 150000 by omega) (by first | exact Nat.le_of_ble_eq_true rfl | simp [cat_rf, Value.category]) (fun A ow τ M sz hH hV => ?_)
  refine g_const hX dL_songs_805 ?_
  refine yf_icmp_ne hX dL_songs_806 (ya_in rfl) (ya_in rfl) (by decide) ?_
  exact so_g7 hX hst hR hK hH hV (by omega) (by omega)

set_option maxRecDepth 20000 in
theorem so_g5 {X : hX} (hX : Cok X mL_songs) (hst : X.1.2.1.stackTraces = false) {M0 : hM} {sz0 : Nat} {K : hK} (hR : Ret X mL_songs M0 sz0 K) (hK : ∀ (M' : hM) (s9 : Nat), K (.inl (some (.int (iZ 1)))) M' s9) {h : Nat} {A : Nat → Nat → Nat} {ow : Nat → Nat × Nat} {τ : Nat → Nat → Int} {M : hM} {sz cs ss : Nat} (hH : HX X.2.2.2.2.2.2.2.2.2 h A ow (ya_TB yoS14) τ M) (hV : SV (ya_TB yoS14)) (hc : cs + 5564 ≤ 6000) (hs : ss + 137328 ≤ 150000) : G X 589 [.ref h] [.int (iZ 0)] M sz cs ss := by
  refine yf_if_ne hX dL_songs_589 (ya_in rfl) (by decide) ?_
  refine g_aload hX dL_songs_592 rfl rfl ?_
  refine g_const hX dL_songs_593 ?_
  refine g_const hX dL_songs_596 ?_
  refine l_text hX hst dL_songs_597 hH hV (ya_in rfl) (ya_in rfl) yoe51 (show cs + 9 ≤ 6000 by omega) (show ss + 243 ≤ 150000 by omega) (by first | exact Nat.le_of_ble_eq_true rfl | simp [cat_rf, Value.category]) (fun A ow τ M sz hH hV => ?_)
  refine g_const hX dL_songs_600 ?_
  refine yf_icmp_ne hX dL_songs_601 (ya_in rfl) (ya_in rfl) (by decide) ?_
  refine g_aload hX dL_songs_604 rfl rfl ?_
  refine g_const hX dL_songs_605 ?_
  refine g_const hX dL_songs_606 ?_
  refine g_const hX dL_songs_607 ?_
  refine l_line hX hst dL_songs_609 hH hV (ya_in rfl) (ya_in rfl) (ya_in rfl) yoe52 (show cs + 9 + 4 ≤ 6000 by omega) (show ss + 243 + 24 ≤ 150000 by omega) (by first | exact Nat.le_of_ble_eq_true rfl | simp [cat_rf, Value.category]) (fun A ow τ M sz hH hV => ?_)
  refine g_const hX dL_songs_612 ?_
  refine yf_icmp_ne hX dL_songs_613 (ya_in rfl) (ya_in rfl) (by decide) ?_
  refine g_aload hX dL_songs_616 rfl rfl ?_
  refine g_const hX dL_songs_617 ?_
  refine g_const hX dL_songs_618 ?_
  refine g_const hX dL_songs_619 ?_
  refine l_line hX hst dL_songs_620 hH hV (ya_in rfl) (ya_in rfl) (ya_in rfl) yoe53 (show cs + 9 + 4 + 4 ≤ 6000 by omega) (show ss + 243 + 24 + 24 ≤ 150000 by omega) (by first | exact Nat.le_of_ble_eq_true rfl | simp [cat_rf, Value.category]) (fun A ow τ M sz hH hV => ?_)
  refine g_const hX dL_songs_623 ?_
  refine yf_icmp_ne hX dL_songs_624 (ya_in rfl) (ya_in rfl) (by decide) ?_
  refine g_aload hX dL_songs_627 rfl rfl ?_
  refine g_const hX dL_songs_628 ?_
  refine g_const hX dL_songs_629 ?_
  refine g_const hX dL_songs_630 ?_
  refine l_line hX hst dL_songs_631 hH hV (ya_in rfl) (ya_in rfl) (ya_in rfl) yoe54 (show cs + 9 + 4 + 4 + 4 ≤ 6000 by omega) (show ss + 243 + 24 + 24 + 24 ≤ 150000 by omega) (by first | exact Nat.le_of_ble_eq_true rfl | simp [cat_rf, Value.category]) (fun A ow τ M sz hH hV => ?_)
  refine g_const hX dL_songs_634 ?_
  refine yf_icmp_ne hX dL_songs_635 (ya_in rfl) (ya_in rfl) (by decide) ?_
  refine g_aload hX dL_songs_638 rfl rfl ?_
  refine g_const hX dL_songs_639 ?_
  refine g_const hX dL_songs_640 ?_
  refine l_fits hX hst dL_songs_641 hH hV (ya_in rfl) (ya_in rfl) yoe55 (show cs + 9 + 4 + 4 + 4 + 2 ≤ 6000 by omega) (show ss + 243 + 24 + 24 + 24 + 12 ≤ 150000 by omega) (by first | exact Nat.le_of_ble_eq_true rfl | simp [cat_rf, Value.category]) (fun A ow τ M sz hH hV => ?_)
  refine yf_if_ne hX dL_songs_644 (ya_in rfl) (by decide) ?_
  refine g_aload hX dL_songs_647 rfl rfl ?_
  refine g_const hX dL_songs_648 ?_
  refine g_const hX dL_songs_649 ?_
  refine g_const hX dL_songs_650 ?_
  refine l_line hX hst dL_songs_651 hH hV (ya_in rfl) (ya_in rfl) (ya_in rfl) yoe56 (show cs + 9 + 4 + 4 + 4 + 2 + 4 ≤ 6000 by omega) (show ss + 243 + 24 + 24 + 24 + 12 + 24 ≤ 150000 by omega) (by first | exact Nat.le_of_ble_eq_true rfl | simp [cat_rf, Value.category]) (fun A ow τ M sz hH hV => ?_)
  refine g_const hX dL_songs_654 ?_
  refine yf_icmp_ne hX dL_songs_655 (ya_in rfl) (ya_in rfl) (by decide) ?_
  refine g_aload hX dL_songs_658 rfl rfl ?_
  refine g_const hX dL_songs_659 ?_
  refine g_const hX dL_songs_660 ?_
  refine l_fits hX hst dL_songs_661 hH hV (ya_in rfl) (ya_in rfl) yoe57 (show cs + 9 + 4 + 4 + 4 + 2 + 4 + 2 ≤ 6000 by omega) (show ss + 243 + 24 + 24 + 24 + 12 + 24 + 12 ≤ 150000 by omega) (by first | exact Nat.le_of_ble_eq_true rfl | simp [cat_rf, Value.category]) (fun A ow τ M sz hH hV => ?_)
  refine g_const hX dL_songs_664 ?_
  refine yf_icmp_ne hX dL_songs_665 (ya_in rfl) (ya_in rfl) (by decide) ?_
  refine g_aload hX dL_songs_668 rfl rfl ?_
  refine g_const hX dL_songs_669 ?_
  refine g_const hX dL_songs_670 ?_
  refine l_clashes hX hst dL_songs_671 hH hV (ya_in rfl) (ya_in rfl) yoe58 (show cs + 9 + 4 + 4 + 4 + 2 + 4 + 2 + 3 ≤ 6000 by omega) (show ss + 243 + 24 + 24 + 24 + 12 + 24 + 12 + 18 ≤ 150000 by omega) (by first | exact Nat.le_of_ble_eq_true rfl | simp [cat_rf, Value.category]) (fun A ow τ M sz hH hV => ?_)
  refine g_const hX dL_songs_674 ?_
  refine yf_icmp_ne hX dL_songs_675 (ya_in rfl) (ya_in rfl) (by decide) ?_
  refine g_aload hX dL_songs_678 rfl rfl ?_
  refine g_const hX dL_songs_679 ?_
  refine g_const hX dL_songs_680 ?_
  refine l_clashes hX hst dL_songs_681 hH hV (ya_in rfl) (ya_in rfl) yoe59 (show cs + 9 + 4 + 4 + 4 + 2 + 4 + 2 + 3 + 3 ≤ 6000 by omega) (show ss + 243 + 24 + 24 + 24 + 12 + 24 + 12 + 18 + 18 ≤ 150000 by omega) (by first | exact Nat.le_of_ble_eq_true rfl | simp [cat_rf, Value.category]) (fun A ow τ M sz hH hV => ?_)
  refine g_const hX dL_songs_684 ?_
  refine yf_icmp_ne hX dL_songs_685 (ya_in rfl) (ya_in rfl) (by decide) ?_
  refine g_aload hX dL_songs_688 rfl rfl ?_
  refine g_const hX dL_songs_689 ?_
  refine l_best hX hst dL_songs_690 hH hV (ya_in rfl) yoe60 (show cs + 9 + 4 + 4 + 4 + 2 + 4 + 2 + 3 + 3 + 1 ≤ 6000 by omega) (show ss + 243 + 24 + 24 + 24 + 12 + 24 + 12 + 18 + 18 + 6 ≤ 150000 by omega) (by first | exact Nat.le_of_ble_eq_true rfl | simp [cat_rf, Value.category]) (fun A ow τ M sz hH hV => ?_)
  exact so_g6 hX hst hR hK hH hV (by omega) (by omega)

set_option maxRecDepth 20000 in
theorem so_g4 {X : hX} (hX : Cok X mL_songs) (hst : X.1.2.1.stackTraces = false) {M0 : hM} {sz0 : Nat} {K : hK} (hR : Ret X mL_songs M0 sz0 K) (hK : ∀ (M' : hM) (s9 : Nat), K (.inl (some (.int (iZ 1)))) M' s9) {h : Nat} {A : Nat → Nat → Nat} {ow : Nat → Nat × Nat} {τ : Nat → Nat → Int} {M : hM} {sz cs ss : Nat} (hH : HX X.2.2.2.2.2.2.2.2.2 h A ow (ya_TB yoS13) τ M) (hV : SV (ya_TB yoS13)) (hc : cs + 5603 ≤ 6000) (hs : ss + 137942 ≤ 150000) : G X 469 [.ref h] [.int (iZ 0)] M sz cs ss := by
  refine yf_if_ne hX dL_songs_469 (ya_in rfl) (by decide) ?_
  refine g_aload hX dL_songs_472 rfl rfl ?_
  refine g_const hX dL_songs_473 ?_
  refine g_const hX dL_songs_474 ?_
  refine l_service hX hst dL_songs_475 hH hV (ya_in rfl) (ya_in rfl) yoe40 (show cs + 2 ≤ 6000 by omega) (show ss + 12 ≤ 150000 by omega) (by first | exact Nat.le_of_ble_eq_true rfl | simp [cat_rf, Value.category]) (fun A ow τ M sz hH hV => ?_)
  refine yf_if_ne hX dL_songs_478 (ya_in rfl) (by decide) ?_
  refine g_aload hX dL_songs_481 rfl rfl ?_
  refine g_const hX dL_songs_482 ?_
  refine g_const hX dL_songs_483 ?_
  refine l_service hX hst dL_songs_484 hH hV (ya_in rfl) (ya_in rfl) yoe41 (show cs + 2 + 2 ≤ 6000 by omega) (show ss + 12 + 12 ≤ 150000 by omega) (by first | exact Nat.le_of_ble_eq_true rfl | simp [cat_rf, Value.category]) (fun A ow τ M sz hH hV => ?_)
  refine g_const hX dL_songs_487 ?_
  refine yf_icmp_ne hX dL_songs_490 (ya_in rfl) (ya_in rfl) (by decide) ?_
  refine g_aload hX dL_songs_493 rfl rfl ?_
  refine g_const hX dL_songs_494 ?_
  refine g_const hX dL_songs_495 ?_
  refine l_service hX hst dL_songs_496 hH hV (ya_in rfl) (ya_in rfl) yoe42 (show cs + 2 + 2 + 2 ≤ 6000 by omega) (show ss + 12 + 12 + 12 ≤ 150000 by omega) (by first | exact Nat.le_of_ble_eq_true rfl | simp [cat_rf, Value.category]) (fun A ow τ M sz hH hV => ?_)
  refine g_const hX dL_songs_499 ?_
  refine yf_icmp_ne hX dL_songs_502 (ya_in rfl) (ya_in rfl) (by decide) ?_
  refine g_aload hX dL_songs_505 rfl rfl ?_
  refine g_const hX dL_songs_506 ?_
  refine g_const hX dL_songs_507 ?_
  refine l_service hX hst dL_songs_508 hH hV (ya_in rfl) (ya_in rfl) yoe43 (show cs + 2 + 2 + 2 + 2 ≤ 6000 by omega) (show ss + 12 + 12 + 12 + 12 ≤ 150000 by omega) (by first | exact Nat.le_of_ble_eq_true rfl | simp [cat_rf, Value.category]) (fun A ow τ M sz hH hV => ?_)
  refine g_const hX dL_songs_511 ?_
  refine yf_icmp_ne hX dL_songs_512 (ya_in rfl) (ya_in rfl) (by decide) ?_
  refine g_aload hX dL_songs_515 rfl rfl ?_
  refine g_const hX dL_songs_516 ?_
  refine g_const hX dL_songs_517 ?_
  refine g_const hX dL_songs_520 ?_
  refine g_const hX dL_songs_522 ?_
  refine l_why hX hst dL_songs_524 hH hV (ya_in rfl) (ya_in rfl) (ya_in rfl) (ya_in rfl) yoe44 (show cs + 2 + 2 + 2 + 2 + 5 ≤ 6000 by omega) (show ss + 12 + 12 + 12 + 12 + 30 ≤ 150000 by omega) (by first | exact Nat.le_of_ble_eq_true rfl | simp [cat_rf, Value.category]) (fun A ow τ M sz hH hV => ?_)
  refine g_const hX dL_songs_527 ?_
  refine yf_icmp_ne hX dL_songs_528 (ya_in rfl) (ya_in rfl) (by decide) ?_
  refine g_aload hX dL_songs_531 rfl rfl ?_
  refine g_const hX dL_songs_532 ?_
  refine g_const hX dL_songs_533 ?_
  refine g_const hX dL_songs_536 ?_
  refine g_const hX dL_songs_538 ?_
  refine l_why hX hst dL_songs_539 hH hV (ya_in rfl) (ya_in rfl) (ya_in rfl) (ya_in rfl) yoe45 (show cs + 2 + 2 + 2 + 2 + 5 + 5 ≤ 6000 by omega) (show ss + 12 + 12 + 12 + 12 + 30 + 30 ≤ 150000 by omega) (by first | exact Nat.le_of_ble_eq_true rfl | simp [cat_rf, Value.category]) (fun A ow τ M sz hH hV => ?_)
  refine yf_if_ne hX dL_songs_542 (ya_in rfl) (by decide) ?_
  refine g_aload hX dL_songs_545 rfl rfl ?_
  refine g_const hX dL_songs_546 ?_
  refine g_const hX dL_songs_548 ?_
  refine g_const hX dL_songs_551 ?_
  refine g_const hX dL_songs_553 ?_
  refine g_const hX dL_songs_555 ?_
  refine l_act hX hst dL_songs_556 hH hV (ya_in rfl) (ya_in rfl) (ya_in rfl) (ya_in rfl) (ya_in rfl) yoe47 (show cs + 2 + 2 + 2 + 2 + 5 + 5 + 10 ≤ 6000 by omega) (show ss + 12 + 12 + 12 + 12 + 30 + 30 + 250 ≤ 150000 by omega) (by first | exact Nat.le_of_ble_eq_true rfl | simp [cat_rf, Value.category]) (fun A ow τ M sz hH hV => ?_)
  refine g_const hX dL_songs_559 ?_
  refine yf_icmp_ne hX dL_songs_561 (ya_in rfl) (ya_in rfl) (by decide) ?_
  refine g_aload hX dL_songs_564 rfl rfl ?_
  refine g_const hX dL_songs_565 ?_
  refine g_const hX dL_songs_567 ?_
  refine g_const hX dL_songs_570 ?_
  refine g_const hX dL_songs_572 ?_
  refine g_const hX dL_songs_574 ?_
  refine l_act hX hst dL_songs_575 hH hV (ya_in rfl) (ya_in rfl) (ya_in rfl) (ya_in rfl) (ya_in rfl) yoe49 (show cs + 2 + 2 + 2 + 2 + 5 + 5 + 10 + 10 ≤ 6000 by omega) (show ss + 12 + 12 + 12 + 12 + 30 + 30 + 250 + 250 ≤ 150000 by omega) (by first | exact Nat.le_of_ble_eq_true rfl | simp [cat_rf, Value.category]) (fun A ow τ M sz hH hV => ?_)
  refine g_const hX dL_songs_578 ?_
  refine yf_icmp_ne hX dL_songs_580 (ya_in rfl) (ya_in rfl) (by decide) ?_
  refine g_aload hX dL_songs_583 rfl rfl ?_
  refine g_const hX dL_songs_584 ?_
  refine g_const hX dL_songs_585 ?_
  refine l_allowTune hX hst dL_songs_586 hH hV (ya_in rfl) (by decide) yoe50 (show cs + 2 + 2 + 2 + 2 + 5 + 5 + 10 + 10 + 1 ≤ 6000 by omega) (show ss + 12 + 12 + 12 + 12 + 30 + 30 + 250 + 250 + 6 ≤ 150000 by omega) (by first | exact Nat.le_of_ble_eq_true rfl | simp [cat_rf, Value.category]) (fun A ow τ M sz hH hV => ?_)
  exact so_g5 hX hst hR hK hH hV (by omega) (by omega)

set_option maxRecDepth 20000 in
theorem so_g3 {X : hX} (hX : Cok X mL_songs) (hst : X.1.2.1.stackTraces = false) {M0 : hM} {sz0 : Nat} {K : hK} (hR : Ret X mL_songs M0 sz0 K) (hK : ∀ (M' : hM) (s9 : Nat), K (.inl (some (.int (iZ 1)))) M' s9) {h : Nat} {A : Nat → Nat → Nat} {ow : Nat → Nat × Nat} {τ : Nat → Nat → Int} {M : hM} {sz cs ss : Nat} (hH : HX X.2.2.2.2.2.2.2.2.2 h A ow (ya_TB yoS12) τ M) (hV : SV (ya_TB yoS12)) (hc : cs + 5636 ≤ 6000) (hs : ss + 138333 ≤ 150000) : G X 346 [.ref h] [.int (iZ 2)] M sz cs ss := by
  refine g_const hX dL_songs_346 ?_
  refine yf_icmp_ne hX dL_songs_347 (ya_in rfl) (ya_in rfl) (by decide) ?_
  refine g_aload hX dL_songs_350 rfl rfl ?_
  refine g_const hX dL_songs_351 ?_
  refine g_const hX dL_songs_352 ?_
  refine l_clashes hX hst dL_songs_353 hH hV (ya_in rfl) (ya_in rfl) yoe30 (show cs + 3 ≤ 6000 by omega) (show ss + 18 ≤ 150000 by omega) (by first | exact Nat.le_of_ble_eq_true rfl | simp [cat_rf, Value.category]) (fun A ow τ M sz hH hV => ?_)
  refine yf_if_ne hX dL_songs_356 (ya_in rfl) (by decide) ?_
  refine g_aload hX dL_songs_359 rfl rfl ?_
  refine g_const hX dL_songs_360 ?_
  refine l_best hX hst dL_songs_361 hH hV (ya_in rfl) yoe31 (show cs + 3 + 1 ≤ 6000 by omega) (show ss + 18 + 6 ≤ 150000 by omega) (by first | exact Nat.le_of_ble_eq_true rfl | simp [cat_rf, Value.category]) (fun A ow τ M sz hH hV => ?_)
  refine g_const hX dL_songs_364 ?_
  refine yf_icmp_ne hX dL_songs_365 (ya_in rfl) (ya_in rfl) (by decide) ?_
  refine g_aload hX dL_songs_368 rfl rfl ?_
  refine g_const hX dL_songs_369 ?_
  refine l_alike hX hst dL_songs_370 hH hV (ya_in rfl) yoe32 (show cs + 3 + 1 + 1 ≤ 6000 by omega) (show ss + 18 + 6 + 6 ≤ 150000 by omega) (by first | exact Nat.le_of_ble_eq_true rfl | simp [cat_rf, Value.category]) (fun A ow τ M sz hH hV => ?_)
  refine g_const hX dL_songs_373 ?_
  refine yf_icmp_ne hX dL_songs_374 (ya_in rfl) (ya_in rfl) (by decide) ?_
  refine g_aload hX dL_songs_377 rfl rfl ?_
  refine l_metres hX hst dL_songs_378 hH hV yoe33 (show cs + 3 + 1 + 1 + 0 ≤ 6000 by omega) (show ss + 18 + 6 + 6 + 0 ≤ 150000 by omega) (by first | exact Nat.le_of_ble_eq_true rfl | simp [cat_rf, Value.category]) (fun A ow τ M sz hH hV => ?_)
  refine g_const hX dL_songs_381 ?_
  refine yf_icmp_ne hX dL_songs_382 (ya_in rfl) (ya_in rfl) (by decide) ?_
  refine g_aload hX dL_songs_385 rfl rfl ?_
  refine g_const hX dL_songs_386 ?_
  refine g_const hX dL_songs_387 ?_
  refine g_const hX dL_songs_390 ?_
  refine g_const hX dL_songs_392 ?_
  refine l_why hX hst dL_songs_394 hH hV (ya_in rfl) (ya_in rfl) (ya_in rfl) (ya_in rfl) yoe34 (show cs + 3 + 1 + 1 + 0 + 5 ≤ 6000 by omega) (show ss + 18 + 6 + 6 + 0 + 30 ≤ 150000 by omega) (by first | exact Nat.le_of_ble_eq_true rfl | simp [cat_rf, Value.category]) (fun A ow τ M sz hH hV => ?_)
  refine g_const hX dL_songs_397 ?_
  refine yf_icmp_ne hX dL_songs_398 (ya_in rfl) (ya_in rfl) (by decide) ?_
  refine g_aload hX dL_songs_401 rfl rfl ?_
  refine g_const hX dL_songs_402 ?_
  refine g_const hX dL_songs_405 ?_
  refine g_const hX dL_songs_407 ?_
  refine l_theme hX hst dL_songs_409 hH hV (ya_in rfl) (ya_in rfl) (ya_in rfl) yoe35 (show cs + 3 + 1 + 1 + 0 + 5 + 3 ≤ 6000 by omega) (show ss + 18 + 6 + 6 + 0 + 30 + 18 ≤ 150000 by omega) (by first | exact Nat.le_of_ble_eq_true rfl | simp [cat_rf, Value.category]) (fun A ow τ M sz hH hV => ?_)
  refine g_const hX dL_songs_412 ?_
  refine yf_icmp_ne hX dL_songs_413 (ya_in rfl) (ya_in rfl) (by decide) ?_
  refine g_aload hX dL_songs_416 rfl rfl ?_
  refine g_const hX dL_songs_417 ?_
  refine g_const hX dL_songs_418 ?_
  refine g_const hX dL_songs_421 ?_
  refine g_const hX dL_songs_423 ?_
  refine l_why hX hst dL_songs_425 hH hV (ya_in rfl) (ya_in rfl) (ya_in rfl) (ya_in rfl) yoe36 (show cs + 3 + 1 + 1 + 0 + 5 + 3 + 5 ≤ 6000 by omega) (show ss + 18 + 6 + 6 + 0 + 30 + 18 + 30 ≤ 150000 by omega) (by first | exact Nat.le_of_ble_eq_true rfl | simp [cat_rf, Value.category]) (fun A ow τ M sz hH hV => ?_)
  refine g_const hX dL_songs_428 ?_
  refine yf_icmp_ne hX dL_songs_429 (ya_in rfl) (ya_in rfl) (by decide) ?_
  refine g_aload hX dL_songs_432 rfl rfl ?_
  refine g_const hX dL_songs_433 ?_
  refine g_const hX dL_songs_434 ?_
  refine g_const hX dL_songs_437 ?_
  refine g_const hX dL_songs_439 ?_
  refine l_why hX hst dL_songs_441 hH hV (ya_in rfl) (ya_in rfl) (ya_in rfl) (ya_in rfl) yoe37 (show cs + 3 + 1 + 1 + 0 + 5 + 3 + 5 + 5 ≤ 6000 by omega) (show ss + 18 + 6 + 6 + 0 + 30 + 18 + 30 + 30 ≤ 150000 by omega) (by first | exact Nat.le_of_ble_eq_true rfl | simp [cat_rf, Value.category]) (fun A ow τ M sz hH hV => ?_)
  refine yt_if_eq hX dL_songs_444 (ya_in rfl) (by decide) ?_
  refine g_aload hX dL_songs_449 rfl rfl ?_
  refine g_const hX dL_songs_450 ?_
  refine g_const hX dL_songs_453 ?_
  refine g_const hX dL_songs_455 ?_
  refine l_sing hX hst dL_songs_457 hH hV (ya_in rfl) (ya_in rfl) (ya_in rfl) yoe38 (show cs + 3 + 1 + 1 + 0 + 5 + 3 + 5 + 5 + 8 ≤ 6000 by omega) (show ss + 18 + 6 + 6 + 0 + 30 + 18 + 30 + 30 + 241 ≤ 150000 by omega) (by first | exact Nat.le_of_ble_eq_true rfl | simp [cat_rf, Value.category]) (fun A ow τ M sz hH hV => ?_)
  refine yf_if_ne hX dL_songs_460 (ya_in rfl) (by decide) ?_
  refine g_aload hX dL_songs_463 rfl rfl ?_
  refine g_const hX dL_songs_464 ?_
  refine g_const hX dL_songs_465 ?_
  refine l_service hX hst dL_songs_466 hH hV (ya_in rfl) (ya_in rfl) yoe39 (show cs + 3 + 1 + 1 + 0 + 5 + 3 + 5 + 5 + 8 + 2 ≤ 6000 by omega) (show ss + 18 + 6 + 6 + 0 + 30 + 18 + 30 + 30 + 241 + 12 ≤ 150000 by omega) (by first | exact Nat.le_of_ble_eq_true rfl | simp [cat_rf, Value.category]) (fun A ow τ M sz hH hV => ?_)
  exact so_g4 hX hst hR hK hH hV (by omega) (by omega)

set_option maxRecDepth 20000 in
theorem so_g2 {X : hX} (hX : Cok X mL_songs) (hst : X.1.2.1.stackTraces = false) {M0 : hM} {sz0 : Nat} {K : hK} (hR : Ret X mL_songs M0 sz0 K) (hK : ∀ (M' : hM) (s9 : Nat), K (.inl (some (.int (iZ 1)))) M' s9) {h : Nat} {A : Nat → Nat → Nat} {ow : Nat → Nat × Nat} {τ : Nat → Nat → Int} {M : hM} {sz cs ss : Nat} (hH : HX X.2.2.2.2.2.2.2.2.2 h A ow (ya_TB yoS7) τ M) (hV : SV (ya_TB yoS7)) (hc : cs + 5681 ≤ 6000) (hs : ss + 138983 ≤ 150000) : G X 243 [.ref h] [.int (iZ 0), .int (iZ 0), .ref h] M sz cs ss := by
  refine l_fits hX hst dL_songs_243 hH hV (ya_in rfl) (ya_in rfl) yoe19 (show cs + 2 ≤ 6000 by omega) (show ss + 12 ≤ 150000 by omega) (by first | exact Nat.le_of_ble_eq_true rfl | simp [cat_rf, Value.category]) (fun A ow τ M sz hH hV => ?_)
  refine yf_if_ne hX dL_songs_246 (ya_in rfl) (by decide) ?_
  refine g_aload hX dL_songs_249 rfl rfl ?_
  refine g_const hX dL_songs_250 ?_
  refine g_const hX dL_songs_251 ?_
  refine g_const hX dL_songs_252 ?_
  refine g_const hX dL_songs_253 ?_
  refine g_const hX dL_songs_254 ?_
  refine l_act hX hst dL_songs_255 hH hV (ya_in rfl) (ya_in rfl) (ya_in rfl) (ya_in rfl) (ya_in rfl) yoe21 (show cs + 2 + 10 ≤ 6000 by omega) (show ss + 12 + 250 ≤ 150000 by omega) (by first | exact Nat.le_of_ble_eq_true rfl | simp [cat_rf, Value.category]) (fun A ow τ M sz hH hV => ?_)
  refine g_const hX dL_songs_258 ?_
  refine yf_icmp_ne hX dL_songs_260 (ya_in rfl) (ya_in rfl) (by decide) ?_
  refine g_aload hX dL_songs_263 rfl rfl ?_
  refine g_const hX dL_songs_264 ?_
  refine g_const hX dL_songs_265 ?_
  refine g_const hX dL_songs_266 ?_
  refine l_phrase hX hst dL_songs_267 hH hV (ya_in rfl) (ya_in rfl) (ya_in rfl) yoe22 (show cs + 2 + 10 + 4 ≤ 6000 by omega) (show ss + 12 + 250 + 24 ≤ 150000 by omega) (by first | exact Nat.le_of_ble_eq_true rfl | simp [cat_rf, Value.category]) (fun A ow τ M sz hH hV => ?_)
  refine g_const hX dL_songs_270 ?_
  refine yf_icmp_ne hX dL_songs_271 (ya_in rfl) (ya_in rfl) (by decide) ?_
  refine g_aload hX dL_songs_274 rfl rfl ?_
  refine g_const hX dL_songs_275 ?_
  refine g_const hX dL_songs_276 ?_
  refine l_fits hX hst dL_songs_277 hH hV (ya_in rfl) (ya_in rfl) yoe23 (show cs + 2 + 10 + 4 + 2 ≤ 6000 by omega) (show ss + 12 + 250 + 24 + 12 ≤ 150000 by omega) (by first | exact Nat.le_of_ble_eq_true rfl | simp [cat_rf, Value.category]) (fun A ow τ M sz hH hV => ?_)
  refine yf_if_ne hX dL_songs_280 (ya_in rfl) (by decide) ?_
  refine g_aload hX dL_songs_283 rfl rfl ?_
  refine g_const hX dL_songs_284 ?_
  refine g_const hX dL_songs_285 ?_
  refine g_const hX dL_songs_286 ?_
  refine l_phrase hX hst dL_songs_287 hH hV (ya_in rfl) (ya_in rfl) (ya_in rfl) yoe24 (show cs + 2 + 10 + 4 + 2 + 4 ≤ 6000 by omega) (show ss + 12 + 250 + 24 + 12 + 24 ≤ 150000 by omega) (by first | exact Nat.le_of_ble_eq_true rfl | simp [cat_rf, Value.category]) (fun A ow τ M sz hH hV => ?_)
  refine g_const hX dL_songs_290 ?_
  refine yf_icmp_ne hX dL_songs_291 (ya_in rfl) (ya_in rfl) (by decide) ?_
  refine g_aload hX dL_songs_294 rfl rfl ?_
  refine g_const hX dL_songs_295 ?_
  refine g_const hX dL_songs_296 ?_
  refine l_fits hX hst dL_songs_297 hH hV (ya_in rfl) (ya_in rfl) yoe25 (show cs + 2 + 10 + 4 + 2 + 4 + 2 ≤ 6000 by omega) (show ss + 12 + 250 + 24 + 12 + 24 + 12 ≤ 150000 by omega) (by first | exact Nat.le_of_ble_eq_true rfl | simp [cat_rf, Value.category]) (fun A ow τ M sz hH hV => ?_)
  refine g_const hX dL_songs_300 ?_
  refine yf_icmp_ne hX dL_songs_301 (ya_in rfl) (ya_in rfl) (by decide) ?_
  refine g_aload hX dL_songs_304 rfl rfl ?_
  refine g_const hX dL_songs_305 ?_
  refine g_const hX dL_songs_306 ?_
  refine l_clashes hX hst dL_songs_307 hH hV (ya_in rfl) (ya_in rfl) yoe26 (show cs + 2 + 10 + 4 + 2 + 4 + 2 + 3 ≤ 6000 by omega) (show ss + 12 + 250 + 24 + 12 + 24 + 12 + 18 ≤ 150000 by omega) (by first | exact Nat.le_of_ble_eq_true rfl | simp [cat_rf, Value.category]) (fun A ow τ M sz hH hV => ?_)
  refine g_const hX dL_songs_310 ?_
  refine yf_icmp_ne hX dL_songs_311 (ya_in rfl) (ya_in rfl) (by decide) ?_
  refine g_aload hX dL_songs_314 rfl rfl ?_
  refine g_const hX dL_songs_315 ?_
  refine g_const hX dL_songs_318 ?_
  refine g_const hX dL_songs_319 ?_
  refine l_tune hX hst dL_songs_321 hH hV (ya_in rfl) (ya_in rfl) (ya_in rfl) yoe27 (show cs + 2 + 10 + 4 + 2 + 4 + 2 + 3 + 10 ≤ 6000 by omega) (show ss + 12 + 250 + 24 + 12 + 24 + 12 + 18 + 250 ≤ 150000 by omega) (by first | exact Nat.le_of_ble_eq_true rfl | simp [cat_rf, Value.category]) (fun A ow τ M sz hH hV => ?_)
  refine g_const hX dL_songs_324 ?_
  refine yf_icmp_ne hX dL_songs_325 (ya_in rfl) (ya_in rfl) (by decide) ?_
  refine g_aload hX dL_songs_328 rfl rfl ?_
  refine g_const hX dL_songs_329 ?_
  refine g_const hX dL_songs_330 ?_
  refine g_const hX dL_songs_331 ?_
  refine l_phrase hX hst dL_songs_332 hH hV (ya_in rfl) (ya_in rfl) (ya_in rfl) yoe28 (show cs + 2 + 10 + 4 + 2 + 4 + 2 + 3 + 10 + 4 ≤ 6000 by omega) (show ss + 12 + 250 + 24 + 12 + 24 + 12 + 18 + 250 + 24 ≤ 150000 by omega) (by first | exact Nat.le_of_ble_eq_true rfl | simp [cat_rf, Value.category]) (fun A ow τ M sz hH hV => ?_)
  refine g_const hX dL_songs_335 ?_
  refine yf_icmp_ne hX dL_songs_336 (ya_in rfl) (ya_in rfl) (by decide) ?_
  refine g_aload hX dL_songs_339 rfl rfl ?_
  refine g_const hX dL_songs_340 ?_
  refine g_const hX dL_songs_341 ?_
  refine g_const hX dL_songs_342 ?_
  refine l_phrase hX hst dL_songs_343 hH hV (ya_in rfl) (ya_in rfl) (ya_in rfl) yoe29 (show cs + 2 + 10 + 4 + 2 + 4 + 2 + 3 + 10 + 4 + 4 ≤ 6000 by omega) (show ss + 12 + 250 + 24 + 12 + 24 + 12 + 18 + 250 + 24 + 24 ≤ 150000 by omega) (by first | exact Nat.le_of_ble_eq_true rfl | simp [cat_rf, Value.category]) (fun A ow τ M sz hH hV => ?_)
  exact so_g3 hX hst hR hK hH hV (by omega) (by omega)

set_option maxRecDepth 20000 in
theorem so_g1 {X : hX} (hX : Cok X mL_songs) (hst : X.1.2.1.stackTraces = false) {M0 : hM} {sz0 : Nat} {K : hK} (hR : Ret X mL_songs M0 sz0 K) (hK : ∀ (M' : hM) (s9 : Nat), K (.inl (some (.int (iZ 1)))) M' s9) {h : Nat} {A : Nat → Nat → Nat} {ow : Nat → Nat × Nat} {τ : Nat → Nat → Int} {M : hM} {sz cs ss : Nat} (hH : HX X.2.2.2.2.2.2.2.2.2 h A ow (ya_TB yoS3) τ M) (hV : SV (ya_TB yoS3)) (hc : cs + 5734 ≤ 6000) (hs : ss + 140060 ≤ 150000) : G X 124 [.ref h] [.int (iZ (-100))] M sz cs ss := by
  refine g_const hX dL_songs_124 ?_
  refine yf_icmp_ne hX dL_songs_126 (ya_in rfl) (ya_in rfl) (by decide) ?_
  refine g_aload hX dL_songs_129 rfl rfl ?_
  refine g_const hX dL_songs_130 ?_
  refine g_const hX dL_songs_132 ?_
  refine g_const hX dL_songs_135 ?_
  refine g_const hX dL_songs_137 ?_
  refine g_const hX dL_songs_139 ?_
  refine l_act hX hst dL_songs_140 hH hV (ya_in rfl) (ya_in rfl) (ya_in rfl) (ya_in rfl) (ya_in rfl) yoe10 (show cs + 10 ≤ 6000 by omega) (show ss + 250 ≤ 150000 by omega) (by first | exact Nat.le_of_ble_eq_true rfl | simp [cat_rf, Value.category]) (fun A ow τ M sz hH hV => ?_)
  refine g_const hX dL_songs_143 ?_
  refine yf_icmp_ne hX dL_songs_145 (ya_in rfl) (ya_in rfl) (by decide) ?_
  refine g_aload hX dL_songs_148 rfl rfl ?_
  refine g_const hX dL_songs_149 ?_
  refine g_const hX dL_songs_152 ?_
  refine l_text hX hst dL_songs_155 hH hV (ya_in rfl) (ya_in rfl) yoe11 (show cs + 10 + 9 ≤ 6000 by omega) (show ss + 250 + 243 ≤ 150000 by omega) (by first | exact Nat.le_of_ble_eq_true rfl | simp [cat_rf, Value.category]) (fun A ow τ M sz hH hV => ?_)
  refine yf_if_ne hX dL_songs_158 (ya_in rfl) (by decide) ?_
  refine g_aload hX dL_songs_161 rfl rfl ?_
  refine g_const hX dL_songs_162 ?_
  refine g_const hX dL_songs_164 ?_
  refine g_const hX dL_songs_165 ?_
  refine g_const hX dL_songs_168 ?_
  refine g_const hX dL_songs_170 ?_
  refine l_act hX hst dL_songs_171 hH hV (ya_in rfl) (ya_in rfl) (ya_in rfl) (ya_in rfl) (ya_in rfl) yoe13 (show cs + 10 + 9 + 10 ≤ 6000 by omega) (show ss + 250 + 243 + 250 ≤ 150000 by omega) (by first | exact Nat.le_of_ble_eq_true rfl | simp [cat_rf, Value.category]) (fun A ow τ M sz hH hV => ?_)
  refine g_const hX dL_songs_174 ?_
  refine yf_icmp_ne hX dL_songs_176 (ya_in rfl) (ya_in rfl) (by decide) ?_
  refine g_aload hX dL_songs_179 rfl rfl ?_
  refine g_const hX dL_songs_180 ?_
  refine g_const hX dL_songs_181 ?_
  refine g_const hX dL_songs_184 ?_
  refine g_const hX dL_songs_186 ?_
  refine l_why hX hst dL_songs_188 hH hV (ya_in rfl) (ya_in rfl) (ya_in rfl) (ya_in rfl) yoe14 (show cs + 10 + 9 + 10 + 5 ≤ 6000 by omega) (show ss + 250 + 243 + 250 + 30 ≤ 150000 by omega) (by first | exact Nat.le_of_ble_eq_true rfl | simp [cat_rf, Value.category]) (fun A ow τ M sz hH hV => ?_)
  refine g_const hX dL_songs_191 ?_
  refine yf_icmp_ne hX dL_songs_192 (ya_in rfl) (ya_in rfl) (by decide) ?_
  refine g_aload hX dL_songs_195 rfl rfl ?_
  refine g_const hX dL_songs_196 ?_
  refine g_const hX dL_songs_197 ?_
  refine g_const hX dL_songs_198 ?_
  refine l_line hX hst dL_songs_199 hH hV (ya_in rfl) (ya_in rfl) (ya_in rfl) yoe15 (show cs + 10 + 9 + 10 + 5 + 4 ≤ 6000 by omega) (show ss + 250 + 243 + 250 + 30 + 24 ≤ 150000 by omega) (by first | exact Nat.le_of_ble_eq_true rfl | simp [cat_rf, Value.category]) (fun A ow τ M sz hH hV => ?_)
  refine g_const hX dL_songs_202 ?_
  refine yf_icmp_ne hX dL_songs_203 (ya_in rfl) (ya_in rfl) (by decide) ?_
  refine g_aload hX dL_songs_206 rfl rfl ?_
  refine g_const hX dL_songs_207 ?_
  refine g_const hX dL_songs_208 ?_
  refine g_const hX dL_songs_209 ?_
  refine l_line hX hst dL_songs_210 hH hV (ya_in rfl) (ya_in rfl) (ya_in rfl) yoe16 (show cs + 10 + 9 + 10 + 5 + 4 + 4 ≤ 6000 by omega) (show ss + 250 + 243 + 250 + 30 + 24 + 24 ≤ 150000 by omega) (by first | exact Nat.le_of_ble_eq_true rfl | simp [cat_rf, Value.category]) (fun A ow τ M sz hH hV => ?_)
  refine g_const hX dL_songs_213 ?_
  refine yf_icmp_ne hX dL_songs_214 (ya_in rfl) (ya_in rfl) (by decide) ?_
  refine g_aload hX dL_songs_217 rfl rfl ?_
  refine g_const hX dL_songs_218 ?_
  refine l_best hX hst dL_songs_219 hH hV (ya_in rfl) yoe17 (show cs + 10 + 9 + 10 + 5 + 4 + 4 + 1 ≤ 6000 by omega) (show ss + 250 + 243 + 250 + 30 + 24 + 24 + 6 ≤ 150000 by omega) (by first | exact Nat.le_of_ble_eq_true rfl | simp [cat_rf, Value.category]) (fun A ow τ M sz hH hV => ?_)
  refine g_const hX dL_songs_222 ?_
  refine yf_icmp_ne hX dL_songs_224 (ya_in rfl) (ya_in rfl) (by decide) ?_
  refine g_aload hX dL_songs_227 rfl rfl ?_
  refine g_const hX dL_songs_228 ?_
  refine g_const hX dL_songs_231 ?_
  refine g_const hX dL_songs_232 ?_
  refine l_tune hX hst dL_songs_234 hH hV (ya_in rfl) (ya_in rfl) (ya_in rfl) yoe18 (show cs + 10 + 9 + 10 + 5 + 4 + 4 + 1 + 10 ≤ 6000 by omega) (show ss + 250 + 243 + 250 + 30 + 24 + 24 + 6 + 250 ≤ 150000 by omega) (by first | exact Nat.le_of_ble_eq_true rfl | simp [cat_rf, Value.category]) (fun A ow τ M sz hH hV => ?_)
  refine yf_if_ne hX dL_songs_237 (ya_in rfl) (by decide) ?_
  refine g_aload hX dL_songs_240 rfl rfl ?_
  refine g_const hX dL_songs_241 ?_
  refine g_const hX dL_songs_242 ?_
  exact so_g2 hX hst hR hK hH hV (by omega) (by omega)

set_option maxRecDepth 20000 in
theorem so_g0 {X : hX} (hX : Cok X mL_songs) (hst : X.1.2.1.stackTraces = false) {M0 : hM} {sz0 : Nat} {K : hK} (hR : Ret X mL_songs M0 sz0 K) (hK : ∀ (M' : hM) (s9 : Nat), K (.inl (some (.int (iZ 1)))) M' s9) {h : Nat} {A : Nat → Nat → Nat} {ow : Nat → Nat × Nat} {τ : Nat → Nat → Int} {M : hM} {sz cs ss : Nat} (hH : HX X.2.2.2.2.2.2.2.2.2 h A ow (ya_TB yoS0) τ M) (hV : SV (ya_TB yoS0)) (hc : cs + 5761 ≤ 6000) (hs : ss + 140222 ≤ 150000) : G X 0 [.ref h] [] M sz cs ss := by
  refine g_aload hX dL_songs_0 rfl rfl ?_
  refine g_const hX dL_songs_1 ?_
  refine g_const hX dL_songs_2 ?_
  refine g_const hX dL_songs_3 ?_
  refine l_reading hX hst dL_songs_4 hH hV (ya_in rfl) (ya_in rfl) (ya_in rfl) yoe0 (show cs + 3 ≤ 6000 by omega) (show ss + 18 ≤ 150000 by omega) (by first | exact Nat.le_of_ble_eq_true rfl | simp [cat_rf, Value.category]) (fun A ow τ M sz hH hV => ?_)
  refine g_const hX dL_songs_7 ?_
  refine yf_icmp_ne hX dL_songs_9 (ya_in rfl) (ya_in rfl) (by decide) ?_
  refine g_aload hX dL_songs_12 rfl rfl ?_
  refine g_const hX dL_songs_13 ?_
  refine g_const hX dL_songs_14 ?_
  refine g_const hX dL_songs_15 ?_
  refine l_reading hX hst dL_songs_17 hH hV (ya_in rfl) (ya_in rfl) (ya_in rfl) yoe1 (show cs + 3 + 3 ≤ 6000 by omega) (show ss + 18 + 18 ≤ 150000 by omega) (by first | exact Nat.le_of_ble_eq_true rfl | simp [cat_rf, Value.category]) (fun A ow τ M sz hH hV => ?_)
  refine g_const hX dL_songs_20 ?_
  refine yf_icmp_ne hX dL_songs_22 (ya_in rfl) (ya_in rfl) (by decide) ?_
  refine g_aload hX dL_songs_25 rfl rfl ?_
  refine g_const hX dL_songs_26 ?_
  refine g_const hX dL_songs_28 ?_
  refine g_const hX dL_songs_29 ?_
  refine l_reading hX hst dL_songs_30 hH hV (ya_in rfl) (ya_in rfl) (ya_in rfl) yoe2 (show cs + 3 + 3 + 3 ≤ 6000 by omega) (show ss + 18 + 18 + 18 ≤ 150000 by omega) (by first | exact Nat.le_of_ble_eq_true rfl | simp [cat_rf, Value.category]) (fun A ow τ M sz hH hV => ?_)
  refine g_const hX dL_songs_33 ?_
  refine yf_icmp_ne hX dL_songs_35 (ya_in rfl) (ya_in rfl) (by decide) ?_
  refine g_aload hX dL_songs_38 rfl rfl ?_
  refine g_const hX dL_songs_39 ?_
  refine g_const hX dL_songs_42 ?_
  refine g_const hX dL_songs_44 ?_
  refine l_theme hX hst dL_songs_46 hH hV (ya_in rfl) (ya_in rfl) (ya_in rfl) yoe3 (show cs + 3 + 3 + 3 + 3 ≤ 6000 by omega) (show ss + 18 + 18 + 18 + 18 ≤ 150000 by omega) (by first | exact Nat.le_of_ble_eq_true rfl | simp [cat_rf, Value.category]) (fun A ow τ M sz hH hV => ?_)
  refine g_const hX dL_songs_49 ?_
  refine yf_icmp_ne hX dL_songs_51 (ya_in rfl) (ya_in rfl) (by decide) ?_
  refine g_aload hX dL_songs_54 rfl rfl ?_
  refine g_const hX dL_songs_55 ?_
  refine g_const hX dL_songs_58 ?_
  refine g_const hX dL_songs_60 ?_
  refine l_theme hX hst dL_songs_62 hH hV (ya_in rfl) (ya_in rfl) (ya_in rfl) yoe4 (show cs + 3 + 3 + 3 + 3 + 3 ≤ 6000 by omega) (show ss + 18 + 18 + 18 + 18 + 18 ≤ 150000 by omega) (by first | exact Nat.le_of_ble_eq_true rfl | simp [cat_rf, Value.category]) (fun A ow τ M sz hH hV => ?_)
  refine g_const hX dL_songs_65 ?_
  refine yf_icmp_ne hX dL_songs_66 (ya_in rfl) (ya_in rfl) (by decide) ?_
  refine g_aload hX dL_songs_69 rfl rfl ?_
  refine g_const hX dL_songs_70 ?_
  refine g_const hX dL_songs_73 ?_
  refine g_const hX dL_songs_75 ?_
  refine l_theme hX hst dL_songs_77 hH hV (ya_in rfl) (ya_in rfl) (ya_in rfl) yoe5 (show cs + 3 + 3 + 3 + 3 + 3 + 3 ≤ 6000 by omega) (show ss + 18 + 18 + 18 + 18 + 18 + 18 ≤ 150000 by omega) (by first | exact Nat.le_of_ble_eq_true rfl | simp [cat_rf, Value.category]) (fun A ow τ M sz hH hV => ?_)
  refine g_const hX dL_songs_80 ?_
  refine yf_icmp_ne hX dL_songs_82 (ya_in rfl) (ya_in rfl) (by decide) ?_
  refine g_aload hX dL_songs_85 rfl rfl ?_
  refine g_const hX dL_songs_86 ?_
  refine g_const hX dL_songs_89 ?_
  refine g_const hX dL_songs_91 ?_
  refine l_theme hX hst dL_songs_92 hH hV (ya_in rfl) (ya_in rfl) (ya_in rfl) yoe6 (show cs + 3 + 3 + 3 + 3 + 3 + 3 + 3 ≤ 6000 by omega) (show ss + 18 + 18 + 18 + 18 + 18 + 18 + 18 ≤ 150000 by omega) (by first | exact Nat.le_of_ble_eq_true rfl | simp [cat_rf, Value.category]) (fun A ow τ M sz hH hV => ?_)
  refine g_const hX dL_songs_95 ?_
  refine yf_icmp_ne hX dL_songs_96 (ya_in rfl) (ya_in rfl) (by decide) ?_
  refine g_aload hX dL_songs_99 rfl rfl ?_
  refine g_const hX dL_songs_100 ?_
  refine g_const hX dL_songs_103 ?_
  refine g_const hX dL_songs_105 ?_
  refine l_theme hX hst dL_songs_106 hH hV (ya_in rfl) (ya_in rfl) (ya_in rfl) yoe7 (show cs + 3 + 3 + 3 + 3 + 3 + 3 + 3 + 3 ≤ 6000 by omega) (show ss + 18 + 18 + 18 + 18 + 18 + 18 + 18 + 18 ≤ 150000 by omega) (by first | exact Nat.le_of_ble_eq_true rfl | simp [cat_rf, Value.category]) (fun A ow τ M sz hH hV => ?_)
  refine g_const hX dL_songs_109 ?_
  refine yf_icmp_ne hX dL_songs_111 (ya_in rfl) (ya_in rfl) (by decide) ?_
  refine g_aload hX dL_songs_114 rfl rfl ?_
  refine g_const hX dL_songs_115 ?_
  refine g_const hX dL_songs_118 ?_
  refine g_const hX dL_songs_120 ?_
  refine l_theme hX hst dL_songs_121 hH hV (ya_in rfl) (ya_in rfl) (ya_in rfl) yoe8 (show cs + 3 + 3 + 3 + 3 + 3 + 3 + 3 + 3 + 3 ≤ 6000 by omega) (show ss + 18 + 18 + 18 + 18 + 18 + 18 + 18 + 18 + 18 ≤ 150000 by omega) (by first | exact Nat.le_of_ble_eq_true rfl | simp [cat_rf, Value.category]) (fun A ow τ M sz hH hV => ?_)
  exact so_g1 hX hst hR hK hH hV (by omega) (by omega)

def sp_L_songs (g : hG) : hS := fun as M sz K => ∃ (h : Nat) (A : Nat → Nat → Nat) (ow : Nat → Nat × Nat) (τ : Nat → Nat → Int), as = [.ref h] ∧ HX g.2.2.2.2 h A ow (ya_TB yoS0) τ M ∧ SV (ya_TB yoS0) ∧ ∀ (M' : hM) (s9 : Nat), K (.inl (some (.int (iZ 1)))) M' s9
theorem s_L_songs {l : Launch} {g : hG} (hst : l.stackTraces = false) : Ctr l g mL_songs (sp_L_songs g) := by
  refine Ctr.mk9 hst (by decide) ?_ ?_
  · rintro as M sz K ⟨h, A, ow, τ, rfl, hH, hV, hK⟩
    exact ⟨by simp [mL_songs], cat_ok rfl⟩
  rintro X as M sz K hX rfl rfl hR ⟨h, A, ow, τ, rfl, hH, hV, hK⟩
  show G X 0 [.ref h] [] M sz 0 0
  exact so_g0 hX hst hR hK hH hV (by omega) (by omega)

