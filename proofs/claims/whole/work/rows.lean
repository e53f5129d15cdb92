section
/-- a private method of a class that the tables say can be made, by its rows of tables_1 -/
def lw_okq (q : MethodName × Nat) : Prop := (q.1.cls ≠ "java/lang/invoke/MethodHandle" ∧ q.1.cls ≠ "java/lang/invoke/VarHandle") ∧ Cond.instantiable q.1.cls q.2 ∈ tables_1 ∧ Cond.privateMethod q.1 ∈ tables_1 ∧ Cond.instanceMethod q.1 ∈ tables_1
theorem lw_p0 : lw_okq (⟨"Hymnwright", "isFirstOfItsMetre", "(LHymnwright$Tune;)Z"⟩, 7) := ⟨⟨by decide +kernel, by decide +kernel⟩, List.mem_of_getElem? (i := 29) (by decide +kernel), List.mem_of_getElem? (i := 144) (by decide +kernel), List.mem_of_getElem? (i := 145) (by decide +kernel)⟩
theorem lw_p1 : lw_okq (⟨"Hymnwright$Rows", "hasMetreOf", "(LHymnwright$Rows;)Z"⟩, 3) := ⟨⟨by decide +kernel, by decide +kernel⟩, List.mem_of_getElem? (i := 150) (by decide +kernel), List.mem_of_getElem? (i := 148) (by decide +kernel), List.mem_of_getElem? (i := 149) (by decide +kernel)⟩
theorem lw_p2 : lw_okq (⟨"Hymnwright$Rows", "hasMetreFrom", "(ILHymnwright$Rows;)Z"⟩, 3) := ⟨⟨by decide +kernel, by decide +kernel⟩, List.mem_of_getElem? (i := 150) (by decide +kernel), List.mem_of_getElem? (i := 153) (by decide +kernel), List.mem_of_getElem? (i := 154) (by decide +kernel)⟩
theorem lw_p3 : lw_okq (⟨"Hymnwright$Rows", "lengthAt", "(I)I"⟩, 3) := ⟨⟨by decide +kernel, by decide +kernel⟩, List.mem_of_getElem? (i := 150) (by decide +kernel), List.mem_of_getElem? (i := 157) (by decide +kernel), List.mem_of_getElem? (i := 158) (by decide +kernel)⟩
theorem lw_p4 : lw_okq (⟨"java/lang/Throwable", "fillInStackTrace", "(I)Ljava/lang/Throwable;"⟩, 6) := ⟨⟨by decide +kernel, by decide +kernel⟩, List.mem_of_getElem? (i := 211) (by decide +kernel), List.mem_of_getElem? (i := 209) (by decide +kernel), List.mem_of_getElem? (i := 210) (by decide +kernel)⟩
theorem lw_p5 : lw_okq (⟨"java/util/ArrayList", "add", "(Ljava/lang/Object;[Ljava/lang/Object;I)V"⟩, 3) := ⟨⟨by decide +kernel, by decide +kernel⟩, List.mem_of_getElem? (i := 37) (by decide +kernel), List.mem_of_getElem? (i := 313) (by decide +kernel), List.mem_of_getElem? (i := 314) (by decide +kernel)⟩
theorem lw_p6 : lw_okq (⟨"java/util/ArrayList", "grow", "()[Ljava/lang/Object;"⟩, 3) := ⟨⟨by decide +kernel, by decide +kernel⟩, List.mem_of_getElem? (i := 37) (by decide +kernel), List.mem_of_getElem? (i := 317) (by decide +kernel), List.mem_of_getElem? (i := 318) (by decide +kernel)⟩
theorem lw_p7 : lw_okq (⟨"java/util/ArrayList", "grow", "(I)[Ljava/lang/Object;"⟩, 3) := ⟨⟨by decide +kernel, by decide +kernel⟩, List.mem_of_getElem? (i := 37) (by decide +kernel), List.mem_of_getElem? (i := 321) (by decide +kernel), List.mem_of_getElem? (i := 322) (by decide +kernel)⟩
theorem lw_p8 : lw_okq (⟨"Hymnwright", "textAt", "(I)LHymnwright$Text;"⟩, 7) := ⟨⟨by decide +kernel, by decide +kernel⟩, List.mem_of_getElem? (i := 29) (by decide +kernel), List.mem_of_getElem? (i := 378) (by decide +kernel), List.mem_of_getElem? (i := 379) (by decide +kernel)⟩
theorem lw_p9 : lw_okq (⟨"Hymnwright$Rows", "append", "(II)V"⟩, 3) := ⟨⟨by decide +kernel, by decide +kernel⟩, List.mem_of_getElem? (i := 150) (by decide +kernel), List.mem_of_getElem? (i := 405) (by decide +kernel), List.mem_of_getElem? (i := 406) (by decide +kernel)⟩
theorem lw_p10 : lw_okq (⟨"Hymnwright", "tuneAt", "(I)LHymnwright$Tune;"⟩, 7) := ⟨⟨by decide +kernel, by decide +kernel⟩, List.mem_of_getElem? (i := 29) (by decide +kernel), List.mem_of_getElem? (i := 454) (by decide +kernel), List.mem_of_getElem? (i := 455) (by decide +kernel)⟩
theorem lw_p11 : lw_okq (⟨"Hymnwright$Rows", "marksAt", "(I)I"⟩, 3) := ⟨⟨by decide +kernel, by decide +kernel⟩, List.mem_of_getElem? (i := 150) (by decide +kernel), List.mem_of_getElem? (i := 480) (by decide +kernel), List.mem_of_getElem? (i := 481) (by decide +kernel)⟩
theorem lw_p12 : lw_okq (⟨"Hymnwright", "bestTune", "(LHymnwright$Text;ZI)LHymnwright$Tune;"⟩, 7) := ⟨⟨by decide +kernel, by decide +kernel⟩, List.mem_of_getElem? (i := 29) (by decide +kernel), List.mem_of_getElem? (i := 497) (by decide +kernel), List.mem_of_getElem? (i := 498) (by decide +kernel)⟩
theorem lw_p13 : lw_okq (⟨"Hymnwright$Rights", "isFreeIn", "(I)Z"⟩, 2) := ⟨⟨by decide +kernel, by decide +kernel⟩, List.mem_of_getElem? (i := 280) (by decide +kernel), List.mem_of_getElem? (i := 501) (by decide +kernel), List.mem_of_getElem? (i := 502) (by decide +kernel)⟩
theorem lw_p14 : lw_okq (⟨"Hymnwright$Rights", "setAllowed", "(Z)Z"⟩, 2) := ⟨⟨by decide +kernel, by decide +kernel⟩, List.mem_of_getElem? (i := 280) (by decide +kernel), List.mem_of_getElem? (i := 519) (by decide +kernel), List.mem_of_getElem? (i := 520) (by decide +kernel)⟩
theorem lw_p15 : lw_okq (⟨"Hymnwright", "addFeast", "(LHymnwright$Feast;)I"⟩, 7) := ⟨⟨by decide +kernel, by decide +kernel⟩, List.mem_of_getElem? (i := 29) (by decide +kernel), List.mem_of_getElem? (i := 619) (by decide +kernel), List.mem_of_getElem? (i := 620) (by decide +kernel)⟩
def lw_privs_1 : List (MethodName × Nat) := [(⟨"Hymnwright", "isFirstOfItsMetre", "(LHymnwright$Tune;)Z"⟩, 7), (⟨"Hymnwright$Rows", "hasMetreOf", "(LHymnwright$Rows;)Z"⟩, 3), (⟨"Hymnwright$Rows", "hasMetreFrom", "(ILHymnwright$Rows;)Z"⟩, 3), (⟨"Hymnwright$Rows", "lengthAt", "(I)I"⟩, 3), (⟨"java/lang/Throwable", "fillInStackTrace", "(I)Ljava/lang/Throwable;"⟩, 6), (⟨"java/util/ArrayList", "add", "(Ljava/lang/Object;[Ljava/lang/Object;I)V"⟩, 3), (⟨"java/util/ArrayList", "grow", "()[Ljava/lang/Object;"⟩, 3), (⟨"java/util/ArrayList", "grow", "(I)[Ljava/lang/Object;"⟩, 3), (⟨"Hymnwright", "textAt", "(I)LHymnwright$Text;"⟩, 7), (⟨"Hymnwright$Rows", "append", "(II)V"⟩, 3), (⟨"Hymnwright", "tuneAt", "(I)LHymnwright$Tune;"⟩, 7), (⟨"Hymnwright$Rows", "marksAt", "(I)I"⟩, 3), (⟨"Hymnwright", "bestTune", "(LHymnwright$Text;ZI)LHymnwright$Tune;"⟩, 7), (⟨"Hymnwright$Rights", "isFreeIn", "(I)Z"⟩, 2), (⟨"Hymnwright$Rights", "setAllowed", "(Z)Z"⟩, 2), (⟨"Hymnwright", "addFeast", "(LHymnwright$Feast;)I"⟩, 7)]
theorem lw_r1 : ∀ q ∈ lw_privs_1, lw_okq q := List.forall_mem_cons.mpr ⟨lw_p0, List.forall_mem_cons.mpr ⟨lw_p1, List.forall_mem_cons.mpr ⟨lw_p2, List.forall_mem_cons.mpr ⟨lw_p3, List.forall_mem_cons.mpr ⟨lw_p4, List.forall_mem_cons.mpr ⟨lw_p5, List.forall_mem_cons.mpr ⟨lw_p6, List.forall_mem_cons.mpr ⟨lw_p7, List.forall_mem_cons.mpr ⟨lw_p8, List.forall_mem_cons.mpr ⟨lw_p9, List.forall_mem_cons.mpr ⟨lw_p10, List.forall_mem_cons.mpr ⟨lw_p11, List.forall_mem_cons.mpr ⟨lw_p12, List.forall_mem_cons.mpr ⟨lw_p13, List.forall_mem_cons.mpr ⟨lw_p14, List.forall_mem_cons.mpr ⟨lw_p15, fun _ h => absurd h List.not_mem_nil⟩⟩⟩⟩⟩⟩⟩⟩⟩⟩⟩⟩⟩⟩⟩⟩
theorem lw_p16 : lw_okq (⟨"Hymnwright", "feastAt", "(I)LHymnwright$Feast;"⟩, 7) := ⟨⟨by decide +kernel, by decide +kernel⟩, List.mem_of_getElem? (i := 29) (by decide +kernel), List.mem_of_getElem? (i := 645) (by decide +kernel), List.mem_of_getElem? (i := 646) (by decide +kernel)⟩
theorem lw_p17 : lw_okq (⟨"Hymnwright$Readings", "replace", "(II)I"⟩, 1) := ⟨⟨by decide +kernel, by decide +kernel⟩, List.mem_of_getElem? (i := 63) (by decide +kernel), List.mem_of_getElem? (i := 649) (by decide +kernel), List.mem_of_getElem? (i := 650) (by decide +kernel)⟩
theorem lw_p18 : lw_okq (⟨"Hymnwright$Readings", "themeIn", "(I)I"⟩, 1) := ⟨⟨by decide +kernel, by decide +kernel⟩, List.mem_of_getElem? (i := 63) (by decide +kernel), List.mem_of_getElem? (i := 653) (by decide +kernel), List.mem_of_getElem? (i := 654) (by decide +kernel)⟩
theorem lw_p19 : lw_okq (⟨"Hymnwright$YearPlan", "layOut", "(ILjava/util/ArrayList;I)V"⟩, 5) := ⟨⟨by decide +kernel, by decide +kernel⟩, List.mem_of_getElem? (i := 77) (by decide +kernel), List.mem_of_getElem? (i := 664) (by decide +kernel), List.mem_of_getElem? (i := 665) (by decide +kernel)⟩
theorem lw_p20 : lw_okq (⟨"Hymnwright$YearPlan", "put", "(ILHymnwright$Feast;)V"⟩, 5) := ⟨⟨by decide +kernel, by decide +kernel⟩, List.mem_of_getElem? (i := 77) (by decide +kernel), List.mem_of_getElem? (i := 673) (by decide +kernel), List.mem_of_getElem? (i := 674) (by decide +kernel)⟩
theorem lw_p21 : lw_okq (⟨"Hymnwright$Feast", "ownDay", "(I)I"⟩, 5) := ⟨⟨by decide +kernel, by decide +kernel⟩, List.mem_of_getElem? (i := 592) (by decide +kernel), List.mem_of_getElem? (i := 677) (by decide +kernel), List.mem_of_getElem? (i := 678) (by decide +kernel)⟩
theorem lw_p22 : lw_okq (⟨"Hymnwright$YearPlan", "isOpen", "(II)Z"⟩, 5) := ⟨⟨by decide +kernel, by decide +kernel⟩, List.mem_of_getElem? (i := 77) (by decide +kernel), List.mem_of_getElem? (i := 688) (by decide +kernel), List.mem_of_getElem? (i := 689) (by decide +kernel)⟩
theorem lw_p23 : lw_okq (⟨"Hymnwright$YearPlan", "isSunday", "(I)Z"⟩, 5) := ⟨⟨by decide +kernel, by decide +kernel⟩, List.mem_of_getElem? (i := 77) (by decide +kernel), List.mem_of_getElem? (i := 692) (by decide +kernel), List.mem_of_getElem? (i := 693) (by decide +kernel)⟩
theorem lw_p24 : lw_okq (⟨"Hymnwright$YearPlan", "keptOn", "(I)I"⟩, 5) := ⟨⟨by decide +kernel, by decide +kernel⟩, List.mem_of_getElem? (i := 77) (by decide +kernel), List.mem_of_getElem? (i := 696) (by decide +kernel), List.mem_of_getElem? (i := 697) (by decide +kernel)⟩
theorem lw_p25 : lw_okq (⟨"Hymnwright$YearPlan", "dayOfFeast", "(I)I"⟩, 5) := ⟨⟨by decide +kernel, by decide +kernel⟩, List.mem_of_getElem? (i := 77) (by decide +kernel), List.mem_of_getElem? (i := 707) (by decide +kernel), List.mem_of_getElem? (i := 708) (by decide +kernel)⟩
theorem lw_p26 : lw_okq (⟨"Hymnwright", "themeOf", "(II)I"⟩, 7) := ⟨⟨by decide +kernel, by decide +kernel⟩, List.mem_of_getElem? (i := 29) (by decide +kernel), List.mem_of_getElem? (i := 729) (by decide +kernel), List.mem_of_getElem? (i := 730) (by decide +kernel)⟩
theorem lw_p27 : lw_okq (⟨"Hymnwright", "reasonAgainst", "(LHymnwright$Text;III)I"⟩, 7) := ⟨⟨by decide +kernel, by decide +kernel⟩, List.mem_of_getElem? (i := 29) (by decide +kernel), List.mem_of_getElem? (i := 743) (by decide +kernel), List.mem_of_getElem? (i := 744) (by decide +kernel)⟩
theorem lw_p28 : lw_okq (⟨"Hymnwright$Text", "hasTheme", "(I)Z"⟩, 4) := ⟨⟨by decide +kernel, by decide +kernel⟩, List.mem_of_getElem? (i := 258) (by decide +kernel), List.mem_of_getElem? (i := 747) (by decide +kernel), List.mem_of_getElem? (i := 748) (by decide +kernel)⟩
theorem lw_p29 : lw_okq (⟨"Hymnwright", "wasSungLately", "(LHymnwright$Text;I)Z"⟩, 7) := ⟨⟨by decide +kernel, by decide +kernel⟩, List.mem_of_getElem? (i := 29) (by decide +kernel), List.mem_of_getElem? (i := 751) (by decide +kernel), List.mem_of_getElem? (i := 752) (by decide +kernel)⟩
theorem lw_p30 : lw_okq (⟨"Hymnwright", "isBehindLatestService", "(I)Z"⟩, 7) := ⟨⟨by decide +kernel, by decide +kernel⟩, List.mem_of_getElem? (i := 29) (by decide +kernel), List.mem_of_getElem? (i := 763) (by decide +kernel), List.mem_of_getElem? (i := 764) (by decide +kernel)⟩
theorem lw_p31 : lw_okq (⟨"Hymnwright", "chooseText", "(III)LHymnwright$Text;"⟩, 7) := ⟨⟨by decide +kernel, by decide +kernel⟩, List.mem_of_getElem? (i := 29) (by decide +kernel), List.mem_of_getElem? (i := 772) (by decide +kernel), List.mem_of_getElem? (i := 773) (by decide +kernel)⟩
def lw_privs_2 : List (MethodName × Nat) := [(⟨"Hymnwright", "feastAt", "(I)LHymnwright$Feast;"⟩, 7), (⟨"Hymnwright$Readings", "replace", "(II)I"⟩, 1), (⟨"Hymnwright$Readings", "themeIn", "(I)I"⟩, 1), (⟨"Hymnwright$YearPlan", "layOut", "(ILjava/util/ArrayList;I)V"⟩, 5), (⟨"Hymnwright$YearPlan", "put", "(ILHymnwright$Feast;)V"⟩, 5), (⟨"Hymnwright$Feast", "ownDay", "(I)I"⟩, 5), (⟨"Hymnwright$YearPlan", "isOpen", "(II)Z"⟩, 5), (⟨"Hymnwright$YearPlan", "isSunday", "(I)Z"⟩, 5), (⟨"Hymnwright$YearPlan", "keptOn", "(I)I"⟩, 5), (⟨"Hymnwright$YearPlan", "dayOfFeast", "(I)I"⟩, 5), (⟨"Hymnwright", "themeOf", "(II)I"⟩, 7), (⟨"Hymnwright", "reasonAgainst", "(LHymnwright$Text;III)I"⟩, 7), (⟨"Hymnwright$Text", "hasTheme", "(I)Z"⟩, 4), (⟨"Hymnwright", "wasSungLately", "(LHymnwright$Text;I)Z"⟩, 7), (⟨"Hymnwright", "isBehindLatestService", "(I)Z"⟩, 7), (⟨"Hymnwright", "chooseText", "(III)LHymnwright$Text;"⟩, 7)]
theorem lw_r2 : ∀ q ∈ lw_privs_2, lw_okq q := List.forall_mem_cons.mpr ⟨lw_p16, List.forall_mem_cons.mpr ⟨lw_p17, List.forall_mem_cons.mpr ⟨lw_p18, List.forall_mem_cons.mpr ⟨lw_p19, List.forall_mem_cons.mpr ⟨lw_p20, List.forall_mem_cons.mpr ⟨lw_p21, List.forall_mem_cons.mpr ⟨lw_p22, List.forall_mem_cons.mpr ⟨lw_p23, List.forall_mem_cons.mpr ⟨lw_p24, List.forall_mem_cons.mpr ⟨lw_p25, List.forall_mem_cons.mpr ⟨lw_p26, List.forall_mem_cons.mpr ⟨lw_p27, List.forall_mem_cons.mpr ⟨lw_p28, List.forall_mem_cons.mpr ⟨lw_p29, List.forall_mem_cons.mpr ⟨lw_p30, List.forall_mem_cons.mpr ⟨lw_p31, fun _ h => absurd h List.not_mem_nil⟩⟩⟩⟩⟩⟩⟩⟩⟩⟩⟩⟩⟩⟩⟩⟩
theorem lw_p32 : lw_okq (⟨"Hymnwright", "countServices", "(LHymnwright$Text;)I"⟩, 7) := ⟨⟨by decide +kernel, by decide +kernel⟩, List.mem_of_getElem? (i := 29) (by decide +kernel), List.mem_of_getElem? (i := 776) (by decide +kernel), List.mem_of_getElem? (i := 777) (by decide +kernel)⟩
theorem lw_p33 : lw_okq (⟨"HymnwrightModel", "isText", "(I)Z"⟩, 31) := ⟨⟨by decide +kernel, by decide +kernel⟩, List.mem_of_getElem? (i := 822) (by decide +kernel), List.mem_of_getElem? (i := 942) (by decide +kernel), List.mem_of_getElem? (i := 943) (by decide +kernel)⟩
theorem lw_p34 : lw_okq (⟨"HymnwrightModel", "isTune", "(I)Z"⟩, 31) := ⟨⟨by decide +kernel, by decide +kernel⟩, List.mem_of_getElem? (i := 822) (by decide +kernel), List.mem_of_getElem? (i := 957) (by decide +kernel), List.mem_of_getElem? (i := 958) (by decide +kernel)⟩
theorem lw_p35 : lw_okq (⟨"HymnwrightModel", "fit", "(II)I"⟩, 31) := ⟨⟨by decide +kernel, by decide +kernel⟩, List.mem_of_getElem? (i := 822) (by decide +kernel), List.mem_of_getElem? (i := 965) (by decide +kernel), List.mem_of_getElem? (i := 966) (by decide +kernel)⟩
theorem lw_p36 : lw_okq (⟨"HymnwrightModel", "clash", "(II)I"⟩, 31) := ⟨⟨by decide +kernel, by decide +kernel⟩, List.mem_of_getElem? (i := 822) (by decide +kernel), List.mem_of_getElem? (i := 973) (by decide +kernel), List.mem_of_getElem? (i := 974) (by decide +kernel)⟩
theorem lw_p37 : lw_okq (⟨"HymnwrightModel", "bestOf", "(IZI)I"⟩, 31) := ⟨⟨by decide +kernel, by decide +kernel⟩, List.mem_of_getElem? (i := 822) (by decide +kernel), List.mem_of_getElem? (i := 981) (by decide +kernel), List.mem_of_getElem? (i := 982) (by decide +kernel)⟩
theorem lw_p38 : lw_okq (⟨"HymnwrightModel", "isTuneFree", "(II)Z"⟩, 31) := ⟨⟨by decide +kernel, by decide +kernel⟩, List.mem_of_getElem? (i := 822) (by decide +kernel), List.mem_of_getElem? (i := 985) (by decide +kernel), List.mem_of_getElem? (i := 986) (by decide +kernel)⟩
theorem lw_p39 : lw_okq (⟨"HymnwrightModel", "areAlike", "(II)Z"⟩, 31) := ⟨⟨by decide +kernel, by decide +kernel⟩, List.mem_of_getElem? (i := 822) (by decide +kernel), List.mem_of_getElem? (i := 993) (by decide +kernel), List.mem_of_getElem? (i := 994) (by decide +kernel)⟩
theorem lw_p40 : lw_okq (⟨"HymnwrightModel", "tellsEaster", "(I)I"⟩, 31) := ⟨⟨by decide +kernel, by decide +kernel⟩, List.mem_of_getElem? (i := 822) (by decide +kernel), List.mem_of_getElem? (i := 1017) (by decide +kernel), List.mem_of_getElem? (i := 1018) (by decide +kernel)⟩
theorem lw_p41 : lw_okq (⟨"HymnwrightModel", "adds", "(IZZII)I"⟩, 31) := ⟨⟨by decide +kernel, by decide +kernel⟩, List.mem_of_getElem? (i := 822) (by decide +kernel), List.mem_of_getElem? (i := 1061) (by decide +kernel), List.mem_of_getElem? (i := 1062) (by decide +kernel)⟩
theorem lw_p42 : lw_okq (⟨"HymnwrightModel", "readingsFrom", "(I)I"⟩, 31) := ⟨⟨by decide +kernel, by decide +kernel⟩, List.mem_of_getElem? (i := 822) (by decide +kernel), List.mem_of_getElem? (i := 1077) (by decide +kernel), List.mem_of_getElem? (i := 1078) (by decide +kernel)⟩
theorem lw_p43 : lw_okq (⟨"HymnwrightModel", "keptOn", "(II)I"⟩, 31) := ⟨⟨by decide +kernel, by decide +kernel⟩, List.mem_of_getElem? (i := 822) (by decide +kernel), List.mem_of_getElem? (i := 1085) (by decide +kernel), List.mem_of_getElem? (i := 1086) (by decide +kernel)⟩
theorem lw_p44 : lw_okq (⟨"HymnwrightModel", "laysYear", "(I)V"⟩, 31) := ⟨⟨by decide +kernel, by decide +kernel⟩, List.mem_of_getElem? (i := 822) (by decide +kernel), List.mem_of_getElem? (i := 1089) (by decide +kernel), List.mem_of_getElem? (i := 1090) (by decide +kernel)⟩
theorem lw_p45 : lw_okq (⟨"HymnwrightModel", "puts", "(II)V"⟩, 31) := ⟨⟨by decide +kernel, by decide +kernel⟩, List.mem_of_getElem? (i := 822) (by decide +kernel), List.mem_of_getElem? (i := 1093) (by decide +kernel), List.mem_of_getElem? (i := 1094) (by decide +kernel)⟩
theorem lw_p46 : lw_okq (⟨"HymnwrightModel", "ownDay", "(II)I"⟩, 31) := ⟨⟨by decide +kernel, by decide +kernel⟩, List.mem_of_getElem? (i := 822) (by decide +kernel), List.mem_of_getElem? (i := 1097) (by decide +kernel), List.mem_of_getElem? (i := 1098) (by decide +kernel)⟩
theorem lw_p47 : lw_okq (⟨"HymnwrightModel", "isOpen", "(III)Z"⟩, 31) := ⟨⟨by decide +kernel, by decide +kernel⟩, List.mem_of_getElem? (i := 822) (by decide +kernel), List.mem_of_getElem? (i := 1104) (by decide +kernel), List.mem_of_getElem? (i := 1105) (by decide +kernel)⟩
def lw_privs_3 : List (MethodName × Nat) := [(⟨"Hymnwright", "countServices", "(LHymnwright$Text;)I"⟩, 7), (⟨"HymnwrightModel", "isText", "(I)Z"⟩, 31), (⟨"HymnwrightModel", "isTune", "(I)Z"⟩, 31), (⟨"HymnwrightModel", "fit", "(II)I"⟩, 31), (⟨"HymnwrightModel", "clash", "(II)I"⟩, 31), (⟨"HymnwrightModel", "bestOf", "(IZI)I"⟩, 31), (⟨"HymnwrightModel", "isTuneFree", "(II)Z"⟩, 31), (⟨"HymnwrightModel", "areAlike", "(II)Z"⟩, 31), (⟨"HymnwrightModel", "tellsEaster", "(I)I"⟩, 31), (⟨"HymnwrightModel", "adds", "(IZZII)I"⟩, 31), (⟨"HymnwrightModel", "readingsFrom", "(I)I"⟩, 31), (⟨"HymnwrightModel", "keptOn", "(II)I"⟩, 31), (⟨"HymnwrightModel", "laysYear", "(I)V"⟩, 31), (⟨"HymnwrightModel", "puts", "(II)V"⟩, 31), (⟨"HymnwrightModel", "ownDay", "(II)I"⟩, 31), (⟨"HymnwrightModel", "isOpen", "(III)Z"⟩, 31)]
theorem lw_r3 : ∀ q ∈ lw_privs_3, lw_okq q := List.forall_mem_cons.mpr ⟨lw_p32, List.forall_mem_cons.mpr ⟨lw_p33, List.forall_mem_cons.mpr ⟨lw_p34, List.forall_mem_cons.mpr ⟨lw_p35, List.forall_mem_cons.mpr ⟨lw_p36, List.forall_mem_cons.mpr ⟨lw_p37, List.forall_mem_cons.mpr ⟨lw_p38, List.forall_mem_cons.mpr ⟨lw_p39, List.forall_mem_cons.mpr ⟨lw_p40, List.forall_mem_cons.mpr ⟨lw_p41, List.forall_mem_cons.mpr ⟨lw_p42, List.forall_mem_cons.mpr ⟨lw_p43, List.forall_mem_cons.mpr ⟨lw_p44, List.forall_mem_cons.mpr ⟨lw_p45, List.forall_mem_cons.mpr ⟨lw_p46, List.forall_mem_cons.mpr ⟨lw_p47, fun _ h => absurd h List.not_mem_nil⟩⟩⟩⟩⟩⟩⟩⟩⟩⟩⟩⟩⟩⟩⟩⟩
theorem lw_p48 : lw_okq (⟨"HymnwrightModel", "tellsWhen", "(II)I"⟩, 31) := ⟨⟨by decide +kernel, by decide +kernel⟩, List.mem_of_getElem? (i := 822) (by decide +kernel), List.mem_of_getElem? (i := 1112) (by decide +kernel), List.mem_of_getElem? (i := 1113) (by decide +kernel)⟩
theorem lw_p49 : lw_okq (⟨"HymnwrightModel", "themeOn", "(II)I"⟩, 31) := ⟨⟨by decide +kernel, by decide +kernel⟩, List.mem_of_getElem? (i := 822) (by decide +kernel), List.mem_of_getElem? (i := 1127) (by decide +kernel), List.mem_of_getElem? (i := 1128) (by decide +kernel)⟩
theorem lw_p50 : lw_okq (⟨"HymnwrightModel", "reason", "(IIII)I"⟩, 31) := ⟨⟨by decide +kernel, by decide +kernel⟩, List.mem_of_getElem? (i := 822) (by decide +kernel), List.mem_of_getElem? (i := 1135) (by decide +kernel), List.mem_of_getElem? (i := 1136) (by decide +kernel)⟩
theorem lw_p51 : lw_okq (⟨"HymnwrightModel", "wasLately", "(III)Z"⟩, 31) := ⟨⟨by decide +kernel, by decide +kernel⟩, List.mem_of_getElem? (i := 822) (by decide +kernel), List.mem_of_getElem? (i := 1139) (by decide +kernel), List.mem_of_getElem? (i := 1140) (by decide +kernel)⟩
theorem lw_p52 : lw_okq (⟨"HymnwrightModel", "isLater", "(II)Z"⟩, 31) := ⟨⟨by decide +kernel, by decide +kernel⟩, List.mem_of_getElem? (i := 822) (by decide +kernel), List.mem_of_getElem? (i := 1147) (by decide +kernel), List.mem_of_getElem? (i := 1148) (by decide +kernel)⟩
theorem lw_p53 : lw_okq (⟨"HymnwrightModel", "hymn", "(III)I"⟩, 31) := ⟨⟨by decide +kernel, by decide +kernel⟩, List.mem_of_getElem? (i := 822) (by decide +kernel), List.mem_of_getElem? (i := 1151) (by decide +kernel), List.mem_of_getElem? (i := 1152) (by decide +kernel)⟩
theorem lw_p54 : lw_okq (⟨"HymnwrightModel", "times", "(I)I"⟩, 31) := ⟨⟨by decide +kernel, by decide +kernel⟩, List.mem_of_getElem? (i := 822) (by decide +kernel), List.mem_of_getElem? (i := 1155) (by decide +kernel), List.mem_of_getElem? (i := 1156) (by decide +kernel)⟩
def lw_privs_4 : List (MethodName × Nat) := [(⟨"HymnwrightModel", "tellsWhen", "(II)I"⟩, 31), (⟨"HymnwrightModel", "themeOn", "(II)I"⟩, 31), (⟨"HymnwrightModel", "reason", "(IIII)I"⟩, 31), (⟨"HymnwrightModel", "wasLately", "(III)Z"⟩, 31), (⟨"HymnwrightModel", "isLater", "(II)Z"⟩, 31), (⟨"HymnwrightModel", "hymn", "(III)I"⟩, 31), (⟨"HymnwrightModel", "times", "(I)I"⟩, 31)]
theorem lw_r4 : ∀ q ∈ lw_privs_4, lw_okq q := List.forall_mem_cons.mpr ⟨lw_p48, List.forall_mem_cons.mpr ⟨lw_p49, List.forall_mem_cons.mpr ⟨lw_p50, List.forall_mem_cons.mpr ⟨lw_p51, List.forall_mem_cons.mpr ⟨lw_p52, List.forall_mem_cons.mpr ⟨lw_p53, List.forall_mem_cons.mpr ⟨lw_p54, fun _ h => absurd h List.not_mem_nil⟩⟩⟩⟩⟩⟩⟩
def lw_privs : List (MethodName × Nat) := lw_privs_1 ++ (lw_privs_2 ++ (lw_privs_3 ++ (lw_privs_4)))
def lw_tbl : List Cond := k2_sels lw_privs ++ tables_1
theorem lw_privs_ok : ∀ q ∈ lw_privs, lw_okq q := by
  show ∀ q ∈ lw_privs_1 ++ (lw_privs_2 ++ (lw_privs_3 ++ (lw_privs_4))), lw_okq q
  exact List.forall_mem_append.mpr ⟨lw_r1, List.forall_mem_append.mpr ⟨lw_r2, List.forall_mem_append.mpr ⟨lw_r3, lw_r4⟩⟩⟩
end
section
/-! ===== BEGIN words of one list among another's, by their places ===== -/
theorem goodIn_r {big : List Cond} (ws : List Cond) (ps : List Nat) (hp : ws = ps.filterMap (fun i => big[i]?)) (h : ws.all goodWord = true) : GoodIn big ws := by
  intro w hw
  have h1 := List.all_eq_true.mp h w hw
  rw [hp] at hw
  obtain ⟨i, -, hi⟩ := List.mem_filterMap.mp hw
  have hm : w ∈ big := by first | exact List.mem_of_getElem? hi | exact List.getElem?_mem hi
  exact ⟨hm, good_of_word h1⟩
theorem goodIn_app {big a b : List Cond} (ha : GoodIn big a) (hb : GoodIn big b) : GoodIn big (a ++ b) := fun w h => (List.mem_append.mp h).elim (ha w) (hb w)
theorem goodIn_ca {big a b : List Cond} {c : Cond} (ha : GoodIn big (c :: a)) (hb : GoodIn big b) : GoodIn big (c :: (a ++ b)) := fun w h => (List.mem_cons.mp h).elim (fun e => ha w (List.mem_cons.mpr (Or.inl e))) (fun h => (List.mem_append.mp h).elim (fun h => ha w (List.mem_cons.mpr (Or.inr h))) (hb w))
theorem goodIn_sub {big ws : List Cond} (hm : ∀ w ∈ ws, w ∈ big) (h : ws.all goodWord = true) : GoodIn big ws := fun w hw => ⟨hm w hw, good_of_word (List.all_eq_true.mp h w hw)⟩
/-! ===== END ===== -/
/-! ===== BEGIN exceptions that leave a method, and their catching by the caller (launches without stack traces) ===== -/
section VXA
/-! The laws vx_back, vx_callV, vx_callS, vx_callSW, vx_throw0, vx_throwS follow proofs of the library, with one case more: JvmDerived/Free/Laws.lean (Back.of_free), Shelf42/LK1.lean (callV, callS), Shelf/KitTraced.lean (throwNew0V, throwNewS). -/
/-- where a method has thrown q: the class by its name, the cell, what was written, the world -/
def vx_T (XC : String → State → State → Prop) (st : State) (q : Addr) (t : State) (mc ms : Nat) (free : Addr → Prop) : Prop :=
  ∃ (E : String) (ce : Cell) (L : List Loc), XC E st t ∧ t.heap[q]? = some ce ∧ ce.vm = .none ∧ st.vm.findClass E = some ce.cls ∧ st.WarmedH t.vm ∧ st.sameButNew ({ t with vm := st.vm } : State) L mc ms ∧ ∀ z ∈ L, free z.base
def vx_Q (Qc : Array Value → State → Outcome → State → Prop) (XC : String → State → State → Prop) (mc ms : Nat) (free : Addr → Prop) : Array Value → State → Outcome → State → Prop := fun a st o t =>
  (Qc a st o t ∧ ∃ L, FrameEnd st o t L mc ms ∧ ∀ q ∈ L, free q.base) ∨ ∃ q, o = .threw q ∧ vx_T XC st q t mc ms free
/-- a callee that returns or throws -/
def vx_Met (l : Launch) (y : MethodName) (ws : List Cond) (rm : Room) (Pc : Array Value → State → Prop) (Qc : Array Value → State → Outcome → State → Prop) (XC : String → State → State → Prop) (mc ms : Nat) (free : Addr → Prop) : Prop :=
  MetFree l y (headSpec ws rm) Pc (fun _ _ _ _ _ => True) (vx_Q Qc XC mc ms free)
def vx_Post (XC : String → State → State → Prop) (mc ms : Nat) (free : Addr → Prop) : Pt → Array Value → Addr → Pt → Prop := fun A a q B =>
  ∃ (g : JFrame) (mk : MethodId) (t : State) (L : List Loc) (E : String) (ce : Cell), B.U.heap = t.heap ∧ B.U.vm = t.vm ∧ XC E (A.U.calling g mk a) t ∧ t.heap[q]? = some ce ∧ ce.vm = .none ∧ A.U.vm.findClass E = some ce.cls ∧ B.locs = A.locs ++ L ∧ (∀ z ∈ L, free z.base) ∧ B.cells = A.cells + mc ∧ B.slots = A.slots + ms
def vx_Back (l : Launch) (R : Room) (p : Program) (e : Env) (below : List Frame) (s : State) (sargs : Array Value) (y : MethodName) (len W9 : Nat)
    (Pre : Pt → Array Value → Prop) (Post : Pt → Array Value → Option Value → Pt → Prop) (PostX : Pt → Array Value → Addr → Pt → Prop) : Prop :=
  ∀ (m : MethodId) (meth : Method) (c : Code) (A : Pt) (g : JFrame) (ig : Instr) (mk : MethodId) (a : Array Value),
    Stand p l e R s m sargs below meth c A.U A.locs A.cells A.slots → g.method = m → g.locals.size = c.maxLocals → decode c.code g.pc = .ok (ig, len) →
    2 * g.monitorRoom + (g.stack.map fun v => v.category).sum ≤ W9 → A.U.methodNamed? y = some mk → Pre A a →
    (∃ (v : Option Value) (B : Pt), Stand p l e R s m sargs below meth c B.U B.locs B.cells B.slots ∧ Post A a v B ∧
      Steps p.tables e below (doInvoke e (A.U.setTop g) [] mk a).1 (B.U.setTop { g with pc := g.pc + len, stack := v.toList ++ g.stack })) ∨
    (∃ (q : Addr) (B : Pt), Stand p l e R s m sargs below meth c B.U B.locs B.cells B.slots ∧ PostX A a q B ∧
      Steps p.tables e below (doInvoke e (A.U.setTop g) [] mk a).1 ((B.U.setTop g).pushFrame (.throwing q)))
section Payer
variable {l : Launch} {R : Room} {p : Program} {e : Env} {below : List Frame} {s : State} {sargs : Array Value} {y : MethodName} {len W9 : Nat}
theorem vx_back {ws : List Cond} {rm : Room} {Pc : Array Value → State → Prop} {Qc : Array Value → State → Outcome → State → Prop} {XC : String → State → State → Prop} {mc ms : Nat} {free : Addr → Prop} {bytes : ByteArray} {maxL : Nat} {ret : Option FieldType}
    (hM : vx_Met l y ws rm Pc Qc XC mc ms free) (hblind : FrameBlind Pc) (hrc : rm.cells = mc) (hrs : rm.slots = ms)
    (hframes : rm.frames + 1 ≤ R.frames) (hlocals : W9 + (maxL + 11) + rm.locals ≤ R.locals)
    (hws : ∀ w ∈ ws, ∀ a' U, s.WarmedH U.vm → w.before a' U = true) (hcode : Cond.code y bytes maxL ret ∈ ws) (hinit : ∀ a' U, s.WarmedH U.vm → (Cond.initialized y.cls).before a' U = true) :
    vx_Back l R p e below s sargs y len W9 (PreOf R mc ms Pc) (PostOf Qc mc ms free) (vx_Post XC mc ms free) := by
  intro m meth c A g ig mk a X hg hsize hdg hW hn hp
  have h1 : (headSpec ws rm).pre.before a A.U = true := atoms_intro fun w hw => hws w hw _ _ X.warmed
  have h2 : (Cond.code y bytes maxL ret).before a A.U = true := hws _ hcode _ _ X.warmed
  have h3 : (Cond.initialized y.cls).before a A.U = true := hinit _ _ X.warmed
  have h4 : A.cells + (headSpec ws rm).room.cells ≤ R.cells := by rw [show (headSpec ws rm).room.cells = mc from hrc]; exact hp.1
  have h5 : A.slots + (headSpec ws rm).room.slots ≤ R.slots := by rw [show (headSpec ws rm).room.slots = ms from hrs]; exact hp.2.1
  have hPc : Pc a (A.U.calling g mk a) := hblind _ _ _ _ hp.2.2
  obtain ⟨U, Ls, c0, s0⟩ := A
  dsimp only [Pt.U, Pt.locs, Pt.cells, Pt.slots] at h1 h2 h3 h4 h5 X hn hPc ⊢
  obtain ⟨methY, cY, hmY, hcY, -, hlY, -, -, -, -⟩ := Cond.code_spec hn h2
  obtain ⟨kY, hkY, -⟩ := className_of_methodNamed hn
  have hinitY : kY.init = .initialized := Cond.initialized_spec (findClass_of_methodNamed hn) hkY h3
  have h : At U g.method c below := by rw [hg]; exact X.here
  have hlocals9 : W9 + (maxL + 11) + (headSpec ws rm).room.locals ≤ R.locals := hlocals
  have happ : (headSpec ws rm).appliesLoose y e.platform (U.calling g mk a) = true :=
    Spec.appliesLoose_calling (g := g) h hdg hn hkY hinitY
      (X.room_calling (g := g) (R' := (headSpec ws rm).room) hsize hmY hcY hframes (by rw [hlY]; omega) h4 h5) h1
  obtain ⟨mid, hmid⟩ := h.above
  have hfr : (U.setTop g).frames = (.java g :: mid) ++ below := by rw [State.frames_setTop' g h.top, hmid]; rfl
  obtain ⟨o, s₂, hsteps, -, hend, hq⟩ := Steps.callFree hM p X.admits X.cas X.clock (acts := []) hfr happ hPc trivial
  have hq' : vx_Q Qc XC mc ms free a (U.calling g mk a) o s₂ := hq
  rw [State.frames_setTop' g h.top] at hend
  obtain ⟨g₀, hg0⟩ := Option.isSome_iff_exists.mp h.top
  obtain ⟨r, hr⟩ := State.topJava?_eq_some.mp hg0
  have hr' : (({ U with heap := s₂.heap, slotsUsed := s₂.slotsUsed } : State).setVm s₂.vm).frames = .java g₀ :: r := hr
  rcases hq' with ⟨hqc, L, hfe, hL⟩ | ⟨q, rfl, E, ce, L, hx, hce, hcv, hcl, hW₂, hsm, hL⟩
  · obtain ⟨⟨v, rfl⟩, hW₂, e2, q2, q3, q4, q5, q6⟩ := id hfe
    have e3 : s₂ = ({ (U.calling g mk a).setFrames s₂.frames with heap := s₂.heap, slotsUsed := s₂.slotsUsed } : State).setVm s₂.vm := by
      have : s₂ = ({ s₂ with vm := (U.calling g mk a).vm } : State).setVm s₂.vm := rfl
      rw [e2] at this
      exact this
    obtain ⟨c₂, i₂, len₂, hc₂, hd₂, hf₂⟩ := hend
    have hW' : U.WarmedH s₂.vm := hW₂
    have hcc : c₂ = c := by
      have h1 : s₂.code? g.method = U.code? g.method := by
        rw [State.code?_eq, State.code?_eq, hW'.alike.method?]
      exact Option.some.inj (hc₂.symm.trans (h1.trans h.code))
    subst hcc
    have hlen : len₂ = len := by rw [hdg] at hd₂; cases hd₂; rfl
    subst hlen
    have hs₂ : s₂ = (({ U with heap := s₂.heap, slotsUsed := s₂.slotsUsed } : State).setVm s₂.vm).setTop { g with pc := g.pc + len₂, stack := v.toList ++ g.stack } := by
      refine e3.trans ?_
      rw [hf₂, State.calling_eq h.top, State.setFrames_setFrames, State.setTop_of_frames _ hr', hr]
      rfl
    have hsame : U.sameButNew ({ U with heap := s₂.heap, slotsUsed := s₂.slotsUsed } : State) L mc ms := by
      refine ⟨?_, q2, q3, q4, q5, q6⟩
      obtain ⟨t, ht, -⟩ := State.frames_cons hr
      show ({ U with heap := s₂.heap, slotsUsed := s₂.slotsUsed } : State) = { U.setFrames U.frames with heap := s₂.heap, slotsUsed := s₂.slotsUsed }
      rw [State.setFrames_self ht]
    subst hg
    refine Or.inl ⟨v, ⟨(({ U with heap := s₂.heap, slotsUsed := s₂.slotsUsed } : State).setVm s₂.vm), Ls ++ L, c0 + mc, s0 + ms⟩,
      ⟨X.admits, X.cas, X.clock, X.frames, X.room, X.hears, X.method, X.code, (X.here.setHeapUsed s₂.heap s₂.slotsUsed).setVm hW'.alike, X.tail, State.WarmedH.trans X.warmed hW', X.limits, X.bytes, X.same.trans (hsame.setVm s.vm)⟩,
      ⟨g, mk, s₂, L, rfl, rfl, hqc, rfl, hL, rfl, rfl⟩, ?_⟩
    show Steps p.tables e below _ ((({ U with heap := s₂.heap, slotsUsed := s₂.slotsUsed } : State).setVm s₂.vm).setTop { g with pc := g.pc + len₂, stack := v.toList ++ g.stack })
    rw [← hs₂]
    exact hsteps
  · obtain ⟨e2, q2, q3, q4, q5, q6⟩ := id hsm
    have e3 : s₂ = ({ (U.calling g mk a).setFrames s₂.frames with heap := s₂.heap, slotsUsed := s₂.slotsUsed } : State).setVm s₂.vm := by
      have : s₂ = ({ s₂ with vm := (U.calling g mk a).vm } : State).setVm s₂.vm := rfl
      rw [e2] at this
      exact this
    have hf₂ : s₂.frames = .throwing q :: .java g :: U.frames.tail := hend
    have hW' : U.WarmedH s₂.vm := hW₂
    have hs₂ : s₂ = ((({ U with heap := s₂.heap, slotsUsed := s₂.slotsUsed } : State).setVm s₂.vm).setTop g).pushFrame (.throwing q) := by
      refine e3.trans ?_
      rw [hf₂, State.calling_eq h.top, State.setFrames_setFrames, State.pushFrame, State.frames_setTop _ hr', State.setTop_of_frames _ hr', State.setFrames_setFrames, hr]
      rfl
    have hsame : U.sameButNew ({ U with heap := s₂.heap, slotsUsed := s₂.slotsUsed } : State) L mc ms := by
      refine ⟨?_, q2, q3, q4, q5, q6⟩
      obtain ⟨t, ht, -⟩ := State.frames_cons hr
      show ({ U with heap := s₂.heap, slotsUsed := s₂.slotsUsed } : State) = { U.setFrames U.frames with heap := s₂.heap, slotsUsed := s₂.slotsUsed }
      rw [State.setFrames_self ht]
    subst hg
    refine Or.inr ⟨q, ⟨(({ U with heap := s₂.heap, slotsUsed := s₂.slotsUsed } : State).setVm s₂.vm), Ls ++ L, c0 + mc, s0 + ms⟩,
      ⟨X.admits, X.cas, X.clock, X.frames, X.room, X.hears, X.method, X.code, (X.here.setHeapUsed s₂.heap s₂.slotsUsed).setVm hW'.alike, X.tail, State.WarmedH.trans X.warmed hW', X.limits, X.bytes, X.same.trans (hsame.setVm s.vm)⟩,
      ⟨g, mk, s₂, L, E, ce, rfl, rfl, hx, hce, hcv, hcl, rfl, hL, rfl, rfl⟩, ?_⟩
    show Steps p.tables e below _ (((({ U with heap := s₂.heap, slotsUsed := s₂.slotsUsed } : State).setVm s₂.vm).setTop g).pushFrame (.throwing q))
    rw [← hs₂]
    exact hsteps
end Payer
section Calls
variable {p : Program} {l : Launch} {e : Env} {R : Room} {s : State} {m : MethodId} {args : Array Value} {below : List Frame} {meth : Method} {c : Code} {T : State} {locs : List Loc} {cells slots : Nat}
theorem vx_callV (X : Stand p l e R s m args below meth c T locs cells slots) (hexec : p.tables.exec = Jvm.exec) {own C : String} {index : Nat} {y : MethodName} {bytes : ByteArray} {maxL : Nat} {ret : Option FieldType}
    (hown : s.vm.findClass own = some m.cls) (hlink : (Cond.methodLink own index y).before args s = true) (hinst : (Cond.instanceMethod y).before args s = true) (hsel : (Cond.selects C y y).before args s = true)
    (hcode : (Cond.code y bytes maxL ret).before args s = true) (hy : y.cls ≠ "java/lang/invoke/MethodHandle" ∧ y.cls ≠ "java/lang/invoke/VarHandle")
    {W9 : Nat} {Pre : Pt → Array Value → Prop} {Post : Pt → Array Value → Option Value → Pt → Prop} {PostX : Pt → Array Value → Addr → Pt → Prop} (hK : vx_Back l R p e below s args y 3 W9 Pre Post PostX)
    {b : Addr} {cellB : Cell} (hcell : T.heap[b]? = some cellB) (hobj : cellB.vm.isStatics = false) (hcls : s.vm.findClass C = some cellB.cls)
    {g : JFrame} (hg : g.method = m) (hsize : g.locals.size = c.maxLocals) {argsL rest : List Value} (hlen : ∀ sig, parseMethodDescriptor y.desc = some sig → argsL.length = sig.parameters.length)
    (hstack : g.stack = argsL.reverse ++ .ref b :: rest) (hW : 2 * g.monitorRoom + (rest.map fun v => v.category).sum ≤ W9) (hdg : decode c.code g.pc = .ok (.invokevirtual index, 3))
    (hpre : ∀ vm₁, s.WarmedH vm₁ → Pre ⟨T.setVm vm₁, locs, cells, slots⟩ (Value.ref b :: argsL).toArray) :
    (∃ (v : Option Value) (vm₁ : Vm) (B : Pt), s.WarmedH vm₁ ∧ Stand p l e R s m args below meth c B.U B.locs B.cells B.slots ∧ Post ⟨T.setVm vm₁, locs, cells, slots⟩ (Value.ref b :: argsL).toArray v B ∧
      ∀ target, Steps p.tables e below (B.U.setTop { g with pc := g.pc + 3, stack := v.toList ++ rest }) target → Steps p.tables e below (T.setTop g) target) ∨
    (∃ (q : Addr) (vm₁ : Vm) (B : Pt), s.WarmedH vm₁ ∧ Stand p l e R s m args below meth c B.U B.locs B.cells B.slots ∧ PostX ⟨T.setVm vm₁, locs, cells, slots⟩ (Value.ref b :: argsL).toArray q B ∧
      Steps p.tables e below (T.setTop g) ((B.U.setTop { g with stack := rest }).pushFrame (.throwing q))) := by
  obtain ⟨mk, methM, hnamed, hmethM, hstM, habM⟩ := Cond.instanceMethod_spec hinst
  obtain ⟨methM', cM, hmethM', -, -, -, -, -, -, hsigM⟩ := Cond.code_spec hnamed hcode
  cases hmethM.symm.trans hmethM'
  obtain ⟨c2, r2, m2, q1, q2, q3, q4, kP, hkP, hkPi⟩ := Cond.selects_spec hsel
  cases hcls.symm.trans q1
  cases (State.methodFound?_of_named hnamed hy).symm.trans q2
  cases hnamed.symm.trans q3
  have hselP : selectMethod e.platform s.vm cellB.cls mk = .method mk := by rw [Launch.admits_selectMethod X.admits]; exact q4
  obtain ⟨vm₁, X₁, hstep₁⟩ := X.invokevirtual hexec hown hlink hnamed hmethM hstM hkP hkPi hy (a := b) (cell := cellB) hcell
    (fun z h => by rw [h] at hobj; cases hobj) hselP hmethM habM hkP hkPi (g := g) hg (argsL := argsL) (rest := rest) (hlen _ hsigM) hstack hdg
  rcases hK m meth c ⟨T.setVm vm₁, locs, cells, slots⟩ { g with stack := rest } (.invokevirtual index) mk (Value.ref b :: argsL).toArray X₁ hg hsize hdg hW (X₁.named hnamed) (hpre vm₁ X₁.warmed) with ⟨v, B, X', hpost, hsteps⟩ | ⟨q, B, X', hpost, hsteps⟩
  · exact Or.inl ⟨v, vm₁, B, X₁.warmed, X', hpost, fun target h => hstep₁ _ fun acts => by rw [doInvoke_state]; exact hsteps.trans h⟩
  · exact Or.inr ⟨q, vm₁, B, X₁.warmed, X', hpost, hstep₁ _ fun acts => by rw [doInvoke_state]; exact hsteps⟩
theorem vx_callS (X : Stand p l e R s m args below meth c T locs cells slots) (hexec : p.tables.exec = Jvm.exec) {own : String} {index : Nat} {y : MethodName} {bytes : ByteArray} {maxL : Nat} {ret : Option FieldType}
    (hown : s.vm.findClass own = some m.cls) (hlink : (Cond.methodLink own index y).before args s = true) (hstat : (Cond.static y).before args s = true) (hinit : (Cond.initialized y.cls).before args s = true)
    (hcode : (Cond.code y bytes maxL ret).before args s = true) (hy : y.cls ≠ "java/lang/invoke/MethodHandle" ∧ y.cls ≠ "java/lang/invoke/VarHandle")
    {W9 : Nat} {Pre : Pt → Array Value → Prop} {Post : Pt → Array Value → Option Value → Pt → Prop} {PostX : Pt → Array Value → Addr → Pt → Prop} (hK : vx_Back l R p e below s args y 3 W9 Pre Post PostX)
    {g : JFrame} (hg : g.method = m) (hsize : g.locals.size = c.maxLocals) {argsL rest : List Value} (hlen : ∀ sig, parseMethodDescriptor y.desc = some sig → argsL.length = sig.parameters.length)
    (hstack : g.stack = argsL.reverse ++ rest) (hW : 2 * g.monitorRoom + (rest.map fun v => v.category).sum ≤ W9) (hdg : decode c.code g.pc = .ok (.invokestatic index, 3))
    (hpre : ∀ vm₁, s.WarmedH vm₁ → Pre ⟨T.setVm vm₁, locs, cells, slots⟩ argsL.toArray) :
    (∃ (v : Option Value) (vm₁ : Vm) (B : Pt), s.WarmedH vm₁ ∧ Stand p l e R s m args below meth c B.U B.locs B.cells B.slots ∧ Post ⟨T.setVm vm₁, locs, cells, slots⟩ argsL.toArray v B ∧
      ∀ target, Steps p.tables e below (B.U.setTop { g with pc := g.pc + 3, stack := v.toList ++ rest }) target → Steps p.tables e below (T.setTop g) target) ∨
    (∃ (q : Addr) (vm₁ : Vm) (B : Pt), s.WarmedH vm₁ ∧ Stand p l e R s m args below meth c B.U B.locs B.cells B.slots ∧ PostX ⟨T.setVm vm₁, locs, cells, slots⟩ argsL.toArray q B ∧
      Steps p.tables e below (T.setTop g) ((B.U.setTop { g with stack := rest }).pushFrame (.throwing q))) := by
  obtain ⟨mk, hnamed⟩ := Cond.code_named hcode
  obtain ⟨methM, cM, hmethM, -, -, -, -, -, -, hsigM⟩ := Cond.code_spec hnamed hcode
  have hstatic : methM.isStatic = true := Cond.static_spec hnamed hmethM hstat
  obtain ⟨kP, hkP, -⟩ := className_of_methodNamed hnamed
  have hinitP : kP.init = .initialized := Cond.initialized_spec (findClass_of_methodNamed hnamed) hkP hinit
  obtain ⟨vm₁, X₁, hstep₁⟩ := X.invokestatic hexec hown hlink hnamed hmethM hstatic hkP hinitP hy (g := g) hg (argsL := argsL) (rest := rest) (hlen _ hsigM) hstack hdg
  rcases hK m meth c ⟨T.setVm vm₁, locs, cells, slots⟩ { g with stack := rest } (.invokestatic index) mk argsL.toArray X₁ hg hsize hdg hW (X₁.named hnamed) (hpre vm₁ X₁.warmed) with ⟨v, B, X', hpost, hsteps⟩ | ⟨q, B, X', hpost, hsteps⟩
  · exact Or.inl ⟨v, vm₁, B, X₁.warmed, X', hpost, fun target h => hstep₁ _ fun acts => by rw [doInvoke_state]; exact hsteps.trans h⟩
  · exact Or.inr ⟨q, vm₁, B, X₁.warmed, X', hpost, hstep₁ _ fun acts => by rw [doInvoke_state]; exact hsteps⟩
end Calls
theorem vx_cls {s : State} {T : State} {vm₁ : Vm} {E : String} {k : ClassId} (hW : s.WarmedH vm₁) (h : (T.setVm vm₁).vm.findClass E = some k) : s.vm.findClass E = some k := by
  have h1 : vm₁.findClass E = some k := h
  rw [hW.alike.findClass] at h1
  exact h1
/-- the method's frame g, with q thrown over it -/
def vx_W (p : Program) (l : Launch) (e : Env) (R : Room) (s : State) (m : MethodId) (args : Array Value) (below : List Frame) (meth : Method) (c : Code) (H : Heap) (locs : List Loc) (cells slots : Nat) (Q : State → Prop) (g : JFrame) (q : Addr) : Prop :=
  ∀ T : State, T.heap = H → Stand p l e R s m args below meth c T locs cells slots → ∃ t, Steps p.tables e below ((T.setTop g).pushFrame (.throwing q)) t ∧ Q t
def vx_Run (p : Program) (l : Launch) (e : Env) (R : Room) (s : State) (m : MethodId) (args : Array Value) (below : List Frame) (meth : Method) (c : Code) (H : Heap) (locs : List Loc) (cells slots mc ms : Nat) (g : JFrame) (rest : List Value) (Qa : State → Outcome → State → Prop) (XC : String → State → State → Prop) (free : Addr → Prop) : Prop :=
  ∀ T : State, T.heap = H → Stand p l e R s m args below meth c T locs cells slots →
    (∃ (v : Option Value) (st₀ t T' : State) (L : List Loc), st₀.heap = H ∧ Stand p l e R s m args below meth c T' (locs ++ L) (cells + mc) (slots + ms) ∧ (∀ q ∈ L, free q.base) ∧ T'.heap = t.heap ∧ T'.vm = t.vm ∧ Qa st₀ (.returned v) t ∧
      Goes p e below T g T' { g with pc := g.pc + 3, stack := v.toList ++ rest }) ∨
    (∃ (q : Addr) (st₀ t T' : State) (L : List Loc) (E : String) (ce : Cell), st₀.heap = H ∧ Stand p l e R s m args below meth c T' (locs ++ L) (cells + mc) (slots + ms) ∧ (∀ z ∈ L, free z.base) ∧ T'.heap = t.heap ∧ T'.vm = t.vm ∧ XC E st₀ t ∧ t.heap[q]? = some ce ∧ ce.vm = .none ∧ s.vm.findClass E = some ce.cls ∧
      Steps p.tables e below (T.setTop g) ((T'.setTop { g with stack := rest }).pushFrame (.throwing q)))
def vx_X {S : Type} (px : S → Prop) (B : String → S → State → Prop) (A : Nat → Prop) : String → State → State → Prop := fun E st t => ∃ u : S, px u ∧ B E u t ∧ va_F A st t
section Runs
variable {p : Program} {l : Launch} {e : Env} {R : Room} {s : State} {m : MethodId} {args : Array Value} {below : List Frame} {meth : Method} {c : Code} {H : Heap} {locs : List Loc} {cells slots : Nat}
variable {y : MethodName} {bytes cc : ByteArray} {maxL nL mc ms n index : Nat} {ret : Option FieldType} {ws : List Cond} {rm : Room} {Pc : Array Value → State → Prop} {Qc : Array Value → State → Outcome → State → Prop} {XC : String → State → State → Prop} {free : Addr → Prop} {Ts : List Cond} {own C : String} {b : Addr} {As rest : List Value} {g : JFrame}
theorem vx_callBack (cb : CallB R s args own index y bytes maxL ret ws rm mc ms n) (hM : vx_Met l y ws rm Pc Qc XC mc ms free) (hbl : FrameBlind Pc) : vx_Back l R p e below s args y 3 8 (PreOf R mc ms Pc) (PostOf Qc mc ms free) (vx_Post XC mc ms free) := by
  obtain ⟨hrc, hrs, hfr, hlo, hws, hcw, -, hini, -⟩ := cb
  exact vx_back (bytes := bytes) (maxL := maxL) (ret := ret) hM hbl hrc hrs hfr hlo hws hcw (fun a' U hW => word_at hW (Or.inl (by first | rfl | simp [Cond.onTables, Cond.keeps, Cond.steady])) hini)
theorem vx_runV (S : CallFix p m c cc nL s args Ts own) (hM : vx_Met l y ws rm Pc Qc XC mc ms free) (cw : CallW R s args own C index y bytes maxL ret ws rm mc ms n) (hp : PreV s H C b Pc As)
    (hg : g.method = m) (hn : As.length = n) (hsize : g.locals.size = nL) (hstack : g.stack = As.reverse ++ .ref b :: rest) (hW : 2 * g.monitorRoom + (rest.map fun v => v.category).sum ≤ 8) (hdg : decode cc g.pc = .ok (.invokevirtual index, 3)) (hf : cells + mc ≤ R.cells ∧ slots + ms ≤ R.slots) :
    vx_Run p l e R s m args below meth c H locs cells slots mc ms g rest (Qc (Value.ref b :: As).toArray) XC free := by
  have hK : vx_Back l R p e below s args y 3 8 (PreOf R mc ms Pc) (PostOf Qc mc ms free) (vx_Post XC mc ms free) := vx_callBack cw.1 hM hp.1
  obtain ⟨⟨-, -, -, -, -, -, hcode, -, hy, hlen, hl⟩, hin, hse⟩ := cw
  obtain ⟨hx, hb, hml, ho, -⟩ := S
  obtain ⟨-, ⟨cellB, hcB, hoB, hclB⟩, hPc⟩ := hp
  intro T hT X
  rcases vx_callV X hx (C := C) (bytes := bytes) (maxL := maxL) (ret := ret) ho hl hin hse hcode hy hK (by rw [hT]; exact hcB) hoB hclB hg (hsize.trans hml.symm) (argsL := As) (rest := rest) (fun sig h => hn.trans (hlen sig h)) hstack hW (by rw [hb]; exact hdg)
    (fun vm₁ hW₁ => ⟨hf.1, hf.2, hPc (T.setVm vm₁) hT hW₁⟩) with ⟨v, vm₁, ⟨U', l2, c2, s2⟩, hW₁, X', ⟨g', mk, t, L, e1, e2, hq, h1, hL, h2, h3⟩, st⟩ | ⟨q, vm₁, ⟨U', l2, c2, s2⟩, hW₁, X', ⟨g', mk, t, L, E, ce, e1, e2, hq, hce, hcv, hcl, h1, hL, h2, h3⟩, st⟩
  · dsimp only [Pt.U, Pt.locs, Pt.cells, Pt.slots] at X' e1 e2 h1 h2 h3 st
    subst h1; subst h2; subst h3
    exact Or.inl ⟨v, (T.setVm vm₁).calling g' mk (Value.ref b :: As).toArray, t, U', L, hT, X', hL, e1, e2, hq, st⟩
  · dsimp only [Pt.U, Pt.locs, Pt.cells, Pt.slots] at X' e1 e2 h1 h2 h3 st hcl
    subst h1; subst h2; subst h3
    exact Or.inr ⟨q, (T.setVm vm₁).calling g' mk (Value.ref b :: As).toArray, t, U', L, E, ce, hT, X', hL, e1, e2, hq, hce, hcv, vx_cls hW₁ hcl, st⟩
theorem vx_runS (S : CallFix p m c cc nL s args Ts own) (hM : vx_Met l y ws rm Pc Qc XC mc ms free) (cw : CallB R s args own index y bytes maxL ret ws rm mc ms n ∧ (Cond.static y).before args s = true) (hp : PreS s H Pc As)
    (hg : g.method = m) (hn : As.length = n) (hsize : g.locals.size = nL) (hstack : g.stack = As.reverse ++ rest) (hW : 2 * g.monitorRoom + (rest.map fun v => v.category).sum ≤ 8) (hdg : decode cc g.pc = .ok (.invokestatic index, 3)) (hf : cells + mc ≤ R.cells ∧ slots + ms ≤ R.slots) :
    vx_Run p l e R s m args below meth c H locs cells slots mc ms g rest (Qc As.toArray) XC free := by
  have hK : vx_Back l R p e below s args y 3 8 (PreOf R mc ms Pc) (PostOf Qc mc ms free) (vx_Post XC mc ms free) := vx_callBack cw.1 hM hp.1
  obtain ⟨⟨-, -, -, -, -, -, hcode, hini, hy, hlen, hl⟩, hstt⟩ := cw
  obtain ⟨hx, hb, hml, ho, -⟩ := S
  intro T hT X
  rcases vx_callS X hx (bytes := bytes) (maxL := maxL) (ret := ret) ho hl hstt hini hcode hy hK hg (hsize.trans hml.symm) (argsL := As) (rest := rest) (fun sig h => hn.trans (hlen sig h)) hstack hW (by rw [hb]; exact hdg)
    (fun vm₁ hW₁ => ⟨hf.1, hf.2, hp.2 (T.setVm vm₁) hT hW₁⟩) with ⟨v, vm₁, ⟨U', l2, c2, s2⟩, hW₁, X', ⟨g', mk, t, L, e1, e2, hq, h1, hL, h2, h3⟩, st⟩ | ⟨q, vm₁, ⟨U', l2, c2, s2⟩, hW₁, X', ⟨g', mk, t, L, E, ce, e1, e2, hq, hce, hcv, hcl, h1, hL, h2, h3⟩, st⟩
  · dsimp only [Pt.U, Pt.locs, Pt.cells, Pt.slots] at X' e1 e2 h1 h2 h3 st
    subst h1; subst h2; subst h3
    exact Or.inl ⟨v, (T.setVm vm₁).calling g' mk As.toArray, t, U', L, hT, X', hL, e1, e2, hq, st⟩
  · dsimp only [Pt.U, Pt.locs, Pt.cells, Pt.slots] at X' e1 e2 h1 h2 h3 st hcl
    subst h1; subst h2; subst h3
    exact Or.inr ⟨q, (T.setVm vm₁).calling g' mk As.toArray, t, U', L, E, ce, hT, X', hL, e1, e2, hq, hce, hcv, vx_cls hW₁ hcl, st⟩
end Runs
section Rows
variable {p : Program} {l : Launch} {e : Env} {R : Room} {s : State} {m : MethodId} {args : Array Value} {below : List Frame} {meth : Method} {c : Code} {H : Heap} {locs : List Loc} {cells slots : Nat} {Q : State → Prop}
variable {mc ms : Nat} {free : Addr → Prop} {A0 A1 : Nat → Prop} {H0 : Heap} {a : Array Value} {pc : Nat} {ls : Array Slot} {st0 rest : List Value}
theorem vx_keep {st₀ t T' : State} {L : List Loc} (h0 : st₀.heap = H) (e1 : T'.heap = t.heap) (hS : va_S A0 H0 H locs) (hA : ∀ q, q < H.size → A1 q → A0 q) (hf : ∀ q, free q → A0 q) (hL : ∀ q ∈ L, free q.base) (hF : va_F A1 st₀ t) :
    H.size ≤ T'.heap.size ∧ (∀ q : Nat, q < H.size → ¬ A1 q → T'.heap[q]? = H[q]?) ∧ va_S A0 H0 T'.heap (locs ++ L) := by
  obtain ⟨hz, hk⟩ := hF
  rw [h0] at hz hk
  exact ⟨by rw [e1]; exact hz, fun q h1 h2 => by rw [e1]; exact hk q h1 h2,
    ⟨Nat.le_trans hS.1 (by rw [e1]; exact hz), fun q h1 h2 => by rw [e1, hk q (Nat.lt_of_lt_of_le h1 hS.1) (fun z => h2 (hA q (Nat.lt_of_lt_of_le h1 hS.1) z))]; exact hS.2.1 q h1 h2, fun q hq => by
      rcases List.mem_append.mp hq with h | h
      · exact hS.2.2 q h
      · exact hf _ (hL q h)⟩⟩
theorem vx_calli {S SX : Type} {post : Int32 → S → Prop} {px : SX → Prop} {B : S → State → Prop} {BX : String → SX → State → Prop} {AX : Nat → Prop} (hr : vx_Run p l e R s m args below meth c H locs cells slots mc ms (F0 m pc ls st0) rest (va_Qi post B A1 a) (vx_X px BX AX) free) (hS : va_S A0 H0 H locs) (hA : ∀ q, q < H.size → A1 q → A0 q) (hf : ∀ q, free q → A0 q) (hAX : ∀ q, q < H.size → AX q → A0 q)
    (kx : ∀ (E : String) (ce : Cell) (q9 : Addr) (u : SX) (t : State) (H1 : Heap) (locs1 : List Loc), t.heap = H1 → s.vm.Alike t.vm → px u → BX E u t → H.size ≤ H1.size → (∀ q : Nat, q < H.size → ¬ AX q → H1[q]? = H[q]?) → va_S A0 H0 H1 locs1 → H1[q9]? = some ce → ce.vm = .none → s.vm.findClass E = some ce.cls → vx_W p l e R s m args below meth c H1 locs1 (cells + mc) (slots + ms) Q (F0 m pc ls rest) q9)
    (kk : ∀ (r : Int32) (u : S) (t : State) (H1 : Heap) (locs1 : List Loc), t.heap = H1 → s.vm.Alike t.vm → post r u → B u t → H.size ≤ H1.size → (∀ q : Nat, q < H.size → ¬ A1 q → H1[q]? = H[q]?) → va_S A0 H0 H1 locs1 → W p l e R s m args below meth c H1 locs1 (cells + mc) (slots + ms) Q (F0 m (pc + 3) ls (.int r :: rest))) : W p l e R s m args below meth c H locs cells slots Q (F0 m pc ls st0) := by
  intro T hT X
  rcases hr T hT X with ⟨v, st₀, t, T', L, h0, X', hL, e1, e2, ⟨⟨r, u, hv, hp, hb⟩, hF⟩, st⟩ | ⟨q, st₀, t, T', L, E, ce, h0, X', hL, e1, e2, ⟨u, hp, hb, hF⟩, hce, hcv, hcl, st⟩
  · cases hv
    obtain ⟨k1, k2, k3⟩ := vx_keep h0 e1 hS hA hf hL hF
    obtain ⟨t2, a1, b1⟩ := kk r u t T'.heap (locs ++ L) e1.symm (by rw [← e2]; exact X'.warmed.alike) hp hb k1 k2 k3 T' rfl X'
    exact ⟨t2, st t2 a1, b1⟩
  · obtain ⟨k1, k2, k3⟩ := vx_keep h0 e1 hS hAX hf hL hF
    obtain ⟨t2, a1, b1⟩ := kx E ce q u t T'.heap (locs ++ L) e1.symm (by rw [← e2]; exact X'.warmed.alike) hp hb k1 k2 k3 (by rw [e1]; exact hce) hcv hcl T' rfl X'
    exact ⟨t2, st.trans a1, b1⟩
theorem vx_calll {S SX : Type} {post : Int64 → S → Prop} {px : SX → Prop} {B : S → State → Prop} {BX : String → SX → State → Prop} {AX : Nat → Prop} (hr : vx_Run p l e R s m args below meth c H locs cells slots mc ms (F0 m pc ls st0) rest (va_Ql post B A1 a) (vx_X px BX AX) free) (hS : va_S A0 H0 H locs) (hA : ∀ q, q < H.size → A1 q → A0 q) (hf : ∀ q, free q → A0 q) (hAX : ∀ q, q < H.size → AX q → A0 q)
    (kx : ∀ (E : String) (ce : Cell) (q9 : Addr) (u : SX) (t : State) (H1 : Heap) (locs1 : List Loc), t.heap = H1 → s.vm.Alike t.vm → px u → BX E u t → H.size ≤ H1.size → (∀ q : Nat, q < H.size → ¬ AX q → H1[q]? = H[q]?) → va_S A0 H0 H1 locs1 → H1[q9]? = some ce → ce.vm = .none → s.vm.findClass E = some ce.cls → vx_W p l e R s m args below meth c H1 locs1 (cells + mc) (slots + ms) Q (F0 m pc ls rest) q9)
    (kk : ∀ (r : Int64) (u : S) (t : State) (H1 : Heap) (locs1 : List Loc), t.heap = H1 → s.vm.Alike t.vm → post r u → B u t → H.size ≤ H1.size → (∀ q : Nat, q < H.size → ¬ A1 q → H1[q]? = H[q]?) → va_S A0 H0 H1 locs1 → W p l e R s m args below meth c H1 locs1 (cells + mc) (slots + ms) Q (F0 m (pc + 3) ls (.long r :: rest))) : W p l e R s m args below meth c H locs cells slots Q (F0 m pc ls st0) := by
  intro T hT X
  rcases hr T hT X with ⟨v, st₀, t, T', L, h0, X', hL, e1, e2, ⟨⟨r, u, hv, hp, hb⟩, hF⟩, st⟩ | ⟨q, st₀, t, T', L, E, ce, h0, X', hL, e1, e2, ⟨u, hp, hb, hF⟩, hce, hcv, hcl, st⟩
  · cases hv
    obtain ⟨k1, k2, k3⟩ := vx_keep h0 e1 hS hA hf hL hF
    obtain ⟨t2, a1, b1⟩ := kk r u t T'.heap (locs ++ L) e1.symm (by rw [← e2]; exact X'.warmed.alike) hp hb k1 k2 k3 T' rfl X'
    exact ⟨t2, st t2 a1, b1⟩
  · obtain ⟨k1, k2, k3⟩ := vx_keep h0 e1 hS hAX hf hL hF
    obtain ⟨t2, a1, b1⟩ := kx E ce q u t T'.heap (locs ++ L) e1.symm (by rw [← e2]; exact X'.warmed.alike) hp hb k1 k2 k3 (by rw [e1]; exact hce) hcv hcl T' rfl X'
    exact ⟨t2, st.trans a1, b1⟩
theorem vx_callf {S SX : Type} {post : UInt32 → S → Prop} {px : SX → Prop} {B : S → State → Prop} {BX : String → SX → State → Prop} {AX : Nat → Prop} (hr : vx_Run p l e R s m args below meth c H locs cells slots mc ms (F0 m pc ls st0) rest (va_Qf post B A1 a) (vx_X px BX AX) free) (hS : va_S A0 H0 H locs) (hA : ∀ q, q < H.size → A1 q → A0 q) (hf : ∀ q, free q → A0 q) (hAX : ∀ q, q < H.size → AX q → A0 q)
    (kx : ∀ (E : String) (ce : Cell) (q9 : Addr) (u : SX) (t : State) (H1 : Heap) (locs1 : List Loc), t.heap = H1 → s.vm.Alike t.vm → px u → BX E u t → H.size ≤ H1.size → (∀ q : Nat, q < H.size → ¬ AX q → H1[q]? = H[q]?) → va_S A0 H0 H1 locs1 → H1[q9]? = some ce → ce.vm = .none → s.vm.findClass E = some ce.cls → vx_W p l e R s m args below meth c H1 locs1 (cells + mc) (slots + ms) Q (F0 m pc ls rest) q9)
    (kk : ∀ (r : UInt32) (u : S) (t : State) (H1 : Heap) (locs1 : List Loc), t.heap = H1 → s.vm.Alike t.vm → post r u → B u t → H.size ≤ H1.size → (∀ q : Nat, q < H.size → ¬ A1 q → H1[q]? = H[q]?) → va_S A0 H0 H1 locs1 → W p l e R s m args below meth c H1 locs1 (cells + mc) (slots + ms) Q (F0 m (pc + 3) ls (.float r :: rest))) : W p l e R s m args below meth c H locs cells slots Q (F0 m pc ls st0) := by
  intro T hT X
  rcases hr T hT X with ⟨v, st₀, t, T', L, h0, X', hL, e1, e2, ⟨⟨r, u, hv, hp, hb⟩, hF⟩, st⟩ | ⟨q, st₀, t, T', L, E, ce, h0, X', hL, e1, e2, ⟨u, hp, hb, hF⟩, hce, hcv, hcl, st⟩
  · cases hv
    obtain ⟨k1, k2, k3⟩ := vx_keep h0 e1 hS hA hf hL hF
    obtain ⟨t2, a1, b1⟩ := kk r u t T'.heap (locs ++ L) e1.symm (by rw [← e2]; exact X'.warmed.alike) hp hb k1 k2 k3 T' rfl X'
    exact ⟨t2, st t2 a1, b1⟩
  · obtain ⟨k1, k2, k3⟩ := vx_keep h0 e1 hS hAX hf hL hF
    obtain ⟨t2, a1, b1⟩ := kx E ce q u t T'.heap (locs ++ L) e1.symm (by rw [← e2]; exact X'.warmed.alike) hp hb k1 k2 k3 (by rw [e1]; exact hce) hcv hcl T' rfl X'
    exact ⟨t2, st.trans a1, b1⟩
theorem vx_calld {S SX : Type} {post : UInt64 → S → Prop} {px : SX → Prop} {B : S → State → Prop} {BX : String → SX → State → Prop} {AX : Nat → Prop} (hr : vx_Run p l e R s m args below meth c H locs cells slots mc ms (F0 m pc ls st0) rest (va_Qd post B A1 a) (vx_X px BX AX) free) (hS : va_S A0 H0 H locs) (hA : ∀ q, q < H.size → A1 q → A0 q) (hf : ∀ q, free q → A0 q) (hAX : ∀ q, q < H.size → AX q → A0 q)
    (kx : ∀ (E : String) (ce : Cell) (q9 : Addr) (u : SX) (t : State) (H1 : Heap) (locs1 : List Loc), t.heap = H1 → s.vm.Alike t.vm → px u → BX E u t → H.size ≤ H1.size → (∀ q : Nat, q < H.size → ¬ AX q → H1[q]? = H[q]?) → va_S A0 H0 H1 locs1 → H1[q9]? = some ce → ce.vm = .none → s.vm.findClass E = some ce.cls → vx_W p l e R s m args below meth c H1 locs1 (cells + mc) (slots + ms) Q (F0 m pc ls rest) q9)
    (kk : ∀ (r : UInt64) (u : S) (t : State) (H1 : Heap) (locs1 : List Loc), t.heap = H1 → s.vm.Alike t.vm → post r u → B u t → H.size ≤ H1.size → (∀ q : Nat, q < H.size → ¬ A1 q → H1[q]? = H[q]?) → va_S A0 H0 H1 locs1 → W p l e R s m args below meth c H1 locs1 (cells + mc) (slots + ms) Q (F0 m (pc + 3) ls (.double r :: rest))) : W p l e R s m args below meth c H locs cells slots Q (F0 m pc ls st0) := by
  intro T hT X
  rcases hr T hT X with ⟨v, st₀, t, T', L, h0, X', hL, e1, e2, ⟨⟨r, u, hv, hp, hb⟩, hF⟩, st⟩ | ⟨q, st₀, t, T', L, E, ce, h0, X', hL, e1, e2, ⟨u, hp, hb, hF⟩, hce, hcv, hcl, st⟩
  · cases hv
    obtain ⟨k1, k2, k3⟩ := vx_keep h0 e1 hS hA hf hL hF
    obtain ⟨t2, a1, b1⟩ := kk r u t T'.heap (locs ++ L) e1.symm (by rw [← e2]; exact X'.warmed.alike) hp hb k1 k2 k3 T' rfl X'
    exact ⟨t2, st t2 a1, b1⟩
  · obtain ⟨k1, k2, k3⟩ := vx_keep h0 e1 hS hAX hf hL hF
    obtain ⟨t2, a1, b1⟩ := kx E ce q u t T'.heap (locs ++ L) e1.symm (by rw [← e2]; exact X'.warmed.alike) hp hb k1 k2 k3 (by rw [e1]; exact hce) hcv hcl T' rfl X'
    exact ⟨t2, st.trans a1, b1⟩
theorem vx_callv {S SX : Type} {post : S → Prop} {px : SX → Prop} {B : S → State → Prop} {BX : String → SX → State → Prop} {AX : Nat → Prop} (hr : vx_Run p l e R s m args below meth c H locs cells slots mc ms (F0 m pc ls st0) rest (va_Qv post B A1 a) (vx_X px BX AX) free) (hS : va_S A0 H0 H locs) (hA : ∀ q, q < H.size → A1 q → A0 q) (hf : ∀ q, free q → A0 q) (hAX : ∀ q, q < H.size → AX q → A0 q)
    (kx : ∀ (E : String) (ce : Cell) (q9 : Addr) (u : SX) (t : State) (H1 : Heap) (locs1 : List Loc), t.heap = H1 → s.vm.Alike t.vm → px u → BX E u t → H.size ≤ H1.size → (∀ q : Nat, q < H.size → ¬ AX q → H1[q]? = H[q]?) → va_S A0 H0 H1 locs1 → H1[q9]? = some ce → ce.vm = .none → s.vm.findClass E = some ce.cls → vx_W p l e R s m args below meth c H1 locs1 (cells + mc) (slots + ms) Q (F0 m pc ls rest) q9)
    (kk : ∀ (u : S) (t : State) (H1 : Heap) (locs1 : List Loc), t.heap = H1 → s.vm.Alike t.vm → post u → B u t → H.size ≤ H1.size → (∀ q : Nat, q < H.size → ¬ A1 q → H1[q]? = H[q]?) → va_S A0 H0 H1 locs1 → W p l e R s m args below meth c H1 locs1 (cells + mc) (slots + ms) Q (F0 m (pc + 3) ls (rest))) : W p l e R s m args below meth c H locs cells slots Q (F0 m pc ls st0) := by
  intro T hT X
  rcases hr T hT X with ⟨v, st₀, t, T', L, h0, X', hL, e1, e2, ⟨⟨u, hv, hp, hb⟩, hF⟩, st⟩ | ⟨q, st₀, t, T', L, E, ce, h0, X', hL, e1, e2, ⟨u, hp, hb, hF⟩, hce, hcv, hcl, st⟩
  · cases hv
    obtain ⟨k1, k2, k3⟩ := vx_keep h0 e1 hS hA hf hL hF
    obtain ⟨t2, a1, b1⟩ := kk u t T'.heap (locs ++ L) e1.symm (by rw [← e2]; exact X'.warmed.alike) hp hb k1 k2 k3 T' rfl X'
    exact ⟨t2, st t2 a1, b1⟩
  · obtain ⟨k1, k2, k3⟩ := vx_keep h0 e1 hS hAX hf hL hF
    obtain ⟨t2, a1, b1⟩ := kx E ce q u t T'.heap (locs ++ L) e1.symm (by rw [← e2]; exact X'.warmed.alike) hp hb k1 k2 k3 (by rw [e1]; exact hce) hcv hcl T' rfl X'
    exact ⟨t2, st.trans a1, b1⟩
/-- caught by the row x of this method's table; the rows ahead don't take it -/
theorem vx_catch {own name : String} {E : String} {ce : Cell} {q : Addr} (hown : s.vm.findClass own = some m.cls) (pre : List ExceptionTableEntry) (x : ExceptionTableEntry) (suf : List ExceptionTableEntry) (hsplit : c.exceptionTable.toList = pre ++ x :: suf)
    (hpass : ∀ z ∈ pre, covers z pc = false ∨ (z.catchType ≠ 0 ∧ ∃ nm : String, (Cond.classLink own z.catchType nm).before args s = true ∧ va_Nc E nm s)) (hx : covers x pc = true) (h0 : x.catchType ≠ 0)
    (hlink : (Cond.classLink own x.catchType name).before args s = true) (hcast : (Cond.castable E name).before args s = true) (hcell : H[q]? = some ce) (hv : ce.vm = .none) (hcl : s.vm.findClass E = some ce.cls)
    (kk : W p l e R s m args below meth c H locs cells slots Q (F0 m x.handlerPc ls [.ref q])) : vx_W p l e R s m args below meth c H locs cells slots Q (F0 m pc ls rest) q := by
  intro T hT X
  have hpl : e.platform.magicAccessors = ({} : Platform).magicAccessors := by rw [X.admits.platform]
  obtain ⟨c3, c4, hc3, hc4, hasg⟩ := Cond.castable_spec hcast
  cases Option.some.inj (hc3.symm.trans hcl)
  obtain ⟨c5, hc5, hcl5⟩ := Cond.classLink_spec hown hlink e.platform hpl
  cases Option.some.inj (hc4.symm.trans hc5)
  obtain ⟨vm', X', st⟩ := X.thenCaughtThrough q (g := F0 m pc ls rest) rfl (Steps.refl _) (by rw [hT]; exact hcell) (by rw [hv]; rfl) (by obtain ⟨k9, h9, -⟩ := Vm.findClass_spec hcl; exact ⟨k9, h9⟩) pre x suf hsplit
    (fun z hz => by
      rcases hpass z hz with h | ⟨hz0, nm, hl1, hn1⟩
      · exact Or.inl h
      · obtain ⟨c6, hc6, hcl6⟩ := Cond.classLink_spec hown hl1 e.platform hpl
        obtain ⟨a8, b8, h1, h2, h3⟩ := hn1
        cases Option.some.inj (h1.symm.trans hcl)
        cases Option.some.inj (h2.symm.trans hc6)
        exact Or.inr ⟨hz0, _, hcl6, h3⟩) hx (Or.inr ⟨h0, c4, hcl5, hasg⟩)
  obtain ⟨t, a1, b1⟩ := kk (T.setVm vm') hT X'
  exact ⟨t, st.trans a1, b1⟩
end Rows
section Ends
variable {p : Program} {l : Launch} {e : Env} {R : Room} {s : State} {m : MethodId} {args : Array Value} {below : List Frame} {meth : Method} {c : Code} {H : Heap} {locs : List Loc} {cells slots : Nat} {Q : State → Prop}
variable {mc ms : Nat} {free : Addr → Prop} {A0 A1 : Nat → Prop} {H0 : Heap} {a : Array Value} {ls : Array Slot} {st0 rest : List Value}
variable {Qc : Array Value → State → Outcome → State → Prop} {XC : String → State → State → Prop}
/-- what a body that may throw owes at its end -/
def vx_MQ (below : List Frame) (Qc : Array Value → State → Outcome → State → Prop) (XC : String → State → State → Prop) (a : Array Value) (s : State) (mc ms : Nat) (free : Addr → Prop) : State → Prop := fun t =>
  ∃ o, t.status = .running ∧ Ended t below o ∧ vx_Q Qc XC mc ms free a s o t
theorem vx_ret {g : JFrame} {mc ms : Nat} (k : W p l e R s m args below meth c H locs cells slots (MQ below Qc args s mc ms free) g) : W p l e R s m args below meth c H locs cells slots (vx_MQ below Qc XC args s mc ms free) g := by
  intro T hT X
  obtain ⟨t, a1, o, b1, b2, b3, b4⟩ := k T hT X
  exact ⟨t, a1, o, b1, b2, Or.inl ⟨b3, b4⟩⟩
/-- not caught here: it goes on to the caller -/
theorem vx_widen {g : JFrame} {q : Addr} {k n : Nat} (h1 : cells ≤ k) (h2 : slots ≤ n) (kk : vx_W p l e R s m args below meth c H locs k n Q g q) : vx_W p l e R s m args below meth c H locs cells slots Q g q := fun T hT X => kk T hT (stand_widen X h1 h2)
theorem vx_out {pc : Nat} {E : String} {ce : Cell} {q : Addr} {mc ms : Nat} (hout : ∀ x ∈ c.exceptionTable.toList, covers x pc = false) (hlocks : meth.locks = false) (hcell : H[q]? = some ce) (hv : ce.vm = .none) (hcl : s.vm.findClass E = some ce.cls)
    (hx : ∀ t : State, t.heap = H → s.vm.Alike t.vm → XC E s t) (hf : ∀ z ∈ locs, free z.base) (hc : cells ≤ mc) (hs : slots ≤ ms) :
    vx_W p l e R s m args below meth c H locs cells slots (vx_MQ below Qc XC args s mc ms free) (F0 m pc ls rest) q := by
  intro T hT X
  obtain ⟨st1, hrun, hend, hW, hsm⟩ := X.leaveThrown q (g := F0 m pc ls rest) rfl rfl rfl hout hlocks
  have hcell9 : (T.setFrames (.throwing q :: below)).heap[q]? = some ce := by
    show T.heap[q]? = some ce
    rw [hT]; exact hcell
  exact ⟨_, st1, .threw q, hrun, hend, Or.inr ⟨q, rfl, E, ce, locs, hx _ hT hW.alike, hcell9, hv, hcl, hW, hsm.mono hc hs, hf⟩⟩
theorem vx_frame {U : State} {k n : Nat} (h : s.sameButNew ({ U with vm := s.vm } : State) locs k n) : s.heap.size ≤ U.heap.size ∧ ∀ q : Nat, q < s.heap.size → (∀ z ∈ locs, z.base ≠ q) → U.heap[q]? = s.heap[q]? := by
  obtain ⟨-, h2, -, -, -, h6⟩ := h
  refine ⟨h2, fun q hq hz => ?_⟩
  obtain ⟨c9, e1, e2, e3, e4⟩ := h6 q _ (Array.getElem?_eq_getElem hq)
  have hs : c9.slots = (s.heap[q]).slots := Array.ext_getElem? fun i => e4 i fun hm => hz _ hm rfl
  have h9 : c9 = s.heap[q] := by
    rw [hs] at e2
    exact e2
  have e5 : U.heap[q]? = some c9 := e1
  rw [e5, h9, Array.getElem?_eq_getElem hq]
/-- the words of a throw but the four that speak of the heap -/
def vx_no (w : Cond) : Bool := decide (w ≠ .isRef (.static Bundle.tN "UNASSIGNED_STACK" Bundle.steD)) && decide (w ≠ .isRef (.static Bundle.tN "SUPPRESSED_SENTINEL" Bundle.listD)) && decide (w ≠ .laysStatic Bundle.tN "UNASSIGNED_STACK" Bundle.steD) && decide (w ≠ .laysStatic Bundle.tN "SUPPRESSED_SENTINEL" Bundle.listD)
def vx_at0 (own : String) (ic : Nat) (X : String) (names : List String) : List Cond := (Bundle.ownAtoms0 own ic X names).filter vx_no
def vx_atS (own : String) (ic : Nat) (X : String) (names : List String) : List Cond := (Bundle.ownAtoms own ic X names).filter vx_no
/-- a word that the tables alone decide, or a good one -/
def vx_ot (w : Cond) : Bool := w.onTables || goodWord w
theorem vx_ot_at {args a' : Array Value} {s U : State} {w : Cond} (hW : s.WarmedH U.vm) (hvm : s.vm = U.vm) (hg : vx_ot w = true) (h : w.before args s = true) : w.before a' U = true := by
  simp only [vx_ot, Bool.or_eq_true] at hg
  rcases hg with hg | hg
  · exact va_tabs hg hvm h
  · exact word_at hW (good_of_word hg) h
/-- a list's words: the good ones out of the method's own list, the others by premises of their own -/
theorem vx_hat {args : Array Value} {s : State} {L B : List Cond} (h1 : ∀ w ∈ L.filter goodWord, w.before args s = true) (h2 : ∀ w ∈ L.filter (fun w => !goodWord w), w ∈ B) (h3 : ∀ w ∈ B, w.before args s = true) : ∀ w ∈ L, w.before args s = true := by
  intro w hw
  by_cases g : goodWord w = true
  · exact h1 w (List.mem_filter.mpr ⟨hw, g⟩)
  · refine h3 w (h2 w (List.mem_filter.mpr ⟨hw, ?_⟩))
    show (!goodWord w) = true
    cases hgw : goodWord w
    · rfl
    · exact absurd hgw g
theorem vx_c {args : Array Value} {s : State} {w : Cond} {B : List Cond} (h : w.before args s = true) (t : ∀ w ∈ B, w.before args s = true) : ∀ w' ∈ w :: B, w'.before args s = true := fun w' h' => (List.mem_cons.mp h').elim (fun e => by rw [e]; exact h) (t w')
theorem vx_n {args : Array Value} {s : State} : ∀ w ∈ ([] : List Cond), w.before args s = true := fun _ h => nomatch h
theorem vx_own {args : Array Value} {s : State} {L : List Cond} (h1 : ∀ w ∈ L.filter vx_no, w.before args s = true)
    (hU : (Cond.isRef (.static Bundle.tN "UNASSIGNED_STACK" Bundle.steD)).before args s = true) (hN : (Cond.isRef (.static Bundle.tN "SUPPRESSED_SENTINEL" Bundle.listD)).before args s = true)
    (lU : (Cond.laysStatic Bundle.tN "UNASSIGNED_STACK" Bundle.steD).before args s = true) (lN : (Cond.laysStatic Bundle.tN "SUPPRESSED_SENTINEL" Bundle.listD).before args s = true) : ∀ w ∈ L, w.before args s = true := by
  intro w hw
  by_cases e1 : w = .isRef (.static Bundle.tN "UNASSIGNED_STACK" Bundle.steD)
  · rw [e1]; exact hU
  · by_cases e2 : w = .isRef (.static Bundle.tN "SUPPRESSED_SENTINEL" Bundle.listD)
    · rw [e2]; exact hN
    · by_cases e3 : w = .laysStatic Bundle.tN "UNASSIGNED_STACK" Bundle.steD
      · rw [e3]; exact lU
      · by_cases e4 : w = .laysStatic Bundle.tN "SUPPRESSED_SENTINEL" Bundle.listD
        · rw [e4]; exact lN
        · exact h1 w (List.mem_filter.mpr ⟨hw, by unfold vx_no; rw [decide_eq_true e1, decide_eq_true e2, decide_eq_true e3, decide_eq_true e4]; rfl⟩)
/-- where a static field lies, its class's statics cell in H -/
def vx_L (C n d : String) (A : Nat → Prop) (U : State) (H : Heap) : Prop := ∃ (c : ClassId) (k : Class) (i : Nat) (f : Field) (a : Nat) (cell : Cell), U.vm.findClass C = some c ∧ U.fieldFound? C n d = some (c, k, i, f) ∧ f.isStatic = true ∧ k.statics = some a ∧ H[a]? = some cell ∧ cell.vm.isStatics = true ∧ cell.cls = c ∧ f.slot < cell.slots.size ∧ k.staticTypes[f.slot]? = some f.type ∧ ¬ A a
theorem vx_L.moved {C n d : String} {A : Nat → Prop} {u U : State} {H : Heap} (hvm : u.vm.Alike U.vm) (h : vx_L C n d A u H) : vx_L C n d A U H := by
  obtain ⟨c, k, i, f, a, cell, h1, h2, h3, h4, h5, h6, h7, h8, h9, h10⟩ := h
  obtain ⟨k', hi', he⟩ := State.fieldFound?_setVm hvm h2
  exact ⟨c, k', i, f, a, cell, by rw [hvm.findClass]; exact h1, hi', h3, by rw [he]; exact h4, h5, h6, h7, h8, by rw [he]; exact h9, h10⟩
theorem vx_L.kept {C n d : String} {A : Nat → Prop} {U : State} {H H1 : Heap} (h : vx_L C n d A U H) (hq : ∀ a : Nat, a < H.size → ¬ A a → H1[a]? = H[a]?) : vx_L C n d A U H1 := by
  obtain ⟨c, k, i, f, a, cell, h1, h2, h3, h4, h5, h6, h7, h8, h9, h10⟩ := h
  exact ⟨c, k, i, f, a, cell, h1, h2, h3, h4, by rw [hq a (Array.getElem?_eq_some_iff.mp h5).1 h10]; exact h5, h6, h7, h8, h9, h10⟩
theorem vx_L.narrow {C n d : String} {A B : Nat → Prop} {U : State} {H : Heap} (h : vx_L C n d A U H) (hAB : ∀ q, B q → A q) : vx_L C n d B U H := by
  obtain ⟨c, k, i, f, a, cell, h1, h2, h3, h4, h5, h6, h7, h8, h9, h10⟩ := h
  exact ⟨c, k, i, f, a, cell, h1, h2, h3, h4, h5, h6, h7, h8, h9, fun z => h10 (hAB _ z)⟩
theorem vx_L.word {C n d : String} {A : Nat → Prop} {s : State} {args : Array Value} (h : vx_L C n d A s s.heap) : (Cond.laysStatic C n d).before args s = true := by
  obtain ⟨c, k, i, f, a, cell, h1, h2, h3, h4, h5, h6, h7, h8, h9, -⟩ := h
  show (Cond.laysStatic C n d).holds args s none s [] = true
  exact Cond.laysStatic_of h1 h2 h3 h4 h5 h6 h7 h8 h9
/-- .. and what it holds: null or some reference -/
def vx_Zq (C n d : String) (A : Nat → Prop) (U : State) (H : Heap) : Prop := va_Zq C n d A U H ∧ vx_L C n d A U H
theorem vx_Zq.moved {C n d : String} {A : Nat → Prop} {u U : State} {H : Heap} (hvm : u.vm.Alike U.vm) (h : vx_Zq C n d A u H) : vx_Zq C n d A U H := ⟨va_Zq.moved hvm h.1, vx_L.moved hvm h.2⟩
theorem vx_Zq.kept {C n d : String} {A : Nat → Prop} {U : State} {H H1 : Heap} (h : vx_Zq C n d A U H) (hq : ∀ a : Nat, a < H.size → ¬ A a → H1[a]? = H[a]?) : vx_Zq C n d A U H1 := ⟨va_Zq.kept h.1 hq, vx_L.kept h.2 hq⟩
theorem vx_Zq.narrow {C n d : String} {A B : Nat → Prop} {U : State} {H : Heap} (h : vx_Zq C n d A U H) (hAB : ∀ q, B q → A q) : vx_Zq C n d B U H := ⟨va_Zq.narrow h.1 hAB, vx_L.narrow h.2 hAB⟩
theorem vx_Zqof {args : Array Value} {s : State} {C n d : String} {A : Nat → Prop} (hl : (Cond.laysStatic C n d).before args s = true) (hini : (Cond.initialized C).before args s = true) (h : (Cond.isRef (.static C n d)).before args s = true) (hA : ∀ a : Nat, a < s.heap.size → ¬ A a) : vx_Zq C n d A s s.heap := by
  refine ⟨va_Zqof hl hini h hA, ?_⟩
  obtain ⟨c, k, i, f, a, cell, h1, h2, h3, h4, h5, h6, h7, h8, h9⟩ := Cond.laysStatic_spec hl
  exact ⟨c, k, i, f, a, cell, h1, h2, h3, h4, h5, h6, h7, h8, h9, hA a (Array.getElem?_eq_some_iff.mp h5).1⟩
theorem vx_isRef {C n d : String} {v : Value} {A : Nat → Prop} {s : State} {args : Array Value} (h : va_Z C n d v A s s.heap) (hv : v.isRef = true) : (Cond.isRef (.static C n d)).before args s = true := by
  obtain ⟨cf, kf, fi, f, a, cell, h1, h2, h3, h4, h5, h6, h7, -⟩ := h
  have he : (Term.static C n d).eval args s none [] s = some v := by
    simp [Term.eval, State.fieldNamed?, h1, h2, h4, h5, h6, h7]
  simp only [Cond.before, Cond.holds, Cond.value, he]
  cases v <;> simp_all [Value.isRef]
theorem vx_isRefq {C n d : String} {A : Nat → Prop} {s : State} {args : Array Value} (h : va_Zq C n d A s s.heap) : (Cond.isRef (.static C n d)).before args s = true := by
  rcases h with h | ⟨t, h⟩
  · exact vx_isRef h rfl
  · exact vx_isRef h rfl
/-- the same frame, seen from here: as if the method were called anew in this heap -/
theorem vx_rebase {T : State} (X : Stand p l e R s m args below meth c T locs cells slots) {R' : Room} (hf : R'.frames ≤ R.frames) (hl : R'.locals ≤ R.locals) (hc : cells + R'.cells ≤ R.cells) (hs : slots + R'.slots ≤ R.slots) :
    Stand p l e R' ((T.setVm s.vm).setFrames (.invoking m args :: below)) m args below meth c T [] 0 0 := by
  have htop : (T.setVm s.vm).topJava?.isSome := X.here.top
  have hF : ((T.setVm s.vm).setFrames (.invoking m args :: below)).frames = .invoking m args :: below := State.frames_setFrames _ (State.cur_lt_of_top htop)
  obtain ⟨g₀, hg0⟩ := Option.isSome_iff_exists.mp htop
  obtain ⟨r, hr⟩ := State.topJava?_eq_some.mp hg0
  have hl9 : e.platform.stackLimits (T.setVm s.vm).me = e.platform.stackLimits s.me := X.limits
  have hb9 : (T.setVm s.vm).me.stackBytes = s.me.stackBytes := X.bytes
  refine ⟨X.admits, X.cas, X.clock, hF, ?_, X.hears, X.method, X.code, X.here, X.tail, X.warmed, ?_, ?_, ?_⟩
  · have h := X.room
    have hU : ((T.setVm s.vm).setFrames (.invoking m args :: below)).localsInUse = s.localsInUse := by
      rw [State.localsInUse_invoking hF (meth := meth) (c := c) X.method X.code, State.localsInUse_invoking X.frames X.method X.code]
    simp only [State.hasRoom, Bool.and_eq_true, decide_eq_true_eq] at h ⊢
    obtain ⟨⟨⟨⟨h1, h2, h3, h4, h5, h6⟩, h7⟩, h8⟩, h9⟩ := h
    rw [X.frames, List.length_cons] at h2 h3
    have q1 := X.heapSize
    have q2 := X.used
    simp only [hF, hU, List.length_cons, State.stackLimits_setFrames, State.stackBytes_setFrames, hl9, hb9]
    refine ⟨⟨⟨⟨by omega, by omega, by omega, by omega, by omega, h6⟩, ?_⟩, ?_⟩, X.book⟩
    · show T.heap.size + R'.cells ≤ e.platform.maxCells
      omega
    · show T.slotsUsed + R'.slots ≤ e.platform.maxSlots
      omega
  · rw [State.stackLimits_setFrames]; rfl
  · rw [State.stackBytes_setFrames]; rfl
  · refine ⟨?_, Nat.le_refl _, Nat.le_refl _, ?_, ?_, fun a c9 h9 => ⟨c9, h9, rfl, rfl, fun _ _ => rfl⟩⟩
    · obtain ⟨t, ht, -⟩ := State.frames_cons hr
      show T.setVm s.vm = { ((T.setVm s.vm).setFrames (.invoking m args :: below)).setFrames (T.setVm s.vm).frames with heap := T.heap, slotsUsed := T.slotsUsed }
      rw [State.setFrames_setFrames, State.setFrames_self ht]
      rfl
    · show T.slotsUsed = T.slotsUsed + ((T.heap.toList.drop T.heap.size).map (·.slots.size)).sum
      rw [List.drop_eq_nil_of_le (Nat.le_of_eq Array.length_toList)]
      rfl
    · show ((T.heap.toList.drop T.heap.size).map (·.slots.size)).sum ≤ 0
      rw [List.drop_eq_nil_of_le (Nat.le_of_eq Array.length_toList)]
      exact Nat.le_refl _
/-- 'throw new E()': new; dup; invokespecial; athrow -/
theorem vx_throw0 {cc : ByteArray} {pc : Nat} (hexec : p.tables.exec = Jvm.exec) (hb : c.code = cc) (hl : l.stackTraces = false) {own cls : String} {names : List String} {ik ic mc ms : Nat} {A : Nat → Prop}
    (hown : s.vm.findClass own = some m.cls) (hcls : Bundle.fit cls = true) (hnames : ∀ n ∈ names, Bundle.fit n = true)
    (hk : (Cond.classLink own ik cls).before args s = true) (hini : (Cond.initialized cls).before args s = true) (hat : ∀ w ∈ vx_at0 own ic cls names, w.before args s = true)
    (hgood : ∀ w ∈ Cond.classLink own ik cls :: Cond.initialized cls :: vx_at0 own ic cls names, vx_ot w = true)
    (hU : vx_Zq Bundle.tN "UNASSIGNED_STACK" Bundle.steD A s s.heap) (hN : vx_Zq Bundle.tN "SUPPRESSED_SENTINEL" Bundle.listD A s s.heap) (hS : va_S A s.heap H locs) (hsize : ls.size = c.maxLocals)
    (d0 : decode cc pc = .ok (.new ik, 3)) (d3 : decode cc (pc + 3) = .ok (.dup, 1)) (d4 : decode cc (pc + 4) = .ok (.invokespecial ic, 3)) (d7 : decode cc (pc + 7) = .ok (.athrow, 1))
    (hout : ∀ x ∈ c.exceptionTable.toList, covers x (pc + 7) = false)
    (hRframes : names.length + 3 < R.frames) (hRlocals : (rest.map fun v => v.category).sum + (13 * (names.length + 1) + 42) ≤ R.locals) (hRcells : cells + 1 ≤ R.cells) (hRslots : slots + 6 ≤ R.slots) (hlocks : meth.locks = false)
    (hx : ∀ t : State, s.vm.Alike t.vm → H.size ≤ t.heap.size → (∀ q : Nat, q < H.size → t.heap[q]? = H[q]?) → XC cls s t)
    (hf : ∀ z ∈ locs, free z.base) (hc : cells + 1 ≤ mc) (hs : slots + 6 ≤ ms) :
    W p l e R s m args below meth c H locs cells slots (vx_MQ below Qc XC args s mc ms free) (F0 m pc ls rest) := by
  intro T hT X
  have htr : e.platform.stackTraces = false := (show e.platform.stackTraces = l.stackTraces by rw [X.admits.platform]).trans hl
  have Y := vx_rebase X (R' := { frames := R.frames, locals := R.locals, cells := 1, slots := 6 }) (Nat.le_refl _) (Nat.le_refl _) hRcells hRslots
  obtain ⟨s', hA⟩ : ∃ z, z = (T.setVm s.vm).setFrames (.invoking m args :: below) := ⟨_, rfl⟩
  rw [← hA] at Y
  have hvm : s'.vm = s.vm := by rw [hA]; rfl
  have hhp : s'.heap = H := by rw [hA]; exact hT
  have hW0 : s.WarmedH s'.vm := by rw [hvm]; exact State.WarmedH.refl s
  have hat' : ∀ w ∈ vx_at0 own ic cls names, w.before args s' = true := fun w hw => vx_ot_at hW0 hvm.symm (hgood w (List.mem_cons_of_mem _ (List.mem_cons_of_mem _ hw))) (hat w hw)
  have hk' : (Cond.classLink own ik cls).before args s' = true := vx_ot_at hW0 hvm.symm (hgood _ List.mem_cons_self) hk
  have hini' : (Cond.initialized cls).before args s' = true := vx_ot_at hW0 hvm.symm (hgood _ (List.mem_cons_of_mem _ List.mem_cons_self)) hini
  have hU' : vx_Zq Bundle.tN "UNASSIGNED_STACK" Bundle.steD A s' s'.heap := by rw [hhp]; exact vx_Zq.moved hW0.alike (hU.kept hS.2.1)
  have hN' : vx_Zq Bundle.tN "SUPPRESSED_SENTINEL" Bundle.listD A s' s'.heap := by rw [hhp]; exact vx_Zq.moved hW0.alike (hN.kept hS.2.1)
  have h : ∀ w ∈ Bundle.ownAtoms0 own ic cls names, w.before args s' = true := vx_own hat' (vx_isRefq hU'.1) (vx_isRefq hN'.1) hU'.2.word hN'.2.word
  have hown' : s'.vm.findClass own = some m.cls := by rw [hvm]; exact hown
  have hins : (Cond.instantiable cls 6).before args s' = true := h _ (by simp [Bundle.ownAtoms0])
  obtain ⟨vm₁, cX, kX, hfX, hkX, -, -, X₁, st1⟩ := Y.newCold hexec (own := own) (C := cls) (index := ik) (n := 6) hown' hk' hins hini'
    (g := F0 m pc ls rest) rfl (by rw [hb]; exact d0) (Nat.le_refl _) (Nat.le_refl _)
  generalize hT1 : (T.setVm vm₁).pushCell { cls := cX, slots := kX.instanceTypes.map defaultValue, vm := .none } = T1 at X₁ st1
  have hcat : (Value.ref T.heap.size).category = 1 := rfl
  have hcellA : T1.heap[T.heap.size]? = some (freshCell cX kX) := by rw [← hT1]; exact State.heap_pushCell_size _ _
  have d3' : decode c.code (pc + 3) = .ok (.dup, 1) := by rw [hb]; exact d3
  obtain ⟨U, hsteps, hrun, hend, hW, hsame, ce, hce, hO⟩ := X₁.ctorThrow0 hexec htr (own := own) (cls := cls) (names := names) (ic := ic) hown' hcls hnames h (fun x hx => nomatch hx) hfX hkX hcellA (by rw [hhp, hT]; exact Nat.le_refl _)
    (g := { method := m, pc := pc + 4, locals := ls, stack := .ref T.heap.size :: .ref T.heap.size :: rest, locked := none }) rfl hsize rfl rfl (rest := rest) rfl
    (by rw [hb]; exact d4) (by rw [hb]; exact d7) hout hRframes (by simp only [List.map_cons, List.sum_cons, hcat]; omega) hlocks
  obtain ⟨f1, f2⟩ := vx_frame hsame
  rw [hhp] at f1 f2
  have hWs : s.WarmedH U.vm := State.WarmedH.trans hW0 hW
  have hcl : s.vm.findClass cls = some ce.cls := by
    have h9 := hO.cls
    rw [hvm] at h9
    exact h9
  have hall : s.sameButNew ({ U with vm := s.vm } : State) locs mc ms := by
    subst hA
    obtain ⟨e1, e2⟩ := hsame
    rw [State.setFrames_setFrames] at e1
    have h2 : (T.setVm s.vm).sameButNew ({ U with vm := s.vm } : State) [] (0 + 1) (0 + 6) := ⟨e1, e2⟩
    have h3 := X.same.trans h2
    rw [List.append_nil] at h3
    exact h3.mono hc hs
  refine ⟨U, ?_, .threw T.heap.size, hrun, hend, Or.inr ⟨T.heap.size, rfl, cls, ce, locs, hx U hWs.alike f1 (fun q hq => f2 q hq (fun z hz => nomatch hz)), hce, hO.vm, hcl, hWs, hall, hf⟩⟩
  refine st1 _ ?_
  show Steps p.tables e below (T1.setTop { method := m, pc := pc + 3, locals := ls, stack := .ref T.heap.size :: rest, locked := none }) _
  jvm_step X₁.here [X₁.here.top, hexec, d3', Value.category]
  exact hsteps
/-- 'throw new E("text")': new; dup; ldc; invokespecial; athrow -/
theorem vx_throwS {cc : ByteArray} {pc : Nat} (hexec : p.tables.exec = Jvm.exec) (hb : c.code = cc) (hl : l.stackTraces = false) {own cls text : String} {names : List String} {ik is ic mc ms sa : Nat} {A : Nat → Prop}
    (hown : s.vm.findClass own = some m.cls) (hcls : Bundle.fit cls = true) (hnames : ∀ n ∈ names, Bundle.fit n = true)
    (hk : (Cond.classLink own ik cls).before args s = true) (hini : (Cond.initialized cls).before args s = true) (hstr : vk_R own is text sa s) (hat : ∀ w ∈ vx_atS own ic cls names, w.before args s = true)
    (hgood : ∀ w ∈ Cond.classLink own ik cls :: Cond.initialized cls :: vx_atS own ic cls names, vx_ot w = true)
    (hU : vx_Zq Bundle.tN "UNASSIGNED_STACK" Bundle.steD A s s.heap) (hN : vx_Zq Bundle.tN "SUPPRESSED_SENTINEL" Bundle.listD A s s.heap) (hS : va_S A s.heap H locs) (hsize : ls.size = c.maxLocals)
    (d0 : decode cc pc = .ok (.new ik, 3)) (d3 : decode cc (pc + 3) = .ok (.dup, 1)) (d4 : decode cc (pc + 4) = .ok (.ldc is, 2)) (d6 : decode cc (pc + 6) = .ok (.invokespecial ic, 3)) (d9 : decode cc (pc + 9) = .ok (.athrow, 1))
    (hout : ∀ x ∈ c.exceptionTable.toList, covers x (pc + 9) = false)
    (hRframes : names.length + 3 < R.frames) (hRlocals : (rest.map fun v => v.category).sum + (13 * (names.length + 1) + 43) ≤ R.locals) (hRcells : cells + 1 ≤ R.cells) (hRslots : slots + 6 ≤ R.slots) (hlocks : meth.locks = false)
    (hx : ∀ t : State, s.vm.Alike t.vm → H.size ≤ t.heap.size → (∀ q : Nat, q < H.size → t.heap[q]? = H[q]?) → XC cls s t)
    (hf : ∀ z ∈ locs, free z.base) (hc : cells + 1 ≤ mc) (hs : slots + 6 ≤ ms) :
    W p l e R s m args below meth c H locs cells slots (vx_MQ below Qc XC args s mc ms free) (F0 m pc ls rest) := by
  intro T hT X
  have htr : e.platform.stackTraces = false := (show e.platform.stackTraces = l.stackTraces by rw [X.admits.platform]).trans hl
  have Y := vx_rebase X (R' := { frames := R.frames, locals := R.locals, cells := 1, slots := 6 }) (Nat.le_refl _) (Nat.le_refl _) hRcells hRslots
  obtain ⟨s', hA⟩ : ∃ z, z = (T.setVm s.vm).setFrames (.invoking m args :: below) := ⟨_, rfl⟩
  rw [← hA] at Y
  have hvm : s'.vm = s.vm := by rw [hA]; rfl
  have hhp : s'.heap = H := by rw [hA]; exact hT
  have hW0 : s.WarmedH s'.vm := by rw [hvm]; exact State.WarmedH.refl s
  have hat' : ∀ w ∈ vx_atS own ic cls names, w.before args s' = true := fun w hw => vx_ot_at hW0 hvm.symm (hgood w (List.mem_cons_of_mem _ (List.mem_cons_of_mem _ hw))) (hat w hw)
  have hk' : (Cond.classLink own ik cls).before args s' = true := vx_ot_at hW0 hvm.symm (hgood _ List.mem_cons_self) hk
  have hini' : (Cond.initialized cls).before args s' = true := vx_ot_at hW0 hvm.symm (hgood _ (List.mem_cons_of_mem _ List.mem_cons_self)) hini
  have hU' : vx_Zq Bundle.tN "UNASSIGNED_STACK" Bundle.steD A s' s'.heap := by rw [hhp]; exact vx_Zq.moved hW0.alike (hU.kept hS.2.1)
  have hN' : vx_Zq Bundle.tN "SUPPRESSED_SENTINEL" Bundle.listD A s' s'.heap := by rw [hhp]; exact vx_Zq.moved hW0.alike (hN.kept hS.2.1)
  have h : ∀ w ∈ Bundle.ownAtoms own ic cls names, w.before args s' = true := vx_own hat' (vx_isRefq hU'.1) (vx_isRefq hN'.1) hU'.2.word hN'.2.word
  have hown' : s'.vm.findClass own = some m.cls := by rw [hvm]; exact hown
  have hins : (Cond.instantiable cls 6).before args s' = true := h _ (by simp [Bundle.ownAtoms])
  obtain ⟨vm₁, cX, kX, hfX, hkX, -, -, X₁, st1⟩ := Y.newCold hexec (own := own) (C := cls) (index := ik) (n := 6) hown' hk' hins hini'
    (g := F0 m pc ls rest) rfl (by rw [hb]; exact d0) (Nat.le_refl _) (Nat.le_refl _)
  generalize hT1 : (T.setVm vm₁).pushCell { cls := cX, slots := kX.instanceTypes.map defaultValue, vm := .none } = T1 at X₁ st1
  have hcat : (Value.ref T.heap.size).category = 1 := rfl
  have hcellA : T1.heap[T.heap.size]? = some (freshCell cX kX) := by rw [← hT1]; exact State.heap_pushCell_size _ _
  have d3' : decode c.code (pc + 3) = .ok (.dup, 1) := by rw [hb]; exact d3
  have d4' : decode c.code (pc + 4) = .ok (.ldc is, 2) := by rw [hb]; exact d4
  have hstr' : vk_R own is text sa s' := vk_R.warm hW0 hstr
  obtain ⟨U, hsteps, hrun, hend, hW, hsame, ce, hce, hO⟩ := X₁.ctorThrowS hexec htr (own := own) (cls := cls) (names := names) (ic := ic) hown' hcls hnames h (fun x hx => nomatch hx) hfX hkX hcellA (by rw [hhp, hT]; exact Nat.le_refl _) (msg := .ref sa) rfl
    (g := { method := m, pc := pc + 6, locals := ls, stack := .ref sa :: .ref T.heap.size :: .ref T.heap.size :: rest, locked := none }) rfl hsize rfl rfl (rest := rest) rfl
    (by rw [hb]; exact d6) (by rw [hb]; exact d9) hout hRframes (by simp only [List.map_cons, List.sum_cons, hcat]; omega) hlocks
  obtain ⟨f1, f2⟩ := vx_frame hsame
  rw [hhp] at f1 f2
  have hWs : s.WarmedH U.vm := State.WarmedH.trans hW0 hW
  have hcl : s.vm.findClass cls = some ce.cls := by
    have h9 := hO.cls
    rw [hvm] at h9
    exact h9
  have hall : s.sameButNew ({ U with vm := s.vm } : State) locs mc ms := by
    subst hA
    obtain ⟨e1, e2⟩ := hsame
    rw [State.setFrames_setFrames] at e1
    have h2 : (T.setVm s.vm).sameButNew ({ U with vm := s.vm } : State) [] (0 + 1) (0 + 6) := ⟨e1, e2⟩
    have h3 := X.same.trans h2
    rw [List.append_nil] at h3
    exact h3.mono hc hs
  refine ⟨U, ?_, .threw T.heap.size, hrun, hend, Or.inr ⟨T.heap.size, rfl, cls, ce, locs, hx U hWs.alike f1 (fun q hq => f2 q hq (fun z hz => nomatch hz)), hce, hO.vm, hcl, hWs, hall, hf⟩⟩
  refine st1 _ ?_
  show Steps p.tables e below (T1.setTop { method := m, pc := pc + 3, locals := ls, stack := .ref T.heap.size :: rest, locked := none }) _
  jvm_step X₁.here [X₁.here.top, hexec, d3', Value.category]
  exact X₁.ldcString hexec (own := own) (text := text) (index := is) (a := sa) hown' hstr'.1 hstr'.2
    (g := { method := m, pc := pc + 4, locals := ls, stack := .ref T.heap.size :: .ref T.heap.size :: rest, locked := none }) rfl d4' _ hsteps
/-- 'throw new E("text")', the text by a wide index -/
theorem vx_throwSW {cc : ByteArray} {pc : Nat} (hexec : p.tables.exec = Jvm.exec) (hb : c.code = cc) (hl : l.stackTraces = false) {own cls text : String} {names : List String} {ik is ic mc ms sa : Nat} {A : Nat → Prop}
    (hown : s.vm.findClass own = some m.cls) (hcls : Bundle.fit cls = true) (hnames : ∀ n ∈ names, Bundle.fit n = true)
    (hk : (Cond.classLink own ik cls).before args s = true) (hini : (Cond.initialized cls).before args s = true) (hstr : vk_R own is text sa s) (hat : ∀ w ∈ vx_atS own ic cls names, w.before args s = true)
    (hgood : ∀ w ∈ Cond.classLink own ik cls :: Cond.initialized cls :: vx_atS own ic cls names, vx_ot w = true)
    (hU : vx_Zq Bundle.tN "UNASSIGNED_STACK" Bundle.steD A s s.heap) (hN : vx_Zq Bundle.tN "SUPPRESSED_SENTINEL" Bundle.listD A s s.heap) (hS : va_S A s.heap H locs) (hsize : ls.size = c.maxLocals)
    (d0 : decode cc pc = .ok (.new ik, 3)) (d3 : decode cc (pc + 3) = .ok (.dup, 1)) (d4 : decode cc (pc + 4) = .ok (.ldc_w is, 3)) (d7 : decode cc (pc + 7) = .ok (.invokespecial ic, 3)) (d10 : decode cc (pc + 10) = .ok (.athrow, 1))
    (hout : ∀ x ∈ c.exceptionTable.toList, covers x (pc + 10) = false)
    (hRframes : names.length + 3 < R.frames) (hRlocals : (rest.map fun v => v.category).sum + (13 * (names.length + 1) + 43) ≤ R.locals) (hRcells : cells + 1 ≤ R.cells) (hRslots : slots + 6 ≤ R.slots) (hlocks : meth.locks = false)
    (hx : ∀ t : State, s.vm.Alike t.vm → H.size ≤ t.heap.size → (∀ q : Nat, q < H.size → t.heap[q]? = H[q]?) → XC cls s t)
    (hf : ∀ z ∈ locs, free z.base) (hc : cells + 1 ≤ mc) (hs : slots + 6 ≤ ms) :
    W p l e R s m args below meth c H locs cells slots (vx_MQ below Qc XC args s mc ms free) (F0 m pc ls rest) := by
  intro T hT X
  have htr : e.platform.stackTraces = false := (show e.platform.stackTraces = l.stackTraces by rw [X.admits.platform]).trans hl
  have Y := vx_rebase X (R' := { frames := R.frames, locals := R.locals, cells := 1, slots := 6 }) (Nat.le_refl _) (Nat.le_refl _) hRcells hRslots
  obtain ⟨s', hA⟩ : ∃ z, z = (T.setVm s.vm).setFrames (.invoking m args :: below) := ⟨_, rfl⟩
  rw [← hA] at Y
  have hvm : s'.vm = s.vm := by rw [hA]; rfl
  have hhp : s'.heap = H := by rw [hA]; exact hT
  have hW0 : s.WarmedH s'.vm := by rw [hvm]; exact State.WarmedH.refl s
  have hat' : ∀ w ∈ vx_atS own ic cls names, w.before args s' = true := fun w hw => vx_ot_at hW0 hvm.symm (hgood w (List.mem_cons_of_mem _ (List.mem_cons_of_mem _ hw))) (hat w hw)
  have hk' : (Cond.classLink own ik cls).before args s' = true := vx_ot_at hW0 hvm.symm (hgood _ List.mem_cons_self) hk
  have hini' : (Cond.initialized cls).before args s' = true := vx_ot_at hW0 hvm.symm (hgood _ (List.mem_cons_of_mem _ List.mem_cons_self)) hini
  have hU' : vx_Zq Bundle.tN "UNASSIGNED_STACK" Bundle.steD A s' s'.heap := by rw [hhp]; exact vx_Zq.moved hW0.alike (hU.kept hS.2.1)
  have hN' : vx_Zq Bundle.tN "SUPPRESSED_SENTINEL" Bundle.listD A s' s'.heap := by rw [hhp]; exact vx_Zq.moved hW0.alike (hN.kept hS.2.1)
  have h : ∀ w ∈ Bundle.ownAtoms own ic cls names, w.before args s' = true := vx_own hat' (vx_isRefq hU'.1) (vx_isRefq hN'.1) hU'.2.word hN'.2.word
  have hown' : s'.vm.findClass own = some m.cls := by rw [hvm]; exact hown
  have hins : (Cond.instantiable cls 6).before args s' = true := h _ (by simp [Bundle.ownAtoms])
  obtain ⟨vm₁, cX, kX, hfX, hkX, -, -, X₁, st1⟩ := Y.newCold hexec (own := own) (C := cls) (index := ik) (n := 6) hown' hk' hins hini'
    (g := F0 m pc ls rest) rfl (by rw [hb]; exact d0) (Nat.le_refl _) (Nat.le_refl _)
  generalize hT1 : (T.setVm vm₁).pushCell { cls := cX, slots := kX.instanceTypes.map defaultValue, vm := .none } = T1 at X₁ st1
  have hcat : (Value.ref T.heap.size).category = 1 := rfl
  have hcellA : T1.heap[T.heap.size]? = some (freshCell cX kX) := by rw [← hT1]; exact State.heap_pushCell_size _ _
  have d3' : decode c.code (pc + 3) = .ok (.dup, 1) := by rw [hb]; exact d3
  have d4' : decode c.code (pc + 4) = .ok (.ldc_w is, 3) := by rw [hb]; exact d4
  have hstr' : vk_R own is text sa s' := vk_R.warm hW0 hstr
  obtain ⟨U, hsteps, hrun, hend, hW, hsame, ce, hce, hO⟩ := X₁.ctorThrowS hexec htr (own := own) (cls := cls) (names := names) (ic := ic) hown' hcls hnames h (fun x hx => nomatch hx) hfX hkX hcellA (by rw [hhp, hT]; exact Nat.le_refl _) (msg := .ref sa) rfl
    (g := { method := m, pc := pc + 7, locals := ls, stack := .ref sa :: .ref T.heap.size :: .ref T.heap.size :: rest, locked := none }) rfl hsize rfl rfl (rest := rest) rfl
    (by rw [hb]; exact d7) (by rw [hb]; exact d10) hout hRframes (by simp only [List.map_cons, List.sum_cons, hcat]; omega) hlocks
  obtain ⟨f1, f2⟩ := vx_frame hsame
  rw [hhp] at f1 f2
  have hWs : s.WarmedH U.vm := State.WarmedH.trans hW0 hW
  have hcl : s.vm.findClass cls = some ce.cls := by
    have h9 := hO.cls
    rw [hvm] at h9
    exact h9
  have hall : s.sameButNew ({ U with vm := s.vm } : State) locs mc ms := by
    subst hA
    obtain ⟨e1, e2⟩ := hsame
    rw [State.setFrames_setFrames] at e1
    have h2 : (T.setVm s.vm).sameButNew ({ U with vm := s.vm } : State) [] (0 + 1) (0 + 6) := ⟨e1, e2⟩
    have h3 := X.same.trans h2
    rw [List.append_nil] at h3
    exact h3.mono hc hs
  refine ⟨U, ?_, .threw T.heap.size, hrun, hend, Or.inr ⟨T.heap.size, rfl, cls, ce, locs, hx U hWs.alike f1 (fun q hq => f2 q hq (fun z hz => nomatch hz)), hce, hO.vm, hcl, hWs, hall, hf⟩⟩
  refine st1 _ ?_
  show Steps p.tables e below (T1.setTop { method := m, pc := pc + 3, locals := ls, stack := .ref T.heap.size :: rest, locked := none }) _
  jvm_step X₁.here [X₁.here.top, hexec, d3', Value.category]
  exact X₁.ldcStringW hexec (own := own) (text := text) (index := is) (a := sa) hown' hstr'.1 hstr'.2
    (g := { method := m, pc := pc + 4, locals := ls, stack := .ref T.heap.size :: .ref T.heap.size :: rest, locked := none }) rfl d4' _ hsteps
end Ends
section Bodies
variable {l : Launch}
theorem vx_ofW {y : MethodName} {ws ws' : List Cond} {rm : Room} {Pc : Array Value → State → Prop} {Qc : Array Value → State → Outcome → State → Prop} {XC : String → State → State → Prop} {mc ms : Nat} {free : Addr → Prop} {cc : ByteArray} {maxL : Nat} {ret : Option FieldType}
    (hy : plainName y.cls = true) (hw : ws = Cond.code y cc maxL ret :: ws')
    (body : ∀ p e s m args below meth c s₁, BodyLoose p l y (headSpec ws rm) cc maxL ret e s m args below meth c s₁ → c.maxLocals = maxL → (∀ x ∈ c.exceptionTable.toList, False) → Pc args s →
      W p l e (headSpec ws rm).room s m args below meth c s.heap [] 0 0 (vx_MQ below Qc XC args s mc ms free) (entryFrame m args maxL)) : vx_Met l y ws rm Pc Qc XC mc ms free := by
  refine MetFree.of_bodyS (code := cc) (maxLocals := maxL) (ret := ret) hy ?_ ?_
  · intro args s m h hn
    obtain ⟨meth, c, h1, h2, h3, h4, h5, h6, -, -⟩ := Cond.code_spec hn (atoms_spec (ws := ws) h _ (by rw [hw]; exact List.mem_cons_self))
    exact ⟨meth, c, h1, h2, h3, h4, h5, h6⟩
  · intro p e s m args below meth c s₁ B hml hP _
    have hh0 : s₁.heap = s.heap := by rw [B.state]; rfl
    have ht : ∀ x ∈ c.exceptionTable.toList, False := by
      obtain ⟨meth9, c9, h1, h2, -, -, -, -, h7, -⟩ := Cond.code_spec B.named (atoms_spec (ws := ws) B.pre _ (by rw [hw]; exact List.mem_cons_self))
      cases Option.some.inj (h1.symm.trans B.method)
      cases Option.some.inj (h2.symm.trans (Stand.of_body B).code)
      intro x hx
      rw [Array.isEmpty_iff.mp h7] at hx
      cases hx
    obtain ⟨t, a1, o, b1, b2, b3⟩ := body p e s m args below meth c s₁ B hml ht hP s₁ hh0 (Stand.of_body B)
    exact ⟨t, o, a1, b1, b2, b3⟩
/-- the table of a body with handlers -/
theorem vx_table {p : Program} {x y : MethodName} {S : Spec} {cc bytes : ByteArray} {maxL maxL' : Nat} {ret ret' : Option FieldType} {e : Env} {s s₁ : State} {m : MethodId} {args : Array Value} {below : List Frame} {meth : Method} {c : Code} {hh : List (Nat × Nat × Nat × Nat)}
    (B : BodyLoose p l y S cc maxL ret e s m args below meth c s₁) (h : (Cond.codeWith y bytes maxL' ret' hh).before args s = true) : c.exceptionTable.toList = tableOf hh := by
  obtain ⟨m9, meth9, c9, hn9, h1, h2, -, -, h6, -⟩ := Cond.codeWith_spec h
  cases Option.some.inj (hn9.symm.trans B.named)
  cases Option.some.inj (h1.symm.trans B.method)
  cases Option.some.inj (h2.symm.trans (Stand.of_body B).code)
  rw [← h6, table_eq]
end Bodies
end VXA
/-! ===== END ===== -/
/-! ===== BEGIN a static call of a method with an exception table ===== -/
section VXS
variable {p : Program} {l : Launch} {e : Env} {R : Room} {s : State} {m : MethodId} {args : Array Value} {below : List Frame} {meth : Method} {c : Code} {T : State} {H : Heap} {locs : List Loc} {cells slots : Nat}
abbrev vx_CSW (R : Room) (s : State) (args : Array Value) (own : String) (index : Nat) (y : MethodName) (bytes : ByteArray) (maxL : Nat) (ret : Option FieldType) (hh : List (Nat × Nat × Nat × Nat)) (ws : List Cond) (rm : Room) (mc ms n : Nat) : Prop :=
  (rm.cells = mc ∧ rm.slots = ms ∧ rm.frames + 1 ≤ R.frames ∧ 8 + (maxL + 11) + rm.locals ≤ R.locals ∧ (∀ w ∈ ws, ∀ (a' : Array Value) (U : State), s.WarmedH U.vm → w.before a' U = true) ∧ Cond.codeWith y bytes maxL ret hh ∈ ws) ∧
  (Cond.codeWith y bytes maxL ret hh).before args s = true ∧ (Cond.initialized y.cls).before args s = true ∧ (y.cls ≠ "java/lang/invoke/MethodHandle" ∧ y.cls ≠ "java/lang/invoke/VarHandle") ∧
  (∀ sig, parseMethodDescriptor y.desc = some sig → n = sig.parameters.length) ∧ (Cond.methodLink own index y).before args s = true ∧ (Cond.static y).before args s = true
theorem vx_cwSW {own : String} {index maxL mc ms : Nat} {y : MethodName} {bytes : ByteArray} {ret : Option FieldType} {hh : List (Nat × Nat × Nat × Nat)} {Ts ws ws' : List Cond} {rm : Room} (n : Nat) (ht : ∀ w ∈ Ts, w.before args s = true) (hT : GoodIn Ts (va_wsS own index y ws)) (hw : ws = Cond.codeWith y bytes maxL ret hh :: ws') (hrc : rm.cells = mc) (hrs : rm.slots = ms)
    (hd : y.cls ≠ "java/lang/invoke/MethodHandle" ∧ y.cls ≠ "java/lang/invoke/VarHandle" ∧ (parseMethodDescriptor y.desc).map (fun d => d.parameters.length) = some n) (hR : rm.frames + 1 ≤ R.frames ∧ 8 + (maxL + 11) + rm.locals ≤ R.locals) :
    vx_CSW R s args own index y bytes maxL ret hh ws rm mc ms n := by
  have ok : ∀ w ∈ va_wsS own index y ws, w.before args s = true := fun w h => ht w (hT w h).1
  have hG : GoodIn Ts ws := fun w h => hT w (by unfold va_wsS; exact List.mem_append_right _ h)
  have hc : Cond.codeWith y bytes maxL ret hh ∈ ws := by rw [hw]; exact List.mem_cons_self
  refine ⟨⟨hrc, hrs, hR.1, hR.2, pay_in ht hG, hc⟩, ht _ (hG _ hc).1, ok _ (by simp [va_wsS]), ⟨hd.1, hd.2.1⟩, fun sig h => ?_, ok _ (by simp [va_wsS]), ok _ (by simp [va_wsS])⟩
  have h2 := hd.2.2
  rw [h] at h2
  exact (Option.some.inj h2).symm
theorem vx_callSW (X : Stand p l e R s m args below meth c T locs cells slots) (hexec : p.tables.exec = Jvm.exec) {own : String} {index : Nat} {y : MethodName} {bytes : ByteArray} {maxL : Nat} {ret : Option FieldType} {hh : List (Nat × Nat × Nat × Nat)}
    (hown : s.vm.findClass own = some m.cls) (hlink : (Cond.methodLink own index y).before args s = true) (hstat : (Cond.static y).before args s = true) (hinit : (Cond.initialized y.cls).before args s = true)
    (hcode : (Cond.codeWith y bytes maxL ret hh).before args s = true) (hy : y.cls ≠ "java/lang/invoke/MethodHandle" ∧ y.cls ≠ "java/lang/invoke/VarHandle")
    {W9 : Nat} {Pre : Pt → Array Value → Prop} {Post : Pt → Array Value → Option Value → Pt → Prop} (hK : Back l R p e below s args y 3 W9 Pre Post)
    {g : JFrame} (hg : g.method = m) (hsize : g.locals.size = c.maxLocals) {argsL rest : List Value} (hlen : ∀ sig, parseMethodDescriptor y.desc = some sig → argsL.length = sig.parameters.length)
    (hstack : g.stack = argsL.reverse ++ rest) (hW : 2 * g.monitorRoom + (rest.map fun v => v.category).sum ≤ W9) (hdg : decode c.code g.pc = .ok (.invokestatic index, 3))
    (hpre : ∀ vm₁, s.WarmedH vm₁ → Pre ⟨T.setVm vm₁, locs, cells, slots⟩ argsL.toArray) :
    ∃ (v : Option Value) (vm₁ : Vm) (B : Pt), s.WarmedH vm₁ ∧ Stand p l e R s m args below meth c B.U B.locs B.cells B.slots ∧ Post ⟨T.setVm vm₁, locs, cells, slots⟩ argsL.toArray v B ∧
      ∀ target, Steps p.tables e below (B.U.setTop { g with pc := g.pc + 3, stack := v.toList ++ rest }) target → Steps p.tables e below (T.setTop g) target := by
  obtain ⟨mk, methM, cM, hnamed, hmethM, -, -, -, -, -, -, hsigM⟩ := Cond.codeWith_spec hcode
  have hstatic : methM.isStatic = true := Cond.static_spec hnamed hmethM hstat
  obtain ⟨kP, hkP, -⟩ := className_of_methodNamed hnamed
  have hinitP : kP.init = .initialized := Cond.initialized_spec (findClass_of_methodNamed hnamed) hkP hinit
  obtain ⟨vm₁, X₁, hstep₁⟩ := X.invokestatic hexec hown hlink hnamed hmethM hstatic hkP hinitP hy (g := g) hg (argsL := argsL) (rest := rest) (hlen _ hsigM) hstack hdg
  obtain ⟨v, B, X', hpost, hsteps⟩ := hK m meth c ⟨T.setVm vm₁, locs, cells, slots⟩ { g with stack := rest } (.invokestatic index) mk argsL.toArray X₁ hg hsize hdg hW (X₁.named hnamed) (hpre vm₁ X₁.warmed)
  exact ⟨v, vm₁, B, X₁.warmed, X', hpost, fun target h => hstep₁ _ fun acts => by rw [doInvoke_state]; exact hsteps.trans h⟩
theorem vx_runSW {y : MethodName} {bytes cc : ByteArray} {maxL nL mc ms n index : Nat} {ret : Option FieldType} {hh : List (Nat × Nat × Nat × Nat)} {ws : List Cond} {rm : Room} {Pc : Array Value → State → Prop} {Qc : Array Value → State → Outcome → State → Prop} {free : Addr → Prop} {Ts : List Cond} {own : String} {As rest : List Value} {g : JFrame}
    (S : CallFix p m c cc nL s args Ts own) (hM : Met l y ws rm Pc Qc mc ms free) (cw : vx_CSW R s args own index y bytes maxL ret hh ws rm mc ms n) (hp : PreS s H Pc As)
    (hg : g.method = m) (hn : As.length = n) (hsize : g.locals.size = nL) (hstack : g.stack = As.reverse ++ rest) (hW : 2 * g.monitorRoom + (rest.map fun v => v.category).sum ≤ 8) (hdg : decode cc g.pc = .ok (.invokestatic index, 3)) (hf : cells + mc ≤ R.cells ∧ slots + ms ≤ R.slots) :
    va_Run p l e R s m args below meth c H locs cells slots mc ms g rest (Qc As.toArray) (free) := by
  obtain ⟨⟨hrc, hrs, hfr, hlo, hws, hcw⟩, hcode, hini, hy, hlen, hl, hstt⟩ := cw
  have hK : Back l R p e below s args y 3 8 (PreOf R mc ms Pc) (PostOf Qc mc ms free) := va_backW (hh := hh) (bytes := bytes) (maxL := maxL) (ret := ret) hM hp.1 hrc hrs hfr hlo hws hcw (fun a' U hW => word_at hW (Or.inl (by first | rfl | simp [Cond.onTables, Cond.keeps, Cond.steady])) hini)
  obtain ⟨hx, hb, hml, ho, -⟩ := S
  intro T hT X
  obtain ⟨v, vm₁, ⟨U', l2, c2, s2⟩, hW₁, X', ⟨g', mk, t, L, e1, e2, hq, h1, hL, h2, h3⟩, st⟩ := vx_callSW X hx (hh := hh) (bytes := bytes) (maxL := maxL) (ret := ret) ho hl hstt hini hcode hy hK hg (hsize.trans hml.symm) (argsL := As) (rest := rest) (fun sig h => hn.trans (hlen sig h)) hstack hW (by rw [hb]; exact hdg)
    (fun vm₁ hW₁ => ⟨hf.1, hf.2, hp.2 (T.setVm vm₁) hT hW₁⟩)
  dsimp only [Pt.U, Pt.locs, Pt.cells, Pt.slots] at X' e1 e2 h1 h2 h3 st
  subst h1; subst h2; subst h3
  exact ⟨v, (T.setVm vm₁).calling g' mk As.toArray, t, U', L, hT, X', hL, e1, e2, hq, st⟩
/-- not caught here, past rows that name other classes: it goes on to the caller -/
theorem vx_outP {p : Program} {l : Launch} {e : Env} {R : Room} {s : State} {m : MethodId} {args : Array Value} {below : List Frame} {meth : Method} {c : Code} {H : Heap} {locs : List Loc} {cells slots : Nat} {free : Addr → Prop} {ls : Array Slot} {rest : List Value} {Qc : Array Value → State → Outcome → State → Prop} {XC : String → State → State → Prop}
    {pc : Nat} {own E : String} {ce : Cell} {q : Addr} {mc ms : Nat} (hown : s.vm.findClass own = some m.cls) (hlocks : meth.locks = false)
    (hpass : ∀ z ∈ c.exceptionTable.toList, covers z pc = false ∨ (z.catchType ≠ 0 ∧ ∃ nm : String, (Cond.classLink own z.catchType nm).before args s = true ∧ va_Nc E nm s)) (hcell : H[q]? = some ce) (hv : ce.vm = .none) (hcl : s.vm.findClass E = some ce.cls)
    (hx : ∀ t : State, t.heap = H → s.vm.Alike t.vm → XC E s t) (hf : ∀ z ∈ locs, free z.base) (hc : cells ≤ mc) (hs : slots ≤ ms) :
    vx_W p l e R s m args below meth c H locs cells slots (vx_MQ below Qc XC args s mc ms free) (F0 m pc ls rest) q := by
  intro T hT X
  have hpl : e.platform.magicAccessors = ({} : Platform).magicAccessors := by rw [X.admits.platform]
  obtain ⟨vm', hW', X', st⟩ := X.outThrough hlocks q (g := F0 m pc ls rest) rfl rfl rfl (cell := ce) (by rw [hT]; exact hcell) (by rw [hv]; rfl)
    (by obtain ⟨k9, h9, -⟩ := Vm.findClass_spec hcl; exact ⟨k9, h9⟩) (fun z hz => by
      rcases hpass z hz with h | ⟨hz0, nm, hl1, hn1⟩
      · exact Or.inl h
      · obtain ⟨c6, hc6, hcl6⟩ := Cond.classLink_spec hown hl1 e.platform hpl
        obtain ⟨a8, b8, h1, h2, h3⟩ := hn1
        cases Option.some.inj (h1.symm.trans hcl)
        cases Option.some.inj (h2.symm.trans hc6)
        exact Or.inr ⟨hz0, _, hcl6, h3⟩)
  obtain ⟨g₀, hfr⟩ := X'.frames_eq
  have hcell9 : ((T.setVm vm').setFrames (.throwing q :: below)).heap[q]? = some ce := by
    show T.heap[q]? = some ce
    rw [hT]; exact hcell
  have hend : Ended ((T.setVm vm').setFrames (.throwing q :: below)) below (.threw q) := State.frames_setFrames _ (State.cur_lt_of_frames hfr)
  refine ⟨(T.setVm vm').setFrames (.throwing q :: below), ?_, .threw q, X'.here.running, hend, Or.inr ⟨q, rfl, E, ce, locs, hx _ hT (X'.ends _).1.alike, hcell9, hv, hcl, (X'.ends _).1, (X'.ends _).2.mono hc hs, hf⟩⟩
  rw [X.pushThrowing_eq]
  exact st
/-- a thing of a world lies in the heap -/
theorem vx_lt {D : va_G} {cl : List vw_C} {ws : va_W} {H1 : Heap} (h : va_P D cl ws H1) {k : Nat} {q : Nat × va_E} (hk : ws[k]? = some q) : q.1 < H1.size := (h k q hk).lt
end VXS
/-! ===== END ===== -/
/-! ===== BEGIN methods with a table of their own: called by a name, returning or throwing ===== -/
section VXH
/-! vx_backW, vx_callVX, vx_callSX, vx_callVW, vx_runVW, vx_runVX, vx_runSX, vx_ofWH follow the same proofs as their sisters above (Free/Laws.lean, Shelf42/LK1.lean); vx_outP calls Shelf42/NT130.lean (outThrough). -/
section
variable {l : Launch} {R : Room} {p : Program} {e : Env} {below : List Frame} {s : State} {sargs : Array Value} {y : MethodName} {len W9 : Nat}
theorem vx_backW {ws : List Cond} {rm : Room} {Pc : Array Value → State → Prop} {Qc : Array Value → State → Outcome → State → Prop} {XC : String → State → State → Prop} {mc ms : Nat} {free : Addr → Prop} {bytes : ByteArray} {maxL : Nat} {ret : Option FieldType} {hh : List (Nat × Nat × Nat × Nat)}
    (hM : vx_Met l y ws rm Pc Qc XC mc ms free) (hblind : FrameBlind Pc) (hrc : rm.cells = mc) (hrs : rm.slots = ms)
    (hframes : rm.frames + 1 ≤ R.frames) (hlocals : W9 + (maxL + 11) + rm.locals ≤ R.locals)
    (hws : ∀ w ∈ ws, ∀ a' U, s.WarmedH U.vm → w.before a' U = true) (hcode : Cond.codeWith y bytes maxL ret hh ∈ ws) (hinit : ∀ a' U, s.WarmedH U.vm → (Cond.initialized y.cls).before a' U = true) :
    vx_Back l R p e below s sargs y len W9 (PreOf R mc ms Pc) (PostOf Qc mc ms free) (vx_Post XC mc ms free) := by
  intro m meth c A g ig mk a X hg hsize hdg hW hn hp
  have h1 : (headSpec ws rm).pre.before a A.U = true := atoms_intro fun w hw => hws w hw _ _ X.warmed
  have h2 : (Cond.codeWith y bytes maxL ret hh).before a A.U = true := hws _ hcode _ _ X.warmed
  have h3 : (Cond.initialized y.cls).before a A.U = true := hinit _ _ X.warmed
  have h4 : A.cells + (headSpec ws rm).room.cells ≤ R.cells := by rw [show (headSpec ws rm).room.cells = mc from hrc]; exact hp.1
  have h5 : A.slots + (headSpec ws rm).room.slots ≤ R.slots := by rw [show (headSpec ws rm).room.slots = ms from hrs]; exact hp.2.1
  have hPc : Pc a (A.U.calling g mk a) := hblind _ _ _ _ hp.2.2
  obtain ⟨U, Ls, c0, s0⟩ := A
  dsimp only [Pt.U, Pt.locs, Pt.cells, Pt.slots] at h1 h2 h3 h4 h5 X hn hPc ⊢
  obtain ⟨m9, methY, cY, hn9, hmY, hcY, -, hlY, -⟩ := Cond.codeWith_spec h2
  cases Option.some.inj (hn9.symm.trans hn)
  obtain ⟨kY, hkY, -⟩ := className_of_methodNamed hn
  have hinitY : kY.init = .initialized := Cond.initialized_spec (findClass_of_methodNamed hn) hkY h3
  have h : At U g.method c below := by rw [hg]; exact X.here
  have hlocals9 : W9 + (maxL + 11) + (headSpec ws rm).room.locals ≤ R.locals := hlocals
  have happ : (headSpec ws rm).appliesLoose y e.platform (U.calling g mk a) = true :=
    Spec.appliesLoose_calling (g := g) h hdg hn hkY hinitY
      (X.room_calling (g := g) (R' := (headSpec ws rm).room) hsize hmY hcY hframes (by rw [hlY]; omega) h4 h5) h1
  obtain ⟨mid, hmid⟩ := h.above
  have hfr : (U.setTop g).frames = (.java g :: mid) ++ below := by rw [State.frames_setTop' g h.top, hmid]; rfl
  obtain ⟨o, s₂, hsteps, -, hend, hq⟩ := Steps.callFree hM p X.admits X.cas X.clock (acts := []) hfr happ hPc trivial
  have hq' : vx_Q Qc XC mc ms free a (U.calling g mk a) o s₂ := hq
  rw [State.frames_setTop' g h.top] at hend
  obtain ⟨g₀, hg0⟩ := Option.isSome_iff_exists.mp h.top
  obtain ⟨r, hr⟩ := State.topJava?_eq_some.mp hg0
  have hr' : (({ U with heap := s₂.heap, slotsUsed := s₂.slotsUsed } : State).setVm s₂.vm).frames = .java g₀ :: r := hr
  rcases hq' with ⟨hqc, L, hfe, hL⟩ | ⟨q, rfl, E, ce, L, hx, hce, hcv, hcl, hW₂, hsm, hL⟩
  · obtain ⟨⟨v, rfl⟩, hW₂, e2, q2, q3, q4, q5, q6⟩ := id hfe
    have e3 : s₂ = ({ (U.calling g mk a).setFrames s₂.frames with heap := s₂.heap, slotsUsed := s₂.slotsUsed } : State).setVm s₂.vm := by
      have : s₂ = ({ s₂ with vm := (U.calling g mk a).vm } : State).setVm s₂.vm := rfl
      rw [e2] at this
      exact this
    obtain ⟨c₂, i₂, len₂, hc₂, hd₂, hf₂⟩ := hend
    have hW' : U.WarmedH s₂.vm := hW₂
    have hcc : c₂ = c := by
      have h1 : s₂.code? g.method = U.code? g.method := by
        rw [State.code?_eq, State.code?_eq, hW'.alike.method?]
      exact Option.some.inj (hc₂.symm.trans (h1.trans h.code))
    subst hcc
    have hlen : len₂ = len := by rw [hdg] at hd₂; cases hd₂; rfl
    subst hlen
    have hs₂ : s₂ = (({ U with heap := s₂.heap, slotsUsed := s₂.slotsUsed } : State).setVm s₂.vm).setTop { g with pc := g.pc + len₂, stack := v.toList ++ g.stack } := by
      refine e3.trans ?_
      rw [hf₂, State.calling_eq h.top, State.setFrames_setFrames, State.setTop_of_frames _ hr', hr]
      rfl
    have hsame : U.sameButNew ({ U with heap := s₂.heap, slotsUsed := s₂.slotsUsed } : State) L mc ms := by
      refine ⟨?_, q2, q3, q4, q5, q6⟩
      obtain ⟨t, ht, -⟩ := State.frames_cons hr
      show ({ U with heap := s₂.heap, slotsUsed := s₂.slotsUsed } : State) = { U.setFrames U.frames with heap := s₂.heap, slotsUsed := s₂.slotsUsed }
      rw [State.setFrames_self ht]
    subst hg
    refine Or.inl ⟨v, ⟨(({ U with heap := s₂.heap, slotsUsed := s₂.slotsUsed } : State).setVm s₂.vm), Ls ++ L, c0 + mc, s0 + ms⟩,
      ⟨X.admits, X.cas, X.clock, X.frames, X.room, X.hears, X.method, X.code, (X.here.setHeapUsed s₂.heap s₂.slotsUsed).setVm hW'.alike, X.tail, State.WarmedH.trans X.warmed hW', X.limits, X.bytes, X.same.trans (hsame.setVm s.vm)⟩,
      ⟨g, mk, s₂, L, rfl, rfl, hqc, rfl, hL, rfl, rfl⟩, ?_⟩
    show Steps p.tables e below _ ((({ U with heap := s₂.heap, slotsUsed := s₂.slotsUsed } : State).setVm s₂.vm).setTop { g with pc := g.pc + len₂, stack := v.toList ++ g.stack })
    rw [← hs₂]
    exact hsteps
  · obtain ⟨e2, q2, q3, q4, q5, q6⟩ := id hsm
    have e3 : s₂ = ({ (U.calling g mk a).setFrames s₂.frames with heap := s₂.heap, slotsUsed := s₂.slotsUsed } : State).setVm s₂.vm := by
      have : s₂ = ({ s₂ with vm := (U.calling g mk a).vm } : State).setVm s₂.vm := rfl
      rw [e2] at this
      exact this
    have hf₂ : s₂.frames = .throwing q :: .java g :: U.frames.tail := hend
    have hW' : U.WarmedH s₂.vm := hW₂
    have hs₂ : s₂ = ((({ U with heap := s₂.heap, slotsUsed := s₂.slotsUsed } : State).setVm s₂.vm).setTop g).pushFrame (.throwing q) := by
      refine e3.trans ?_
      rw [hf₂, State.calling_eq h.top, State.setFrames_setFrames, State.pushFrame, State.frames_setTop _ hr', State.setTop_of_frames _ hr', State.setFrames_setFrames, hr]
      rfl
    have hsame : U.sameButNew ({ U with heap := s₂.heap, slotsUsed := s₂.slotsUsed } : State) L mc ms := by
      refine ⟨?_, q2, q3, q4, q5, q6⟩
      obtain ⟨t, ht, -⟩ := State.frames_cons hr
      show ({ U with heap := s₂.heap, slotsUsed := s₂.slotsUsed } : State) = { U.setFrames U.frames with heap := s₂.heap, slotsUsed := s₂.slotsUsed }
      rw [State.setFrames_self ht]
    subst hg
    refine Or.inr ⟨q, ⟨(({ U with heap := s₂.heap, slotsUsed := s₂.slotsUsed } : State).setVm s₂.vm), Ls ++ L, c0 + mc, s0 + ms⟩,
      ⟨X.admits, X.cas, X.clock, X.frames, X.room, X.hears, X.method, X.code, (X.here.setHeapUsed s₂.heap s₂.slotsUsed).setVm hW'.alike, X.tail, State.WarmedH.trans X.warmed hW', X.limits, X.bytes, X.same.trans (hsame.setVm s.vm)⟩,
      ⟨g, mk, s₂, L, E, ce, rfl, rfl, hx, hce, hcv, hcl, rfl, hL, rfl, rfl⟩, ?_⟩
    show Steps p.tables e below _ (((({ U with heap := s₂.heap, slotsUsed := s₂.slotsUsed } : State).setVm s₂.vm).setTop g).pushFrame (.throwing q))
    rw [← hs₂]
    exact hsteps
end
variable {p : Program} {l : Launch} {e : Env} {R : Room} {s : State} {m : MethodId} {args : Array Value} {below : List Frame} {meth : Method} {c : Code} {T : State} {H : Heap} {locs : List Loc} {cells slots : Nat}
theorem vx_callVX (X : Stand p l e R s m args below meth c T locs cells slots) (hexec : p.tables.exec = Jvm.exec) {own C : String} {index : Nat} {y : MethodName} {bytes : ByteArray} {maxL : Nat} {ret : Option FieldType} {hh : List (Nat × Nat × Nat × Nat)}
    (hown : s.vm.findClass own = some m.cls) (hlink : (Cond.methodLink own index y).before args s = true) (hinst : (Cond.instanceMethod y).before args s = true) (hsel : (Cond.selects C y y).before args s = true)
    (hcode : (Cond.codeWith y bytes maxL ret hh).before args s = true) (hy : y.cls ≠ "java/lang/invoke/MethodHandle" ∧ y.cls ≠ "java/lang/invoke/VarHandle")
    {W9 : Nat} {Pre : Pt → Array Value → Prop} {Post : Pt → Array Value → Option Value → Pt → Prop} {PostX : Pt → Array Value → Addr → Pt → Prop} (hK : vx_Back l R p e below s args y 3 W9 Pre Post PostX)
    {b : Addr} {cellB : Cell} (hcell : T.heap[b]? = some cellB) (hobj : cellB.vm.isStatics = false) (hcls : s.vm.findClass C = some cellB.cls)
    {g : JFrame} (hg : g.method = m) (hsize : g.locals.size = c.maxLocals) {argsL rest : List Value} (hlen : ∀ sig, parseMethodDescriptor y.desc = some sig → argsL.length = sig.parameters.length)
    (hstack : g.stack = argsL.reverse ++ .ref b :: rest) (hW : 2 * g.monitorRoom + (rest.map fun v => v.category).sum ≤ W9) (hdg : decode c.code g.pc = .ok (.invokevirtual index, 3))
    (hpre : ∀ vm₁, s.WarmedH vm₁ → Pre ⟨T.setVm vm₁, locs, cells, slots⟩ (Value.ref b :: argsL).toArray) :
    (∃ (v : Option Value) (vm₁ : Vm) (B : Pt), s.WarmedH vm₁ ∧ Stand p l e R s m args below meth c B.U B.locs B.cells B.slots ∧ Post ⟨T.setVm vm₁, locs, cells, slots⟩ (Value.ref b :: argsL).toArray v B ∧
      ∀ target, Steps p.tables e below (B.U.setTop { g with pc := g.pc + 3, stack := v.toList ++ rest }) target → Steps p.tables e below (T.setTop g) target) ∨
    (∃ (q : Addr) (vm₁ : Vm) (B : Pt), s.WarmedH vm₁ ∧ Stand p l e R s m args below meth c B.U B.locs B.cells B.slots ∧ PostX ⟨T.setVm vm₁, locs, cells, slots⟩ (Value.ref b :: argsL).toArray q B ∧
      Steps p.tables e below (T.setTop g) ((B.U.setTop { g with stack := rest }).pushFrame (.throwing q))) := by
  obtain ⟨mk, methM, hnamed, hmethM, hstM, habM⟩ := Cond.instanceMethod_spec hinst
  obtain ⟨m8, methM', cM, hn8, hmethM', -, -, -, -, -, -, hsigM⟩ := Cond.codeWith_spec hcode
  cases Option.some.inj (hn8.symm.trans hnamed)
  cases hmethM.symm.trans hmethM'
  obtain ⟨c2, r2, m2, q1, q2, q3, q4, kP, hkP, hkPi⟩ := Cond.selects_spec hsel
  cases hcls.symm.trans q1
  cases (State.methodFound?_of_named hnamed hy).symm.trans q2
  cases hnamed.symm.trans q3
  have hselP : selectMethod e.platform s.vm cellB.cls mk = .method mk := by rw [Launch.admits_selectMethod X.admits]; exact q4
  obtain ⟨vm₁, X₁, hstep₁⟩ := X.invokevirtual hexec hown hlink hnamed hmethM hstM hkP hkPi hy (a := b) (cell := cellB) hcell
    (fun z h => by rw [h] at hobj; cases hobj) hselP hmethM habM hkP hkPi (g := g) hg (argsL := argsL) (rest := rest) (hlen _ hsigM) hstack hdg
  rcases hK m meth c ⟨T.setVm vm₁, locs, cells, slots⟩ { g with stack := rest } (.invokevirtual index) mk (Value.ref b :: argsL).toArray X₁ hg hsize hdg hW (X₁.named hnamed) (hpre vm₁ X₁.warmed) with ⟨v, B, X', hpost, hsteps⟩ | ⟨q, B, X', hpost, hsteps⟩
  · exact Or.inl ⟨v, vm₁, B, X₁.warmed, X', hpost, fun target h => hstep₁ _ fun acts => by rw [doInvoke_state]; exact hsteps.trans h⟩
  · exact Or.inr ⟨q, vm₁, B, X₁.warmed, X', hpost, hstep₁ _ fun acts => by rw [doInvoke_state]; exact hsteps⟩
theorem vx_callSX (X : Stand p l e R s m args below meth c T locs cells slots) (hexec : p.tables.exec = Jvm.exec) {own : String} {index : Nat} {y : MethodName} {bytes : ByteArray} {maxL : Nat} {ret : Option FieldType} {hh : List (Nat × Nat × Nat × Nat)}
    (hown : s.vm.findClass own = some m.cls) (hlink : (Cond.methodLink own index y).before args s = true) (hstat : (Cond.static y).before args s = true) (hinit : (Cond.initialized y.cls).before args s = true)
    (hcode : (Cond.codeWith y bytes maxL ret hh).before args s = true) (hy : y.cls ≠ "java/lang/invoke/MethodHandle" ∧ y.cls ≠ "java/lang/invoke/VarHandle")
    {W9 : Nat} {Pre : Pt → Array Value → Prop} {Post : Pt → Array Value → Option Value → Pt → Prop} {PostX : Pt → Array Value → Addr → Pt → Prop} (hK : vx_Back l R p e below s args y 3 W9 Pre Post PostX)
    {g : JFrame} (hg : g.method = m) (hsize : g.locals.size = c.maxLocals) {argsL rest : List Value} (hlen : ∀ sig, parseMethodDescriptor y.desc = some sig → argsL.length = sig.parameters.length)
    (hstack : g.stack = argsL.reverse ++ rest) (hW : 2 * g.monitorRoom + (rest.map fun v => v.category).sum ≤ W9) (hdg : decode c.code g.pc = .ok (.invokestatic index, 3))
    (hpre : ∀ vm₁, s.WarmedH vm₁ → Pre ⟨T.setVm vm₁, locs, cells, slots⟩ argsL.toArray) :
    (∃ (v : Option Value) (vm₁ : Vm) (B : Pt), s.WarmedH vm₁ ∧ Stand p l e R s m args below meth c B.U B.locs B.cells B.slots ∧ Post ⟨T.setVm vm₁, locs, cells, slots⟩ argsL.toArray v B ∧
      ∀ target, Steps p.tables e below (B.U.setTop { g with pc := g.pc + 3, stack := v.toList ++ rest }) target → Steps p.tables e below (T.setTop g) target) ∨
    (∃ (q : Addr) (vm₁ : Vm) (B : Pt), s.WarmedH vm₁ ∧ Stand p l e R s m args below meth c B.U B.locs B.cells B.slots ∧ PostX ⟨T.setVm vm₁, locs, cells, slots⟩ argsL.toArray q B ∧
      Steps p.tables e below (T.setTop g) ((B.U.setTop { g with stack := rest }).pushFrame (.throwing q))) := by
  obtain ⟨mk, methM, cM, hnamed, hmethM, -, -, -, -, -, -, hsigM⟩ := Cond.codeWith_spec hcode
  have hstatic : methM.isStatic = true := Cond.static_spec hnamed hmethM hstat
  obtain ⟨kP, hkP, -⟩ := className_of_methodNamed hnamed
  have hinitP : kP.init = .initialized := Cond.initialized_spec (findClass_of_methodNamed hnamed) hkP hinit
  obtain ⟨vm₁, X₁, hstep₁⟩ := X.invokestatic hexec hown hlink hnamed hmethM hstatic hkP hinitP hy (g := g) hg (argsL := argsL) (rest := rest) (hlen _ hsigM) hstack hdg
  rcases hK m meth c ⟨T.setVm vm₁, locs, cells, slots⟩ { g with stack := rest } (.invokestatic index) mk argsL.toArray X₁ hg hsize hdg hW (X₁.named hnamed) (hpre vm₁ X₁.warmed) with ⟨v, B, X', hpost, hsteps⟩ | ⟨q, B, X', hpost, hsteps⟩
  · exact Or.inl ⟨v, vm₁, B, X₁.warmed, X', hpost, fun target h => hstep₁ _ fun acts => by rw [doInvoke_state]; exact hsteps.trans h⟩
  · exact Or.inr ⟨q, vm₁, B, X₁.warmed, X', hpost, hstep₁ _ fun acts => by rw [doInvoke_state]; exact hsteps⟩
theorem vx_callVW (X : Stand p l e R s m args below meth c T locs cells slots) (hexec : p.tables.exec = Jvm.exec) {own C : String} {index : Nat} {y : MethodName} {bytes : ByteArray} {maxL : Nat} {ret : Option FieldType} {hh : List (Nat × Nat × Nat × Nat)}
    (hown : s.vm.findClass own = some m.cls) (hlink : (Cond.methodLink own index y).before args s = true) (hinst : (Cond.instanceMethod y).before args s = true) (hsel : (Cond.selects C y y).before args s = true)
    (hcode : (Cond.codeWith y bytes maxL ret hh).before args s = true) (hy : y.cls ≠ "java/lang/invoke/MethodHandle" ∧ y.cls ≠ "java/lang/invoke/VarHandle")
    {W9 : Nat} {Pre : Pt → Array Value → Prop} {Post : Pt → Array Value → Option Value → Pt → Prop} (hK : Back l R p e below s args y 3 W9 Pre Post)
    {b : Addr} {cellB : Cell} (hcell : T.heap[b]? = some cellB) (hobj : cellB.vm.isStatics = false) (hcls : s.vm.findClass C = some cellB.cls)
    {g : JFrame} (hg : g.method = m) (hsize : g.locals.size = c.maxLocals) {argsL rest : List Value} (hlen : ∀ sig, parseMethodDescriptor y.desc = some sig → argsL.length = sig.parameters.length)
    (hstack : g.stack = argsL.reverse ++ .ref b :: rest) (hW : 2 * g.monitorRoom + (rest.map fun v => v.category).sum ≤ W9) (hdg : decode c.code g.pc = .ok (.invokevirtual index, 3))
    (hpre : ∀ vm₁, s.WarmedH vm₁ → Pre ⟨T.setVm vm₁, locs, cells, slots⟩ (Value.ref b :: argsL).toArray) :
    ∃ (v : Option Value) (vm₁ : Vm) (B : Pt), s.WarmedH vm₁ ∧ Stand p l e R s m args below meth c B.U B.locs B.cells B.slots ∧ Post ⟨T.setVm vm₁, locs, cells, slots⟩ (Value.ref b :: argsL).toArray v B ∧
      ∀ target, Steps p.tables e below (B.U.setTop { g with pc := g.pc + 3, stack := v.toList ++ rest }) target → Steps p.tables e below (T.setTop g) target := by
  obtain ⟨mk, methM, hnamed, hmethM, hstM, habM⟩ := Cond.instanceMethod_spec hinst
  obtain ⟨m8, methM', cM, hn8, hmethM', -, -, -, -, -, -, hsigM⟩ := Cond.codeWith_spec hcode
  cases Option.some.inj (hn8.symm.trans hnamed)
  cases hmethM.symm.trans hmethM'
  obtain ⟨c2, r2, m2, q1, q2, q3, q4, kP, hkP, hkPi⟩ := Cond.selects_spec hsel
  cases hcls.symm.trans q1
  cases (State.methodFound?_of_named hnamed hy).symm.trans q2
  cases hnamed.symm.trans q3
  have hselP : selectMethod e.platform s.vm cellB.cls mk = .method mk := by rw [Launch.admits_selectMethod X.admits]; exact q4
  obtain ⟨vm₁, X₁, hstep₁⟩ := X.invokevirtual hexec hown hlink hnamed hmethM hstM hkP hkPi hy (a := b) (cell := cellB) hcell
    (fun z h => by rw [h] at hobj; cases hobj) hselP hmethM habM hkP hkPi (g := g) hg (argsL := argsL) (rest := rest) (hlen _ hsigM) hstack hdg
  obtain ⟨v, B, X', hpost, hsteps⟩ := hK m meth c ⟨T.setVm vm₁, locs, cells, slots⟩ { g with stack := rest } (.invokevirtual index) mk (Value.ref b :: argsL).toArray X₁ hg hsize hdg hW (X₁.named hnamed) (hpre vm₁ X₁.warmed)
  exact ⟨v, vm₁, B, X₁.warmed, X', hpost, fun target h => hstep₁ _ fun acts => by rw [doInvoke_state]; exact hsteps.trans h⟩
abbrev vx_CVW (R : Room) (s : State) (args : Array Value) (own C : String) (index : Nat) (y : MethodName) (bytes : ByteArray) (maxL : Nat) (ret : Option FieldType) (hh : List (Nat × Nat × Nat × Nat)) (ws : List Cond) (rm : Room) (mc ms n : Nat) : Prop :=
  (rm.cells = mc ∧ rm.slots = ms ∧ rm.frames + 1 ≤ R.frames ∧ 8 + (maxL + 11) + rm.locals ≤ R.locals ∧ (∀ w ∈ ws, ∀ (a' : Array Value) (U : State), s.WarmedH U.vm → w.before a' U = true) ∧ Cond.codeWith y bytes maxL ret hh ∈ ws) ∧
  (Cond.codeWith y bytes maxL ret hh).before args s = true ∧ (Cond.initialized y.cls).before args s = true ∧ (y.cls ≠ "java/lang/invoke/MethodHandle" ∧ y.cls ≠ "java/lang/invoke/VarHandle") ∧
  (∀ sig, parseMethodDescriptor y.desc = some sig → n = sig.parameters.length) ∧ (Cond.methodLink own index y).before args s = true ∧ (Cond.instanceMethod y).before args s = true ∧ (Cond.selects C y y).before args s = true
theorem vx_cwVW {own C : String} {index maxL mc ms : Nat} {y : MethodName} {bytes : ByteArray} {ret : Option FieldType} {hh : List (Nat × Nat × Nat × Nat)} {Ts ws ws' : List Cond} {rm : Room} (n : Nat) (ht : ∀ w ∈ Ts, w.before args s = true) (hT : GoodIn Ts (wsV own index C y ws)) (hw : ws = Cond.codeWith y bytes maxL ret hh :: ws') (hrc : rm.cells = mc) (hrs : rm.slots = ms)
    (hd : y.cls = C ∧ y.cls ≠ "java/lang/invoke/MethodHandle" ∧ y.cls ≠ "java/lang/invoke/VarHandle" ∧ (parseMethodDescriptor y.desc).map (fun d => d.parameters.length) = some n) (hR : rm.frames + 1 ≤ R.frames ∧ 8 + (maxL + 11) + rm.locals ≤ R.locals) :
    vx_CVW R s args own C index y bytes maxL ret hh ws rm mc ms n := by
  obtain ⟨hC, hd⟩ := hd
  subst hC
  have ok : ∀ w ∈ wsV own index y.cls y ws, w.before args s = true := fun w h => ht w (hT w h).1
  have hG : GoodIn Ts ws := fun w h => hT w (by unfold wsV; exact List.mem_append_right _ h)
  have hc : Cond.codeWith y bytes maxL ret hh ∈ ws := by rw [hw]; exact List.mem_cons_self
  refine ⟨⟨hrc, hrs, hR.1, hR.2, pay_in ht hG, hc⟩, ht _ (hG _ hc).1, ok _ (by simp [wsV]), ⟨hd.1, hd.2.1⟩, fun sig h => ?_, ok _ (by simp [wsV]), ok _ (by simp [wsV]), ok _ (by simp [wsV])⟩
  have h2 := hd.2.2
  rw [h] at h2
  exact (Option.some.inj h2).symm
theorem vx_runVW {y : MethodName} {bytes cc : ByteArray} {maxL nL mc ms n index : Nat} {ret : Option FieldType} {hh : List (Nat × Nat × Nat × Nat)} {ws : List Cond} {rm : Room} {Pc : Array Value → State → Prop} {Qc : Array Value → State → Outcome → State → Prop} {free : Addr → Prop} {Ts : List Cond} {own C : String} {b : Addr} {As rest : List Value} {g : JFrame}
    (S : CallFix p m c cc nL s args Ts own) (hM : Met l y ws rm Pc Qc mc ms free) (cw : vx_CVW R s args own C index y bytes maxL ret hh ws rm mc ms n) (hp : PreV s H C b Pc As)
    (hg : g.method = m) (hn : As.length = n) (hsize : g.locals.size = nL) (hstack : g.stack = As.reverse ++ .ref b :: rest) (hW : 2 * g.monitorRoom + (rest.map fun v => v.category).sum ≤ 8) (hdg : decode cc g.pc = .ok (.invokevirtual index, 3)) (hf : cells + mc ≤ R.cells ∧ slots + ms ≤ R.slots) :
    va_Run p l e R s m args below meth c H locs cells slots mc ms g rest (Qc (Value.ref b :: As).toArray) free := by
  obtain ⟨⟨hrc, hrs, hfr, hlo, hws, hcw⟩, hcode, hini, hy, hlen, hl, hin, hse⟩ := cw
  have hK : Back l R p e below s args y 3 8 (PreOf R mc ms Pc) (PostOf Qc mc ms free) := va_backW (hh := hh) (bytes := bytes) (maxL := maxL) (ret := ret) hM hp.1 hrc hrs hfr hlo hws hcw (fun a' U hW => word_at hW (Or.inl (by first | rfl | simp [Cond.onTables, Cond.keeps, Cond.steady])) hini)
  obtain ⟨hx, hb, hml, ho, -⟩ := S
  obtain ⟨-, ⟨cellB, hcB, hoB, hclB⟩, hPc⟩ := hp
  intro T hT X
  obtain ⟨v, vm₁, ⟨U', l2, c2, s2⟩, hW₁, X', ⟨g', mk, t, L, e1, e2, hq, h1, hL, h2, h3⟩, st⟩ := vx_callVW X hx (C := C) (hh := hh) (bytes := bytes) (maxL := maxL) (ret := ret) ho hl hin hse hcode hy hK (by rw [hT]; exact hcB) hoB hclB hg (hsize.trans hml.symm) (argsL := As) (rest := rest) (fun sig h => hn.trans (hlen sig h)) hstack hW (by rw [hb]; exact hdg)
    (fun vm₁ hW₁ => ⟨hf.1, hf.2, hPc (T.setVm vm₁) hT hW₁⟩)
  dsimp only [Pt.U, Pt.locs, Pt.cells, Pt.slots] at X' e1 e2 h1 h2 h3 st
  subst h1; subst h2; subst h3
  exact ⟨v, (T.setVm vm₁).calling g' mk (Value.ref b :: As).toArray, t, U', L, hT, X', hL, e1, e2, hq, st⟩
section
variable {y : MethodName} {bytes cc : ByteArray} {maxL nL mc ms n index : Nat} {ret : Option FieldType} {ws : List Cond} {rm : Room} {Pc : Array Value → State → Prop} {Qc : Array Value → State → Outcome → State → Prop} {XC : String → State → State → Prop} {free : Addr → Prop} {Ts : List Cond} {own C : String} {b : Addr} {As rest : List Value} {g : JFrame}
theorem vx_runVX {hh : List (Nat × Nat × Nat × Nat)} (S : CallFix p m c cc nL s args Ts own) (hM : vx_Met l y ws rm Pc Qc XC mc ms free) (cw : vx_CVW R s args own C index y bytes maxL ret hh ws rm mc ms n) (hp : PreV s H C b Pc As)
    (hg : g.method = m) (hn : As.length = n) (hsize : g.locals.size = nL) (hstack : g.stack = As.reverse ++ .ref b :: rest) (hW : 2 * g.monitorRoom + (rest.map fun v => v.category).sum ≤ 8) (hdg : decode cc g.pc = .ok (.invokevirtual index, 3)) (hf : cells + mc ≤ R.cells ∧ slots + ms ≤ R.slots) :
    vx_Run p l e R s m args below meth c H locs cells slots mc ms g rest (Qc (Value.ref b :: As).toArray) XC free := by
  obtain ⟨⟨hrc, hrs, hfr, hlo, hws, hcw⟩, hcode, hini, hy, hlen, hl, hin, hse⟩ := cw
  have hK : vx_Back l R p e below s args y 3 8 (PreOf R mc ms Pc) (PostOf Qc mc ms free) (vx_Post XC mc ms free) := vx_backW (hh := hh) (bytes := bytes) (maxL := maxL) (ret := ret) hM hp.1 hrc hrs hfr hlo hws hcw (fun a' U hW => word_at hW (Or.inl (by first | rfl | simp [Cond.onTables, Cond.keeps, Cond.steady])) hini)
  obtain ⟨hx, hb, hml, ho, -⟩ := S
  obtain ⟨-, ⟨cellB, hcB, hoB, hclB⟩, hPc⟩ := hp
  intro T hT X
  rcases vx_callVX X hx (C := C) (hh := hh) (bytes := bytes) (maxL := maxL) (ret := ret) ho hl hin hse hcode hy hK (by rw [hT]; exact hcB) hoB hclB hg (hsize.trans hml.symm) (argsL := As) (rest := rest) (fun sig h => hn.trans (hlen sig h)) hstack hW (by rw [hb]; exact hdg)
    (fun vm₁ hW₁ => ⟨hf.1, hf.2, hPc (T.setVm vm₁) hT hW₁⟩) with ⟨v, vm₁, ⟨U', l2, c2, s2⟩, hW₁, X', ⟨g', mk, t, L, e1, e2, hq, h1, hL, h2, h3⟩, st⟩ | ⟨q, vm₁, ⟨U', l2, c2, s2⟩, hW₁, X', ⟨g', mk, t, L, E, ce, e1, e2, hq, hce, hcv, hcl, h1, hL, h2, h3⟩, st⟩
  · dsimp only [Pt.U, Pt.locs, Pt.cells, Pt.slots] at X' e1 e2 h1 h2 h3 st
    subst h1; subst h2; subst h3
    exact Or.inl ⟨v, (T.setVm vm₁).calling g' mk (Value.ref b :: As).toArray, t, U', L, hT, X', hL, e1, e2, hq, st⟩
  · dsimp only [Pt.U, Pt.locs, Pt.cells, Pt.slots] at X' e1 e2 h1 h2 h3 st hcl
    subst h1; subst h2; subst h3
    exact Or.inr ⟨q, (T.setVm vm₁).calling g' mk (Value.ref b :: As).toArray, t, U', L, E, ce, hT, X', hL, e1, e2, hq, hce, hcv, vx_cls hW₁ hcl, st⟩
theorem vx_runSX {hh : List (Nat × Nat × Nat × Nat)} (S : CallFix p m c cc nL s args Ts own) (hM : vx_Met l y ws rm Pc Qc XC mc ms free) (cw : vx_CSW R s args own index y bytes maxL ret hh ws rm mc ms n) (hp : PreS s H Pc As)
    (hg : g.method = m) (hn : As.length = n) (hsize : g.locals.size = nL) (hstack : g.stack = As.reverse ++ rest) (hW : 2 * g.monitorRoom + (rest.map fun v => v.category).sum ≤ 8) (hdg : decode cc g.pc = .ok (.invokestatic index, 3)) (hf : cells + mc ≤ R.cells ∧ slots + ms ≤ R.slots) :
    vx_Run p l e R s m args below meth c H locs cells slots mc ms g rest (Qc As.toArray) XC free := by
  obtain ⟨⟨hrc, hrs, hfr, hlo, hws, hcw⟩, hcode, hini, hy, hlen, hl, hstt⟩ := cw
  have hK : vx_Back l R p e below s args y 3 8 (PreOf R mc ms Pc) (PostOf Qc mc ms free) (vx_Post XC mc ms free) := vx_backW (hh := hh) (bytes := bytes) (maxL := maxL) (ret := ret) hM hp.1 hrc hrs hfr hlo hws hcw (fun a' U hW => word_at hW (Or.inl (by first | rfl | simp [Cond.onTables, Cond.keeps, Cond.steady])) hini)
  obtain ⟨hx, hb, hml, ho, -⟩ := S
  intro T hT X
  rcases vx_callSX X hx (hh := hh) (bytes := bytes) (maxL := maxL) (ret := ret) ho hl hstt hini hcode hy hK hg (hsize.trans hml.symm) (argsL := As) (rest := rest) (fun sig h => hn.trans (hlen sig h)) hstack hW (by rw [hb]; exact hdg)
    (fun vm₁ hW₁ => ⟨hf.1, hf.2, hp.2 (T.setVm vm₁) hT hW₁⟩) with ⟨v, vm₁, ⟨U', l2, c2, s2⟩, hW₁, X', ⟨g', mk, t, L, e1, e2, hq, h1, hL, h2, h3⟩, st⟩ | ⟨q, vm₁, ⟨U', l2, c2, s2⟩, hW₁, X', ⟨g', mk, t, L, E, ce, e1, e2, hq, hce, hcv, hcl, h1, hL, h2, h3⟩, st⟩
  · dsimp only [Pt.U, Pt.locs, Pt.cells, Pt.slots] at X' e1 e2 h1 h2 h3 st
    subst h1; subst h2; subst h3
    exact Or.inl ⟨v, (T.setVm vm₁).calling g' mk As.toArray, t, U', L, hT, X', hL, e1, e2, hq, st⟩
  · dsimp only [Pt.U, Pt.locs, Pt.cells, Pt.slots] at X' e1 e2 h1 h2 h3 st hcl
    subst h1; subst h2; subst h3
    exact Or.inr ⟨q, (T.setVm vm₁).calling g' mk As.toArray, t, U', L, E, ce, hT, X', hL, e1, e2, hq, hce, hcv, vx_cls hW₁ hcl, st⟩
end
end VXH
theorem vx_ofWH {l : Launch} {y : MethodName} {ws ws' : List Cond} {rm : Room} {Pc : Array Value → State → Prop} {Qc : Array Value → State → Outcome → State → Prop} {XC : String → State → State → Prop} {mc ms : Nat} {free : Addr → Prop} {cc : ByteArray} {maxL : Nat} {ret : Option FieldType} {hh : List (Nat × Nat × Nat × Nat)}
    (hy : plainName y.cls = true) (hw : ws = Cond.codeWith y cc maxL ret hh :: ws')
    (body : ∀ p e s m args below meth c s₁, BodyLoose p l y (headSpec ws rm) cc maxL ret e s m args below meth c s₁ → c.maxLocals = maxL → Pc args s →
      W p l e (headSpec ws rm).room s m args below meth c s.heap [] 0 0 (vx_MQ below Qc XC args s mc ms free) (entryFrame m args maxL)) : vx_Met l y ws rm Pc Qc XC mc ms free := by
  refine MetFree.of_bodyS (code := cc) (maxLocals := maxL) (ret := ret) hy ?_ ?_
  · intro args s m h hn
    obtain ⟨m9, meth, c, hn9, h1, h2, h3, h4, -, h5, h6, -⟩ := Cond.codeWith_spec (atoms_spec (ws := ws) h _ (by rw [hw]; exact List.mem_cons_self))
    cases hn.symm.trans hn9
    exact ⟨meth, c, h1, h2, h3, h4, h5, h6⟩
  · intro p e s m args below meth c s₁ B hml hP _
    have hh0 : s₁.heap = s.heap := by rw [B.state]; rfl
    obtain ⟨t, a1, o, b1, b2, b3⟩ := body p e s m args below meth c s₁ B hml hP s₁ hh0 (Stand.of_body B)
    exact ⟨t, o, a1, b1, b2, b3⟩
/-! ===== END ===== -/
/-! ===== BEGIN a constructor that throws (launches without stack traces) ===== -/
section VXIA
variable {p : Program} {l : Launch} {e : Env} {R : Room} {s : State} {m : MethodId} {args : Array Value} {below : List Frame} {meth : Method} {c : Code} {T : State} {locs : List Loc} {cells slots : Nat}
theorem vx_callI (X : Stand p l e R s m args below meth c T locs cells slots) (hexec : p.tables.exec = Jvm.exec) {own : String} {index : Nat} {y : MethodName} {bytes : ByteArray} {maxL : Nat}
    (hown : s.vm.findClass own = some m.cls) (hy1 : y.name = "<init>") (hlink : (Cond.methodLink own index y).before args s = true) (hinst : (Cond.instanceMethod y).before args s = true)
    (hcode : (Cond.code y bytes maxL none).before args s = true) (hy : y.cls ≠ "java/lang/invoke/MethodHandle" ∧ y.cls ≠ "java/lang/invoke/VarHandle")
    {W9 : Nat} {Pre : Pt → Array Value → Prop} {Post : Pt → Array Value → Option Value → Pt → Prop} {PostX : Pt → Array Value → Addr → Pt → Prop} (hK : vx_Back l R p e below s args y 3 W9 Pre Post PostX)
    {g : JFrame} (hg : g.method = m) (hsize : g.locals.size = c.maxLocals) {a : Addr} {argsL rest : List Value} (hlen : ∀ sig, parseMethodDescriptor y.desc = some sig → argsL.length = sig.parameters.length)
    (hstack : g.stack = argsL.reverse ++ .ref a :: rest) (hW : 2 * g.monitorRoom + (rest.map fun v => v.category).sum ≤ W9) (hdg : decode c.code g.pc = .ok (.invokespecial index, 3))
    (hpre : ∀ vm₁, s.WarmedH vm₁ → Pre ⟨T.setVm vm₁, locs, cells, slots⟩ (Value.ref a :: argsL).toArray) :
    (∃ (v : Option Value) (vm₁ : Vm) (B : Pt), s.WarmedH vm₁ ∧ Stand p l e R s m args below meth c B.U B.locs B.cells B.slots ∧ Post ⟨T.setVm vm₁, locs, cells, slots⟩ (Value.ref a :: argsL).toArray v B ∧
      ∀ target, Steps p.tables e below (B.U.setTop { g with pc := g.pc + 3, stack := v.toList ++ rest }) target → Steps p.tables e below (T.setTop g) target) ∨
    (∃ (q : Addr) (vm₁ : Vm) (B : Pt), s.WarmedH vm₁ ∧ Stand p l e R s m args below meth c B.U B.locs B.cells B.slots ∧ PostX ⟨T.setVm vm₁, locs, cells, slots⟩ (Value.ref a :: argsL).toArray q B ∧
      Steps p.tables e below (T.setTop g) ((B.U.setTop { g with stack := rest }).pushFrame (.throwing q))) := by
  subst hg
  have hpl : e.platform.magicAccessors = ({} : Platform).magicAccessors := by rw [X.admits.platform]
  obtain ⟨mk, methM, cM, kP, vm₁, hnamed, hmethM, hcodeM, -, hlocalsM, -, hkP, -, hW₁, hstep₁⟩ := Steps.initColdArgs (e := e) X.here hexec X.warmed hpl hown hy1 hy hlink hinst hcode (f := g) rfl hlen hstack hdg
  have X₁ := X.noted hW₁
  rcases hK g.method meth c ⟨T.setVm vm₁, locs, cells, slots⟩ { g with stack := rest } (.invokespecial index) mk (Value.ref a :: argsL).toArray X₁ rfl hsize hdg hW (X₁.named hnamed) (hpre vm₁ X₁.warmed) with ⟨v, B, X', hpost, hsteps⟩ | ⟨q, B, X', hpost, hsteps⟩
  · exact Or.inl ⟨v, vm₁, B, X₁.warmed, X', hpost, fun target h => hstep₁ _ fun acts => by rw [doInvoke_state]; exact hsteps.trans h⟩
  · exact Or.inr ⟨q, vm₁, B, X₁.warmed, X', hpost, hstep₁ _ fun acts => by rw [doInvoke_state]; exact hsteps⟩
end VXIA
section VXIB
variable {p : Program} {l : Launch} {e : Env} {R : Room} {s : State} {m : MethodId} {args : Array Value} {below : List Frame} {meth : Method} {c : Code} {H : Heap} {locs : List Loc} {cells slots : Nat}
variable {y : MethodName} {bytes cc : ByteArray} {maxL nL mc ms n index : Nat} {ret : Option FieldType} {ws : List Cond} {rm : Room} {Pc : Array Value → State → Prop} {Qc : Array Value → State → Outcome → State → Prop} {XC : String → State → State → Prop} {free : Addr → Prop} {Ts : List Cond} {own C : String} {b : Addr} {As rest : List Value} {g : JFrame}
theorem vx_runI (S : CallFix p m c cc nL s args Ts own) (hM : vx_Met l y ws rm Pc Qc XC mc ms free) (cw : CallB R s args own index y bytes maxL none ws rm mc ms n ∧ y.name = "<init>" ∧ (Cond.instanceMethod y).before args s = true) (hp : PreS s H Pc (.ref b :: As))
    (hg : g.method = m) (hn : As.length = n) (hsize : g.locals.size = nL) (hstack : g.stack = As.reverse ++ .ref b :: rest) (hW : 2 * g.monitorRoom + (rest.map fun v => v.category).sum ≤ 8) (hdg : decode cc g.pc = .ok (.invokespecial index, 3)) (hf : cells + mc ≤ R.cells ∧ slots + ms ≤ R.slots) :
    vx_Run p l e R s m args below meth c H locs cells slots mc ms g rest (Qc (Value.ref b :: As).toArray) XC free := by
  have hK : vx_Back l R p e below s args y 3 8 (PreOf R mc ms Pc) (PostOf Qc mc ms free) (vx_Post XC mc ms free) := vx_callBack cw.1 hM hp.1
  obtain ⟨⟨-, -, -, -, -, -, hcode, -, hy, hlen, hl⟩, hy1, hin⟩ := cw
  obtain ⟨hx, hb, hml, ho, -⟩ := S
  have hPc := hp.2
  intro T hT X
  rcases vx_callI X hx (bytes := bytes) (maxL := maxL) ho hy1 hl hin hcode hy hK hg (hsize.trans hml.symm) (a := b) (argsL := As) (rest := rest) (fun sig h => hn.trans (hlen sig h)) hstack hW (by rw [hb]; exact hdg)
    (fun vm₁ hW₁ => ⟨hf.1, hf.2, hPc (T.setVm vm₁) hT hW₁⟩) with ⟨v, vm₁, ⟨U', l2, c2, s2⟩, hW₁, X', ⟨g', mk, t, L, e1, e2, hq, h1, hL, h2, h3⟩, st⟩ | ⟨q, vm₁, ⟨U', l2, c2, s2⟩, hW₁, X', ⟨g', mk, t, L, E, ce, e1, e2, hq, hce, hcv, hcl, h1, hL, h2, h3⟩, st⟩
  · dsimp only [Pt.U, Pt.locs, Pt.cells, Pt.slots] at X' e1 e2 h1 h2 h3 st
    subst h1; subst h2; subst h3
    exact Or.inl ⟨v, (T.setVm vm₁).calling g' mk (Value.ref b :: As).toArray, t, U', L, hT, X', hL, e1, e2, hq, st⟩
  · dsimp only [Pt.U, Pt.locs, Pt.cells, Pt.slots] at X' e1 e2 h1 h2 h3 st hcl
    subst h1; subst h2; subst h3
    exact Or.inr ⟨q, (T.setVm vm₁).calling g' mk (Value.ref b :: As).toArray, t, U', L, E, ce, hT, X', hL, e1, e2, hq, hce, hcv, vx_cls hW₁ hcl, st⟩
end VXIB
/-! ===== END ===== -/
/-! ===== BEGIN a private constructor of a nest mate that throws ===== -/
section VXIC
variable {p : Program} {l : Launch} {e : Env} {R : Room} {s : State} {m : MethodId} {args : Array Value} {below : List Frame} {meth : Method} {c : Code} {T : State} {locs : List Loc} {cells slots : Nat}
theorem vx_callIN (X : Stand p l e R s m args below meth c T locs cells slots) (hexec : p.tables.exec = Jvm.exec) {own : String} {index : Nat} {host : String} {y : MethodName} {bytes : ByteArray} {maxL : Nat}
    (hown : s.vm.findClass own = some m.cls) (hy1 : y.name = "<init>") (hlink : (Cond.methodLinkNest own index y host).before args s = true) (hinst : (Cond.instanceMethod y).before args s = true)
    (hcode : (Cond.code y bytes maxL none).before args s = true) (hy : y.cls ≠ "java/lang/invoke/MethodHandle" ∧ y.cls ≠ "java/lang/invoke/VarHandle")
    {W9 : Nat} {Pre : Pt → Array Value → Prop} {Post : Pt → Array Value → Option Value → Pt → Prop} {PostX : Pt → Array Value → Addr → Pt → Prop} (hK : vx_Back l R p e below s args y 3 W9 Pre Post PostX)
    {g : JFrame} (hg : g.method = m) (hsize : g.locals.size = c.maxLocals) {a : Addr} {argsL rest : List Value} (hlen : ∀ sig, parseMethodDescriptor y.desc = some sig → argsL.length = sig.parameters.length)
    (hstack : g.stack = argsL.reverse ++ .ref a :: rest) (hW : 2 * g.monitorRoom + (rest.map fun v => v.category).sum ≤ W9) (hdg : decode c.code g.pc = .ok (.invokespecial index, 3))
    (hpre : ∀ vm₁, s.WarmedH vm₁ → Pre ⟨T.setVm vm₁, locs, cells, slots⟩ (Value.ref a :: argsL).toArray) :
    (∃ (v : Option Value) (vm₁ : Vm) (B : Pt), s.WarmedH vm₁ ∧ Stand p l e R s m args below meth c B.U B.locs B.cells B.slots ∧ Post ⟨T.setVm vm₁, locs, cells, slots⟩ (Value.ref a :: argsL).toArray v B ∧
      ∀ target, Steps p.tables e below (B.U.setTop { g with pc := g.pc + 3, stack := v.toList ++ rest }) target → Steps p.tables e below (T.setTop g) target) ∨
    (∃ (q : Addr) (vm₁ : Vm) (B : Pt), s.WarmedH vm₁ ∧ Stand p l e R s m args below meth c B.U B.locs B.cells B.slots ∧ PostX ⟨T.setVm vm₁, locs, cells, slots⟩ (Value.ref a :: argsL).toArray q B ∧
      Steps p.tables e below (T.setTop g) ((B.U.setTop { g with stack := rest }).pushFrame (.throwing q))) := by
  subst hg
  have hpl : e.platform.magicAccessors = ({} : Platform).magicAccessors := by rw [X.admits.platform]
  obtain ⟨mk, methM, cM, kP, vm₁, hnamed, hmethM, hcodeM, -, hlocalsM, -, hkP, -, hW₁, hstep₁⟩ := Steps.initColdArgsNest (e := e) X.here hexec X.warmed hpl hown hy1 hy hlink hinst hcode (f := g) rfl hlen hstack hdg
  have X₁ := X.noted hW₁
  rcases hK g.method meth c ⟨T.setVm vm₁, locs, cells, slots⟩ { g with stack := rest } (.invokespecial index) mk (Value.ref a :: argsL).toArray X₁ rfl hsize hdg hW (X₁.named hnamed) (hpre vm₁ X₁.warmed) with ⟨v, B, X', hpost, hsteps⟩ | ⟨q, B, X', hpost, hsteps⟩
  · exact Or.inl ⟨v, vm₁, B, X₁.warmed, X', hpost, fun target h => hstep₁ _ fun acts => by rw [doInvoke_state]; exact hsteps.trans h⟩
  · exact Or.inr ⟨q, vm₁, B, X₁.warmed, X', hpost, hstep₁ _ fun acts => by rw [doInvoke_state]; exact hsteps⟩
end VXIC
section VXID
variable {p : Program} {l : Launch} {e : Env} {R : Room} {s : State} {m : MethodId} {args : Array Value} {below : List Frame} {meth : Method} {c : Code} {H : Heap} {locs : List Loc} {cells slots : Nat}
theorem vx_runIN {y : MethodName} {bytes cc : ByteArray} {maxL nL mc ms n index : Nat} {ws : List Cond} {rm : Room} {Pc : Array Value → State → Prop} {Qc : Array Value → State → Outcome → State → Prop} {XC : String → State → State → Prop} {free : Addr → Prop} {Ts : List Cond} {own host : String} {b : Addr} {As rest : List Value} {g : JFrame}
    (S : CallFix p m c cc nL s args Ts own) (hM : vx_Met l y ws rm Pc Qc XC mc ms free) (cw : va_CN R s args own index y host bytes maxL none ws rm mc ms n ∧ y.name = "<init>" ∧ (Cond.instanceMethod y).before args s = true) (hp : PreS s H Pc (.ref b :: As))
    (hg : g.method = m) (hn : As.length = n) (hsize : g.locals.size = nL) (hstack : g.stack = As.reverse ++ .ref b :: rest) (hW : 2 * g.monitorRoom + (rest.map fun v => v.category).sum ≤ 8) (hdg : decode cc g.pc = .ok (.invokespecial index, 3)) (hf : cells + mc ≤ R.cells ∧ slots + ms ≤ R.slots) :
    vx_Run p l e R s m args below meth c H locs cells slots mc ms g rest (Qc (Value.ref b :: As).toArray) XC free := by
  obtain ⟨⟨⟨hrc, hrs, hfr, hlo, hws, hcw⟩, hcode, hini, hy, hlen, hl⟩, hx1, hx2⟩ := cw
  have hK : vx_Back l R p e below s args y 3 8 (PreOf R mc ms Pc) (PostOf Qc mc ms free) (vx_Post XC mc ms free) := vx_back (bytes := bytes) (maxL := maxL) (ret := none) hM hp.1 hrc hrs hfr hlo hws hcw (fun a' U hW => word_at hW (Or.inl (by first | rfl | simp [Cond.onTables, Cond.keeps, Cond.steady])) hini)
  obtain ⟨hx, hb, hml, ho, -⟩ := S
  have hPc := hp.2
  intro T hT X
  rcases vx_callIN X hx (bytes := bytes) (maxL := maxL) ho hx1 hl hx2 hcode hy hK hg (hsize.trans hml.symm) (a := b) (argsL := As) (rest := rest) (fun sig h => hn.trans (hlen sig h)) hstack hW (by rw [hb]; exact hdg)
    (fun vm₁ hW₁ => ⟨hf.1, hf.2, hPc (T.setVm vm₁) hT hW₁⟩) with ⟨v, vm₁, ⟨U', l2, c2, s2⟩, hW₁, X', ⟨g', mk, t, L, e1, e2, hq, h1, hL, h2, h3⟩, st⟩ | ⟨q, vm₁, ⟨U', l2, c2, s2⟩, hW₁, X', ⟨g', mk, t, L, E, ce, e1, e2, hq, hce, hcv, hcl, h1, hL, h2, h3⟩, st⟩
  · dsimp only [Pt.U, Pt.locs, Pt.cells, Pt.slots] at X' e1 e2 h1 h2 h3 st
    subst h1; subst h2; subst h3
    exact Or.inl ⟨v, (T.setVm vm₁).calling g' mk (Value.ref b :: As).toArray, t, U', L, hT, X', hL, e1, e2, hq, st⟩
  · dsimp only [Pt.U, Pt.locs, Pt.cells, Pt.slots] at X' e1 e2 h1 h2 h3 st hcl
    subst h1; subst h2; subst h3
    exact Or.inr ⟨q, (T.setVm vm₁).calling g' mk (Value.ref b :: As).toArray, t, U', L, E, ce, hT, X', hL, e1, e2, hq, hce, hcv, vx_cls hW₁ hcl, st⟩
end VXID
/-! ===== END ===== -/
/-! ===== BEGIN a private method of a nest mate that may throw (follows va_callVN, va_callSN, va_runVN, va_runSN) ===== -/
section
variable {p : Program} {l : Launch} {e : Env} {R : Room} {s : State} {m : MethodId} {args : Array Value} {below : List Frame} {meth : Method} {c : Code} {H : Heap} {locs : List Loc} {cells slots : Nat}
variable {T : State}
theorem vx_callVN (X : Stand p l e R s m args below meth c T locs cells slots) (hexec : p.tables.exec = Jvm.exec) {own C : String} {index : Nat} {host : String} {y : MethodName} {bytes : ByteArray} {maxL : Nat} {ret : Option FieldType}
    (hown : s.vm.findClass own = some m.cls) (hlink : (Cond.methodLinkNest own index y host).before args s = true) (hinst : (Cond.instanceMethod y).before args s = true) (hsel : (Cond.selects C y y).before args s = true)
    (hcode : (Cond.code y bytes maxL ret).before args s = true) (hy : y.cls ≠ "java/lang/invoke/MethodHandle" ∧ y.cls ≠ "java/lang/invoke/VarHandle")
    {W : Nat} {Pre : Pt → Array Value → Prop} {Post : Pt → Array Value → Option Value → Pt → Prop} {PostX : Pt → Array Value → Addr → Pt → Prop} (hK : vx_Back l R p e below s args y 3 W Pre Post PostX)
    {b : Addr} {cellB : Cell} (hcell : T.heap[b]? = some cellB) (hobj : cellB.vm.isStatics = false) (hcls : s.vm.findClass C = some cellB.cls)
    {g : JFrame} (hg : g.method = m) (hsize : g.locals.size = c.maxLocals) {argsL rest : List Value} (hlen : ∀ sig, parseMethodDescriptor y.desc = some sig → argsL.length = sig.parameters.length)
    (hstack : g.stack = argsL.reverse ++ .ref b :: rest) (hW : 2 * g.monitorRoom + (rest.map fun v => v.category).sum ≤ W) (hdg : decode c.code g.pc = .ok (.invokevirtual index, 3))
    (hpre : ∀ vm₁, s.WarmedH vm₁ → Pre ⟨T.setVm vm₁, locs, cells, slots⟩ (Value.ref b :: argsL).toArray) :
    (∃ (v : Option Value) (vm₁ : Vm) (B : Pt), s.WarmedH vm₁ ∧ Stand p l e R s m args below meth c B.U B.locs B.cells B.slots ∧ Post ⟨T.setVm vm₁, locs, cells, slots⟩ (Value.ref b :: argsL).toArray v B ∧
      ∀ target, Steps p.tables e below (B.U.setTop { g with pc := g.pc + 3, stack := v.toList ++ rest }) target → Steps p.tables e below (T.setTop g) target) ∨
    (∃ (q : Addr) (vm₁ : Vm) (B : Pt), s.WarmedH vm₁ ∧ Stand p l e R s m args below meth c B.U B.locs B.cells B.slots ∧ PostX ⟨T.setVm vm₁, locs, cells, slots⟩ (Value.ref b :: argsL).toArray q B ∧
      Steps p.tables e below (T.setTop g) ((B.U.setTop { g with stack := rest }).pushFrame (.throwing q))) := by
  obtain ⟨mk, methM, hnamed, hmethM, hstM, habM⟩ := Cond.instanceMethod_spec hinst
  obtain ⟨methM', cM, hmethM', -, -, -, -, -, -, hsigM⟩ := Cond.code_spec hnamed hcode
  cases hmethM.symm.trans hmethM'
  obtain ⟨c2, r2, m2, q1, q2, q3, q4, kP, hkP, hkPi⟩ := Cond.selects_spec hsel
  cases hcls.symm.trans q1
  cases (State.methodFound?_of_named hnamed hy).symm.trans q2
  cases hnamed.symm.trans q3
  have hselP : selectMethod e.platform s.vm cellB.cls mk = .method mk := by rw [Launch.admits_selectMethod X.admits]; exact q4
  obtain ⟨vm₁, X₁, hstep₁⟩ := X.invokevirtualNest hexec hown hlink hnamed hmethM hstM hkP hkPi hy (a := b) (cell := cellB) hcell
    (fun z h => by rw [h] at hobj; cases hobj) hselP hmethM habM hkP hkPi (g := g) hg (argsL := argsL) (rest := rest) (hlen _ hsigM) hstack hdg
  rcases hK m meth c ⟨T.setVm vm₁, locs, cells, slots⟩ { g with stack := rest } (.invokevirtual index) mk (Value.ref b :: argsL).toArray X₁ hg hsize hdg hW (X₁.named hnamed) (hpre vm₁ X₁.warmed) with ⟨v, B, X', hpost, hsteps⟩ | ⟨q, B, X', hpost, hsteps⟩
  · exact Or.inl ⟨v, vm₁, B, X₁.warmed, X', hpost, fun target h => hstep₁ _ fun acts => by rw [doInvoke_state]; exact hsteps.trans h⟩
  · exact Or.inr ⟨q, vm₁, B, X₁.warmed, X', hpost, hstep₁ _ fun acts => by rw [doInvoke_state]; exact hsteps⟩
theorem vx_callSN (X : Stand p l e R s m args below meth c T locs cells slots) (hexec : p.tables.exec = Jvm.exec) {own : String} {index : Nat} {host : String} {y : MethodName} {bytes : ByteArray} {maxL : Nat} {ret : Option FieldType}
    (hown : s.vm.findClass own = some m.cls) (hlink : (Cond.methodLinkNest own index y host).before args s = true) (hstat : (Cond.static y).before args s = true) (hinit : (Cond.initialized y.cls).before args s = true)
    (hcode : (Cond.code y bytes maxL ret).before args s = true) (hy : y.cls ≠ "java/lang/invoke/MethodHandle" ∧ y.cls ≠ "java/lang/invoke/VarHandle")
    {W : Nat} {Pre : Pt → Array Value → Prop} {Post : Pt → Array Value → Option Value → Pt → Prop} {PostX : Pt → Array Value → Addr → Pt → Prop} (hK : vx_Back l R p e below s args y 3 W Pre Post PostX)
    {g : JFrame} (hg : g.method = m) (hsize : g.locals.size = c.maxLocals) {argsL rest : List Value} (hlen : ∀ sig, parseMethodDescriptor y.desc = some sig → argsL.length = sig.parameters.length)
    (hstack : g.stack = argsL.reverse ++ rest) (hW : 2 * g.monitorRoom + (rest.map fun v => v.category).sum ≤ W) (hdg : decode c.code g.pc = .ok (.invokestatic index, 3))
    (hpre : ∀ vm₁, s.WarmedH vm₁ → Pre ⟨T.setVm vm₁, locs, cells, slots⟩ argsL.toArray) :
    (∃ (v : Option Value) (vm₁ : Vm) (B : Pt), s.WarmedH vm₁ ∧ Stand p l e R s m args below meth c B.U B.locs B.cells B.slots ∧ Post ⟨T.setVm vm₁, locs, cells, slots⟩ argsL.toArray v B ∧
      ∀ target, Steps p.tables e below (B.U.setTop { g with pc := g.pc + 3, stack := v.toList ++ rest }) target → Steps p.tables e below (T.setTop g) target) ∨
    (∃ (q : Addr) (vm₁ : Vm) (B : Pt), s.WarmedH vm₁ ∧ Stand p l e R s m args below meth c B.U B.locs B.cells B.slots ∧ PostX ⟨T.setVm vm₁, locs, cells, slots⟩ argsL.toArray q B ∧
      Steps p.tables e below (T.setTop g) ((B.U.setTop { g with stack := rest }).pushFrame (.throwing q))) := by
  obtain ⟨mk, hnamed⟩ := Cond.code_named hcode
  obtain ⟨methM, cM, hmethM, -, -, -, -, -, -, hsigM⟩ := Cond.code_spec hnamed hcode
  have hstatic : methM.isStatic = true := Cond.static_spec hnamed hmethM hstat
  obtain ⟨kP, hkP, -⟩ := className_of_methodNamed hnamed
  have hinitP : kP.init = .initialized := Cond.initialized_spec (findClass_of_methodNamed hnamed) hkP hinit
  obtain ⟨vm₁, X₁, hstep₁⟩ := X.invokestaticNest hexec hown hlink hnamed hmethM hstatic hkP hinitP hy (g := g) hg (argsL := argsL) (rest := rest) (hlen _ hsigM) hstack hdg
  rcases hK m meth c ⟨T.setVm vm₁, locs, cells, slots⟩ { g with stack := rest } (.invokestatic index) mk argsL.toArray X₁ hg hsize hdg hW (X₁.named hnamed) (hpre vm₁ X₁.warmed) with ⟨v, B, X', hpost, hsteps⟩ | ⟨q, B, X', hpost, hsteps⟩
  · exact Or.inl ⟨v, vm₁, B, X₁.warmed, X', hpost, fun target h => hstep₁ _ fun acts => by rw [doInvoke_state]; exact hsteps.trans h⟩
  · exact Or.inr ⟨q, vm₁, B, X₁.warmed, X', hpost, hstep₁ _ fun acts => by rw [doInvoke_state]; exact hsteps⟩
theorem vx_runVN {y : MethodName} {bytes cc : ByteArray} {maxL nL mc ms n index : Nat} {ret : Option FieldType} {ws : List Cond} {rm : Room} {Pc : Array Value → State → Prop} {Qc : Array Value → State → Outcome → State → Prop} {XC : String → State → State → Prop} {free : Addr → Prop} {Ts : List Cond} {own C host : String} {b : Addr} {As rest : List Value} {g : JFrame}
    (S : CallFix p m c cc nL s args Ts own) (hM : vx_Met l y ws rm Pc Qc XC mc ms free) (cw : va_CN R s args own index y host bytes maxL ret ws rm mc ms n ∧ (Cond.instanceMethod y).before args s = true ∧ (Cond.selects C y y).before args s = true) (hp : PreV s H C b Pc As)
    (hg : g.method = m) (hn : As.length = n) (hsize : g.locals.size = nL) (hstack : g.stack = As.reverse ++ .ref b :: rest) (hW : 2 * g.monitorRoom + (rest.map fun v => v.category).sum ≤ 8) (hdg : decode cc g.pc = .ok (.invokevirtual index, 3)) (hf : cells + mc ≤ R.cells ∧ slots + ms ≤ R.slots) :
    vx_Run p l e R s m args below meth c H locs cells slots mc ms g rest (Qc (Value.ref b :: As).toArray) XC free := by
  obtain ⟨⟨⟨hrc, hrs, hfr, hlo, hws, hcw⟩, hcode, hini, hy, hlen, hl⟩, hx1, hx2⟩ := cw
  have hK : vx_Back l R p e below s args y 3 8 (PreOf R mc ms Pc) (PostOf Qc mc ms free) (vx_Post XC mc ms free) := vx_back (bytes := bytes) (maxL := maxL) (ret := ret) hM hp.1 hrc hrs hfr hlo hws hcw (fun a' U hW => word_at hW (Or.inl (by first | rfl | simp [Cond.onTables, Cond.keeps, Cond.steady])) hini)
  obtain ⟨hx, hb, hml, ho, -⟩ := S
  obtain ⟨-, ⟨cellB, hcB, hoB, hclB⟩, hPc⟩ := hp
  intro T hT X
  rcases vx_callVN X hx (C := C) (bytes := bytes) (maxL := maxL) (ret := ret) ho hl hx1 hx2 hcode hy hK (by rw [hT]; exact hcB) hoB hclB hg (hsize.trans hml.symm) (argsL := As) (rest := rest) (fun sig h => hn.trans (hlen sig h)) hstack hW (by rw [hb]; exact hdg)
    (fun vm₁ hW₁ => ⟨hf.1, hf.2, hPc (T.setVm vm₁) hT hW₁⟩) with ⟨v, vm₁, ⟨U', l2, c2, s2⟩, hW₁, X', ⟨g', mk, t, L, e1, e2, hq, h1, hL, h2, h3⟩, st⟩ | ⟨q, vm₁, ⟨U', l2, c2, s2⟩, hW₁, X', ⟨g', mk, t, L, E, ce, e1, e2, hq, hce, hcv, hcl, h1, hL, h2, h3⟩, st⟩
  · dsimp only [Pt.U, Pt.locs, Pt.cells, Pt.slots] at X' e1 e2 h1 h2 h3 st
    subst h1; subst h2; subst h3
    exact Or.inl ⟨v, (T.setVm vm₁).calling g' mk (Value.ref b :: As).toArray, t, U', L, hT, X', hL, e1, e2, hq, st⟩
  · dsimp only [Pt.U, Pt.locs, Pt.cells, Pt.slots] at X' e1 e2 h1 h2 h3 st hcl
    subst h1; subst h2; subst h3
    exact Or.inr ⟨q, (T.setVm vm₁).calling g' mk (Value.ref b :: As).toArray, t, U', L, E, ce, hT, X', hL, e1, e2, hq, hce, hcv, vx_cls hW₁ hcl, st⟩
theorem vx_runSN {y : MethodName} {bytes cc : ByteArray} {maxL nL mc ms n index : Nat} {ret : Option FieldType} {ws : List Cond} {rm : Room} {Pc : Array Value → State → Prop} {Qc : Array Value → State → Outcome → State → Prop} {XC : String → State → State → Prop} {free : Addr → Prop} {Ts : List Cond} {own host : String} {As rest : List Value} {g : JFrame}
    (S : CallFix p m c cc nL s args Ts own) (hM : vx_Met l y ws rm Pc Qc XC mc ms free) (cw : va_CN R s args own index y host bytes maxL ret ws rm mc ms n ∧ (Cond.static y).before args s = true ∧ True) (hp : PreS s H Pc As)
    (hg : g.method = m) (hn : As.length = n) (hsize : g.locals.size = nL) (hstack : g.stack = As.reverse ++ rest) (hW : 2 * g.monitorRoom + (rest.map fun v => v.category).sum ≤ 8) (hdg : decode cc g.pc = .ok (.invokestatic index, 3)) (hf : cells + mc ≤ R.cells ∧ slots + ms ≤ R.slots) :
    vx_Run p l e R s m args below meth c H locs cells slots mc ms g rest (Qc As.toArray) XC free := by
  obtain ⟨⟨⟨hrc, hrs, hfr, hlo, hws, hcw⟩, hcode, hini, hy, hlen, hl⟩, hx1, hx2⟩ := cw
  have hK : vx_Back l R p e below s args y 3 8 (PreOf R mc ms Pc) (PostOf Qc mc ms free) (vx_Post XC mc ms free) := vx_back (bytes := bytes) (maxL := maxL) (ret := ret) hM hp.1 hrc hrs hfr hlo hws hcw (fun a' U hW => word_at hW (Or.inl (by first | rfl | simp [Cond.onTables, Cond.keeps, Cond.steady])) hini)
  obtain ⟨hx, hb, hml, ho, -⟩ := S
  have hPc := hp.2
  intro T hT X
  rcases vx_callSN X hx (bytes := bytes) (maxL := maxL) (ret := ret) ho hl hx1 hini hcode hy hK hg (hsize.trans hml.symm) (argsL := As) (rest := rest) (fun sig h => hn.trans (hlen sig h)) hstack hW (by rw [hb]; exact hdg)
    (fun vm₁ hW₁ => ⟨hf.1, hf.2, hPc (T.setVm vm₁) hT hW₁⟩) with ⟨v, vm₁, ⟨U', l2, c2, s2⟩, hW₁, X', ⟨g', mk, t, L, e1, e2, hq, h1, hL, h2, h3⟩, st⟩ | ⟨q, vm₁, ⟨U', l2, c2, s2⟩, hW₁, X', ⟨g', mk, t, L, E, ce, e1, e2, hq, hce, hcv, hcl, h1, hL, h2, h3⟩, st⟩
  · dsimp only [Pt.U, Pt.locs, Pt.cells, Pt.slots] at X' e1 e2 h1 h2 h3 st
    subst h1; subst h2; subst h3
    exact Or.inl ⟨v, (T.setVm vm₁).calling g' mk As.toArray, t, U', L, hT, X', hL, e1, e2, hq, st⟩
  · dsimp only [Pt.U, Pt.locs, Pt.cells, Pt.slots] at X' e1 e2 h1 h2 h3 st hcl
    subst h1; subst h2; subst h3
    exact Or.inr ⟨q, (T.setVm vm₁).calling g' mk As.toArray, t, U', L, E, ce, hT, X', hL, e1, e2, hq, hce, hcv, vx_cls hW₁ hcl, st⟩
end
/-! ===== END ===== -/
end
section
def RJx4a65c : String := "java/util/ArrayList"
def TJx4a65c : u_T := fun k => match k with
  | 0 => ("java/util/AbstractList", "modCount", "I", false)
  | 1 => ("java/util/ArrayList", "elementData", "[Ljava/lang/Object;", false)
  | _ => ("java/util/ArrayList", "size", "I", false)
def tyJx4a65c : Nat → FieldType := fun k => match k with
  | 0 => .int
  | 1 => .array (.object "java/lang/Object")
  | _ => .int
theorem nmJx4a65c : ∀ a, a < 3 → ∀ b, b < 3 → a ≠ b → (TJx4a65c a).2.1 ≠ (TJx4a65c b).2.1 := by decide +kernel
theorem tyJx4a65c_ok : ∀ k, k < 3 → parseFieldDescriptor (TJx4a65c k).2.2.1 = some (tyJx4a65c k) := by decide +kernel
def RX1 : String := "Hymnwright$Feast"
def TX1 : u_T := fun k => match k with
  | 0 => ("Hymnwright$Feast", "rank", "I", true)
  | 1 => ("Hymnwright$Feast", "isPutOff", "Z", true)
  | 2 => ("Hymnwright$Feast", "month", "I", true)
  | 3 => ("Hymnwright$Feast", "day", "I", true)
  | _ => ("Hymnwright$Feast", "readings", "LHymnwright$Readings;", true)
def tyX1 : Nat → FieldType := fun k => match k with
  | 0 => .int
  | 1 => .boolean
  | 2 => .int
  | 3 => .int
  | _ => .object "Hymnwright$Readings"
theorem nmX1 : ∀ a, a < 5 → ∀ b, b < 5 → a ≠ b → (TX1 a).2.1 ≠ (TX1 b).2.1 := by decide +kernel
theorem tyX1_ok : ∀ k, k < 5 → parseFieldDescriptor (TX1 k).2.2.1 = some (tyX1 k) := by decide +kernel
def RX2 : String := "Hymnwright$Readings"
def TX2 : u_T := fun k => match k with
  | _ => ("Hymnwright$Readings", "themes", "[I", true)
def tyX2 : Nat → FieldType := fun k => match k with
  | _ => .array .int
theorem nmX2 : ∀ a, a < 1 → ∀ b, b < 1 → a ≠ b → (TX2 a).2.1 ≠ (TX2 b).2.1 := by decide +kernel
theorem tyX2_ok : ∀ k, k < 1 → parseFieldDescriptor (TX2 k).2.2.1 = some (tyX2 k) := by decide +kernel
def RX3 : String := "Hymnwright$Rights"
def TX3 : u_T := fun k => match k with
  | 0 => ("Hymnwright$Rights", "died", "I", true)
  | _ => ("Hymnwright$Rights", "isAllowed", "Z", false)
def tyX3 : Nat → FieldType := fun k => match k with
  | 0 => .int
  | _ => .boolean
theorem nmX3 : ∀ a, a < 2 → ∀ b, b < 2 → a ≠ b → (TX3 a).2.1 ≠ (TX3 b).2.1 := by decide +kernel
theorem tyX3_ok : ∀ k, k < 2 → parseFieldDescriptor (TX3 k).2.2.1 = some (tyX3 k) := by decide +kernel
def RX4 : String := "Hymnwright$Rows"
def TX4 : u_T := fun k => match k with
  | 0 => ("Hymnwright$Rows", "lengths", "[I", true)
  | 1 => ("Hymnwright$Rows", "marks", "[I", true)
  | _ => ("Hymnwright$Rows", "count", "I", false)
def tyX4 : Nat → FieldType := fun k => match k with
  | 0 => .array .int
  | 1 => .array .int
  | _ => .int
theorem nmX4 : ∀ a, a < 3 → ∀ b, b < 3 → a ≠ b → (TX4 a).2.1 ≠ (TX4 b).2.1 := by decide +kernel
theorem tyX4_ok : ∀ k, k < 3 → parseFieldDescriptor (TX4 k).2.2.1 = some (tyX4 k) := by decide +kernel
def RX5 : String := "Hymnwright$Service"
def TX5 : u_T := fun k => match k with
  | 0 => ("Hymnwright$Service", "hymn", "LHymnwright$Text;", true)
  | 1 => ("Hymnwright$Service", "itsTune", "LHymnwright$Tune;", true)
  | 2 => ("Hymnwright$Service", "year", "I", true)
  | 3 => ("Hymnwright$Service", "monthAndDay", "I", true)
  | _ => ("Hymnwright$Service", "dayNumber", "I", true)
def tyX5 : Nat → FieldType := fun k => match k with
  | 0 => .object "Hymnwright$Text"
  | 1 => .object "Hymnwright$Tune"
  | 2 => .int
  | 3 => .int
  | _ => .int
theorem nmX5 : ∀ a, a < 5 → ∀ b, b < 5 → a ≠ b → (TX5 a).2.1 ≠ (TX5 b).2.1 := by decide +kernel
theorem tyX5_ok : ∀ k, k < 5 → parseFieldDescriptor (TX5 k).2.2.1 = some (tyX5 k) := by decide +kernel
def RX6 : String := "Hymnwright$Text"
def TX6 : u_T := fun k => match k with
  | 0 => ("Hymnwright$Text", "number", "I", true)
  | 1 => ("Hymnwright$Text", "themes", "I", true)
  | 2 => ("Hymnwright$Text", "rights", "LHymnwright$Rights;", true)
  | _ => ("Hymnwright$Text", "lines", "LHymnwright$Rows;", true)
def tyX6 : Nat → FieldType := fun k => match k with
  | 0 => .int
  | 1 => .int
  | 2 => .object "Hymnwright$Rights"
  | _ => .object "Hymnwright$Rows"
theorem nmX6 : ∀ a, a < 4 → ∀ b, b < 4 → a ≠ b → (TX6 a).2.1 ≠ (TX6 b).2.1 := by decide +kernel
theorem tyX6_ok : ∀ k, k < 4 → parseFieldDescriptor (TX6 k).2.2.1 = some (tyX6 k) := by decide +kernel
def RX7 : String := "Hymnwright$Tune"
def TX7 : u_T := fun k => match k with
  | 0 => ("Hymnwright$Tune", "number", "I", true)
  | 1 => ("Hymnwright$Tune", "low", "I", true)
  | 2 => ("Hymnwright$Tune", "high", "I", true)
  | 3 => ("Hymnwright$Tune", "rights", "LHymnwright$Rights;", true)
  | _ => ("Hymnwright$Tune", "phrases", "LHymnwright$Rows;", true)
def tyX7 : Nat → FieldType := fun k => match k with
  | 0 => .int
  | 1 => .int
  | 2 => .int
  | 3 => .object "Hymnwright$Rights"
  | _ => .object "Hymnwright$Rows"
theorem nmX7 : ∀ a, a < 5 → ∀ b, b < 5 → a ≠ b → (TX7 a).2.1 ≠ (TX7 b).2.1 := by decide +kernel
theorem tyX7_ok : ∀ k, k < 5 → parseFieldDescriptor (TX7 k).2.2.1 = some (tyX7 k) := by decide +kernel
def RX8 : String := "Hymnwright$YearPlan"
def TX8 : u_T := fun k => match k with
  | 0 => ("Hymnwright$YearPlan", "feastOfDay", "[I", true)
  | 1 => ("Hymnwright$YearPlan", "dayOfFeast", "[I", true)
  | 2 => ("Hymnwright$YearPlan", "year", "I", false)
  | 3 => ("Hymnwright$YearPlan", "weekdayOfFirst", "I", false)
  | _ => ("Hymnwright$YearPlan", "sundayRank", "I", false)
def tyX8 : Nat → FieldType := fun k => match k with
  | 0 => .array .int
  | 1 => .array .int
  | 2 => .int
  | 3 => .int
  | _ => .int
theorem nmX8 : ∀ a, a < 5 → ∀ b, b < 5 → a ≠ b → (TX8 a).2.1 ≠ (TX8 b).2.1 := by decide +kernel
theorem tyX8_ok : ∀ k, k < 5 → parseFieldDescriptor (TX8 k).2.2.1 = some (tyX8 k) := by decide +kernel
def RX9 : String := "Hymnwright"
def TX9 : u_T := fun k => match k with
  | 0 => ("Hymnwright", "texts", "Ljava/util/ArrayList;", true)
  | 1 => ("Hymnwright", "tunes", "Ljava/util/ArrayList;", true)
  | 2 => ("Hymnwright", "feasts", "Ljava/util/ArrayList;", true)
  | 3 => ("Hymnwright", "services", "Ljava/util/ArrayList;", true)
  | 4 => ("Hymnwright", "sundayReadings", "LHymnwright$Readings;", true)
  | 5 => ("Hymnwright", "plan", "LHymnwright$YearPlan;", true)
  | _ => ("Hymnwright", "sundayRank", "I", false)
def tyX9 : Nat → FieldType := fun k => match k with
  | 0 => .object "java/util/ArrayList"
  | 1 => .object "java/util/ArrayList"
  | 2 => .object "java/util/ArrayList"
  | 3 => .object "java/util/ArrayList"
  | 4 => .object "Hymnwright$Readings"
  | 5 => .object "Hymnwright$YearPlan"
  | _ => .int
theorem nmX9 : ∀ a, a < 7 → ∀ b, b < 7 → a ≠ b → (TX9 a).2.1 ≠ (TX9 b).2.1 := by decide +kernel
theorem tyX9_ok : ∀ k, k < 7 → parseFieldDescriptor (TX9 k).2.2.1 = some (tyX9 k) := by decide +kernel
def RX10 : String := "HymnwrightModel"
def TX10 : u_T := fun k => match k with
  | 0 => ("HymnwrightModel", "texts", "I", false)
  | 1 => ("HymnwrightModel", "textDied", "[I", true)
  | 2 => ("HymnwrightModel", "themes", "[I", true)
  | 3 => ("HymnwrightModel", "textAllowed", "[Z", true)
  | 4 => ("HymnwrightModel", "lines", "[I", true)
  | 5 => ("HymnwrightModel", "syllables", "[I", true)
  | 6 => ("HymnwrightModel", "stressed", "[I", true)
  | 7 => ("HymnwrightModel", "tunes", "I", false)
  | 8 => ("HymnwrightModel", "tuneDied", "[I", true)
  | 9 => ("HymnwrightModel", "tuneAllowed", "[Z", true)
  | 10 => ("HymnwrightModel", "lowest", "[I", true)
  | 11 => ("HymnwrightModel", "highest", "[I", true)
  | 12 => ("HymnwrightModel", "phrases", "[I", true)
  | 13 => ("HymnwrightModel", "notes", "[I", true)
  | 14 => ("HymnwrightModel", "strong", "[I", true)
  | 15 => ("HymnwrightModel", "feasts", "I", false)
  | 16 => ("HymnwrightModel", "ranks", "[I", true)
  | 17 => ("HymnwrightModel", "isPutOff", "[Z", true)
  | 18 => ("HymnwrightModel", "isMoving", "[Z", true)
  | 19 => ("HymnwrightModel", "months", "[I", true)
  | 20 => ("HymnwrightModel", "days", "[I", true)
  | 21 => ("HymnwrightModel", "sundays", "I", false)
  | 22 => ("HymnwrightModel", "readings", "[I", true)
  | 23 => ("HymnwrightModel", "put", "[I", true)
  | 24 => ("HymnwrightModel", "place", "[I", true)
  | 25 => ("HymnwrightModel", "services", "I", false)
  | 26 => ("HymnwrightModel", "sungText", "[I", true)
  | 27 => ("HymnwrightModel", "sungTune", "[I", true)
  | 28 => ("HymnwrightModel", "sungYear", "[I", true)
  | 29 => ("HymnwrightModel", "sungPlace", "[I", true)
  | _ => ("HymnwrightModel", "thrown", "I", false)
def tyX10 : Nat → FieldType := fun k => match k with
  | 0 => .int
  | 1 => .array .int
  | 2 => .array .int
  | 3 => .array .boolean
  | 4 => .array .int
  | 5 => .array .int
  | 6 => .array .int
  | 7 => .int
  | 8 => .array .int
  | 9 => .array .boolean
  | 10 => .array .int
  | 11 => .array .int
  | 12 => .array .int
  | 13 => .array .int
  | 14 => .array .int
  | 15 => .int
  | 16 => .array .int
  | 17 => .array .boolean
  | 18 => .array .boolean
  | 19 => .array .int
  | 20 => .array .int
  | 21 => .int
  | 22 => .array .int
  | 23 => .array .int
  | 24 => .array .int
  | 25 => .int
  | 26 => .array .int
  | 27 => .array .int
  | 28 => .array .int
  | 29 => .array .int
  | _ => .int
theorem nmX10 : ∀ a, a < 31 → ∀ b, b < 31 → a ≠ b → (TX10 a).2.1 ≠ (TX10 b).2.1 := by decide +kernel
theorem tyX10_ok : ∀ k, k < 31 → parseFieldDescriptor (TX10 k).2.2.1 = some (tyX10 k) := by decide +kernel
def RX0 : String := "Hymnwright$Days"
def RJxa1e45 : String := "java/util/AbstractCollection"
def RJxc12de : String := "java/util/AbstractList"
def RJ6 : String := "java/lang/Integer"
def RJ7 : String := "java/util/Arrays"
def RJ8 : String := "jdk/internal/util/ArraysSupport"
def RJ9 : String := "java/lang/Math"
def RJ3 : String := "jdk/internal/util/Preconditions"
def RJ15 : String := "java/util/Objects"
def RL : String := "HymnwrightLaw"
abbrev cX0_isLeap : ByteArray := prog_2_method_2_code
def yX0_isLeap : MethodName := ⟨RX0, "isLeap", "(I)Z"⟩
abbrev cX0_yearLength : ByteArray := prog_2_method_3_code
def yX0_yearLength : MethodName := ⟨RX0, "yearLength", "(I)I"⟩
abbrev cX0_monthLength : ByteArray := prog_2_method_4_code
def yX0_monthLength : MethodName := ⟨RX0, "monthLength", "(II)I"⟩
abbrev cX0_dayOfYear : ByteArray := prog_2_method_5_code
def yX0_dayOfYear : MethodName := ⟨RX0, "dayOfYear", "(III)I"⟩
abbrev cX0_monthAndDay : ByteArray := prog_2_method_6_code
def yX0_monthAndDay : MethodName := ⟨RX0, "monthAndDay", "(II)I"⟩
abbrev cX0_dayNumber : ByteArray := prog_2_method_7_code
def yX0_dayNumber : MethodName := ⟨RX0, "dayNumber", "(II)I"⟩
abbrev cX0_dayOfWeek : ByteArray := prog_2_method_8_code
def yX0_dayOfWeek : MethodName := ⟨RX0, "dayOfWeek", "(II)I"⟩
abbrev cX0_easterAsDayOfMarch : ByteArray := prog_2_method_9_code
def yX0_easterAsDayOfMarch : MethodName := ⟨RX0, "easterAsDayOfMarch", "(I)I"⟩
abbrev cX0_easterByRests : ByteArray := prog_2_method_10_code
def yX0_easterByRests : MethodName := ⟨RX0, "easterByRests", "(I)I"⟩
abbrev cX1_init : ByteArray := prog_3_method_1_code
def yX1_init : MethodName := ⟨RX1, "<init>", "(IZII)V"⟩
abbrev cX1_ownDay : ByteArray := prog_3_method_2_code
def yX1_ownDay : MethodName := ⟨RX1, "ownDay", "(I)I"⟩
abbrev cX2_init : ByteArray := prog_4_method_1_code
def yX2_init : MethodName := ⟨RX2, "<init>", "()V"⟩
abbrev cX2_themeIn : ByteArray := prog_4_method_2_code
def yX2_themeIn : MethodName := ⟨RX2, "themeIn", "(I)I"⟩
abbrev cX2_replace : ByteArray := prog_4_method_3_code
def yX2_replace : MethodName := ⟨RX2, "replace", "(II)I"⟩
abbrev cX3_init : ByteArray := prog_5_method_1_code
def yX3_init : MethodName := ⟨RX3, "<init>", "(I)V"⟩
abbrev cX3_setAllowed : ByteArray := prog_5_method_2_code
def yX3_setAllowed : MethodName := ⟨RX3, "setAllowed", "(Z)Z"⟩
abbrev cX3_isFreeIn : ByteArray := prog_5_method_3_code
def yX3_isFreeIn : MethodName := ⟨RX3, "isFreeIn", "(I)Z"⟩
abbrev cX4_init : ByteArray := prog_6_method_1_code
def yX4_init : MethodName := ⟨RX4, "<init>", "()V"⟩
abbrev cX4_append : ByteArray := prog_6_method_2_code
def yX4_append : MethodName := ⟨RX4, "append", "(II)V"⟩
abbrev cX4_lengthAt : ByteArray := prog_6_method_3_code
def yX4_lengthAt : MethodName := ⟨RX4, "lengthAt", "(I)I"⟩
abbrev cX4_marksAt : ByteArray := prog_6_method_4_code
def yX4_marksAt : MethodName := ⟨RX4, "marksAt", "(I)I"⟩
abbrev cX4_hasMetreOf : ByteArray := prog_6_method_5_code
def yX4_hasMetreOf : MethodName := ⟨RX4, "hasMetreOf", "(LHymnwright$Rows;)Z"⟩
abbrev cX4_hasMetreFrom : ByteArray := prog_6_method_6_code
def yX4_hasMetreFrom : MethodName := ⟨RX4, "hasMetreFrom", "(ILHymnwright$Rows;)Z"⟩
abbrev cX5_init : ByteArray := prog_7_method_1_code
def yX5_init : MethodName := ⟨RX5, "<init>", "(LHymnwright$Text;LHymnwright$Tune;III)V"⟩
abbrev cX6_init : ByteArray := prog_8_method_1_code
def yX6_init : MethodName := ⟨RX6, "<init>", "(III)V"⟩
abbrev cX6_hasTheme : ByteArray := prog_8_method_2_code
def yX6_hasTheme : MethodName := ⟨RX6, "hasTheme", "(I)Z"⟩
abbrev cX7_init : ByteArray := prog_9_method_1_code
def yX7_init : MethodName := ⟨RX7, "<init>", "(IIII)V"⟩
abbrev cX8_init : ByteArray := prog_10_method_1_code
def yX8_init : MethodName := ⟨RX8, "<init>", "()V"⟩
abbrev cX8_layOut : ByteArray := prog_10_method_2_code
def yX8_layOut : MethodName := ⟨RX8, "layOut", "(ILjava/util/ArrayList;I)V"⟩
abbrev cX8_put : ByteArray := prog_10_method_3_code
def yX8_put : MethodName := ⟨RX8, "put", "(ILHymnwright$Feast;)V"⟩
abbrev cX8_isOpen : ByteArray := prog_10_method_4_code
def yX8_isOpen : MethodName := ⟨RX8, "isOpen", "(II)Z"⟩
abbrev cX8_isSunday : ByteArray := prog_10_method_5_code
def yX8_isSunday : MethodName := ⟨RX8, "isSunday", "(I)Z"⟩
abbrev cX8_keptOn : ByteArray := prog_10_method_6_code
def yX8_keptOn : MethodName := ⟨RX8, "keptOn", "(I)I"⟩
abbrev cX8_dayOfFeast : ByteArray := prog_10_method_7_code
def yX8_dayOfFeast : MethodName := ⟨RX8, "dayOfFeast", "(I)I"⟩
abbrev cX9_init : ByteArray := prog_1_method_1_code
def yX9_init : MethodName := ⟨RX9, "<init>", "()V"⟩
abbrev cX9_text : ByteArray := prog_1_method_2_code
def yX9_text : MethodName := ⟨RX9, "text", "(II)I"⟩
abbrev cX9_line : ByteArray := prog_1_method_3_code
def yX9_line : MethodName := ⟨RX9, "line", "(III)I"⟩
abbrev cX9_tune : ByteArray := prog_1_method_4_code
def yX9_tune : MethodName := ⟨RX9, "tune", "(III)I"⟩
abbrev cX9_phrase : ByteArray := prog_1_method_5_code
def yX9_phrase : MethodName := ⟨RX9, "phrase", "(III)I"⟩
abbrev cX9_fits : ByteArray := prog_1_method_6_code
def yX9_fits : MethodName := ⟨RX9, "fits", "(II)I"⟩
abbrev cX9_clashes : ByteArray := prog_1_method_7_code
def yX9_clashes : MethodName := ⟨RX9, "clashes", "(II)I"⟩
abbrev cX9_best : ByteArray := prog_1_method_8_code
def yX9_best : MethodName := ⟨RX9, "best", "(I)I"⟩
abbrev cX9_alike : ByteArray := prog_1_method_9_code
def yX9_alike : MethodName := ⟨RX9, "alike", "(I)I"⟩
abbrev cX9_metres : ByteArray := prog_1_method_10_code
def yX9_metres : MethodName := ⟨RX9, "metres", "()I"⟩
abbrev cX9_allowText : ByteArray := prog_1_method_11_code
def yX9_allowText : MethodName := ⟨RX9, "allowText", "(IZ)Z"⟩
abbrev cX9_allowTune : ByteArray := prog_1_method_12_code
def yX9_allowTune : MethodName := ⟨RX9, "allowTune", "(IZ)Z"⟩
abbrev cX9_shift : ByteArray := prog_1_method_13_code
def yX9_shift : MethodName := ⟨RX9, "shift", "(III)I"⟩
abbrev cX9_easter : ByteArray := prog_1_method_14_code
def yX9_easter : MethodName := ⟨RX9, "easter", "(I)I"⟩
abbrev cX9_easterAnew : ByteArray := prog_1_method_15_code
def yX9_easterAnew : MethodName := ⟨RX9, "easterAnew", "(I)I"⟩
abbrev cX9_weekday : ByteArray := prog_1_method_16_code
def yX9_weekday : MethodName := ⟨RX9, "weekday", "(III)I"⟩
abbrev cX9_feast : ByteArray := prog_1_method_17_code
def yX9_feast : MethodName := ⟨RX9, "feast", "(IZII)I"⟩
abbrev cX9_moving : ByteArray := prog_1_method_18_code
def yX9_moving : MethodName := ⟨RX9, "moving", "(IZI)I"⟩
abbrev cX9_sundays : ByteArray := prog_1_method_19_code
def yX9_sundays : MethodName := ⟨RX9, "sundays", "(I)I"⟩
abbrev cX9_reading : ByteArray := prog_1_method_20_code
def yX9_reading : MethodName := ⟨RX9, "reading", "(III)I"⟩
abbrev cX9_kept : ByteArray := prog_1_method_21_code
def yX9_kept : MethodName := ⟨RX9, "kept", "(III)I"⟩
abbrev cX9_when : ByteArray := prog_1_method_22_code
def yX9_when : MethodName := ⟨RX9, "when", "(II)I"⟩
abbrev cX9_whenAnew : ByteArray := prog_1_method_23_code
def yX9_whenAnew : MethodName := ⟨RX9, "whenAnew", "(II)I"⟩
abbrev cX9_theme : ByteArray := prog_1_method_24_code
def yX9_theme : MethodName := ⟨RX9, "theme", "(III)I"⟩
abbrev cX9_why : ByteArray := prog_1_method_25_code
def yX9_why : MethodName := ⟨RX9, "why", "(IIII)I"⟩
abbrev cX9_sing : ByteArray := prog_1_method_26_code
def yX9_sing : MethodName := ⟨RX9, "sing", "(III)I"⟩
abbrev cX9_service : ByteArray := prog_1_method_27_code
def yX9_service : MethodName := ⟨RX9, "service", "(II)I"⟩
abbrev cX9_sung : ByteArray := prog_1_method_28_code
def yX9_sung : MethodName := ⟨RX9, "sung", "(I)I"⟩
abbrev cX9_requireRange : ByteArray := prog_1_method_29_code
def yX9_requireRange : MethodName := ⟨RX9, "requireRange", "(III)V"⟩
abbrev cX9_requireDay : ByteArray := prog_1_method_30_code
def yX9_requireDay : MethodName := ⟨RX9, "requireDay", "(III)V"⟩
abbrev cX9_requireIndex : ByteArray := prog_1_method_31_code
def yX9_requireIndex : MethodName := ⟨RX9, "requireIndex", "(II)V"⟩
abbrev cX9_textAt : ByteArray := prog_1_method_32_code
def yX9_textAt : MethodName := ⟨RX9, "textAt", "(I)LHymnwright$Text;"⟩
abbrev cX9_tuneAt : ByteArray := prog_1_method_33_code
def yX9_tuneAt : MethodName := ⟨RX9, "tuneAt", "(I)LHymnwright$Tune;"⟩
abbrev cX9_feastAt : ByteArray := prog_1_method_34_code
def yX9_feastAt : MethodName := ⟨RX9, "feastAt", "(I)LHymnwright$Feast;"⟩
abbrev cX9_addRow : ByteArray := prog_1_method_35_code
def yX9_addRow : MethodName := ⟨RX9, "addRow", "(LHymnwright$Rows;II)I"⟩
abbrev cX9_addFeast : ByteArray := prog_1_method_36_code
def yX9_addFeast : MethodName := ⟨RX9, "addFeast", "(LHymnwright$Feast;)I"⟩
abbrev cX9_timesThrough : ByteArray := prog_1_method_37_code
def yX9_timesThrough : MethodName := ⟨RX9, "timesThrough", "(LHymnwright$Text;LHymnwright$Tune;)I"⟩
abbrev cX9_countClashes : ByteArray := prog_1_method_38_code
def yX9_countClashes : MethodName := ⟨RX9, "countClashes", "(LHymnwright$Text;LHymnwright$Tune;)I"⟩
abbrev cX9_bestTune : ByteArray := prog_1_method_39_code
def yX9_bestTune : MethodName := ⟨RX9, "bestTune", "(LHymnwright$Text;ZI)LHymnwright$Tune;"⟩
abbrev cX9_isFirstOfItsMetre : ByteArray := prog_1_method_40_code
def yX9_isFirstOfItsMetre : MethodName := ⟨RX9, "isFirstOfItsMetre", "(LHymnwright$Tune;)Z"⟩
abbrev cX9_themeOf : ByteArray := prog_1_method_41_code
def yX9_themeOf : MethodName := ⟨RX9, "themeOf", "(II)I"⟩
abbrev cX9_reasonAgainst : ByteArray := prog_1_method_42_code
def yX9_reasonAgainst : MethodName := ⟨RX9, "reasonAgainst", "(LHymnwright$Text;III)I"⟩
abbrev cX9_wasSungLately : ByteArray := prog_1_method_43_code
def yX9_wasSungLately : MethodName := ⟨RX9, "wasSungLately", "(LHymnwright$Text;I)Z"⟩
abbrev cX9_chooseText : ByteArray := prog_1_method_44_code
def yX9_chooseText : MethodName := ⟨RX9, "chooseText", "(III)LHymnwright$Text;"⟩
abbrev cX9_countServices : ByteArray := prog_1_method_45_code
def yX9_countServices : MethodName := ⟨RX9, "countServices", "(LHymnwright$Text;)I"⟩
abbrev cX9_isBehindLatestService : ByteArray := prog_1_method_46_code
def yX9_isBehindLatestService : MethodName := ⟨RX9, "isBehindLatestService", "(I)Z"⟩
abbrev cX10_init : ByteArray := prog_12_method_1_code
def yX10_init : MethodName := ⟨RX10, "<init>", "()V"⟩
abbrev cX10_thrown : ByteArray := prog_12_method_2_code
def yX10_thrown : MethodName := ⟨RX10, "thrown", "()I"⟩
abbrev cX10_isIn : ByteArray := prog_12_method_3_code
def yX10_isIn : MethodName := ⟨RX10, "isIn", "(III)Z"⟩
abbrev cX10_isDeath : ByteArray := prog_12_method_4_code
def yX10_isDeath : MethodName := ⟨RX10, "isDeath", "(I)Z"⟩
abbrev cX10_isText : ByteArray := prog_12_method_5_code
def yX10_isText : MethodName := ⟨RX10, "isText", "(I)Z"⟩
abbrev cX10_isTune : ByteArray := prog_12_method_6_code
def yX10_isTune : MethodName := ⟨RX10, "isTune", "(I)Z"⟩
abbrev cX10_text : ByteArray := prog_12_method_7_code
def yX10_text : MethodName := ⟨RX10, "text", "(II)I"⟩
abbrev cX10_isLine : ByteArray := prog_12_method_8_code
def yX10_isLine : MethodName := ⟨RX10, "isLine", "(II)Z"⟩
abbrev cX10_line : ByteArray := prog_12_method_9_code
def yX10_line : MethodName := ⟨RX10, "line", "(III)I"⟩
abbrev cX10_tune : ByteArray := prog_12_method_10_code
def yX10_tune : MethodName := ⟨RX10, "tune", "(III)I"⟩
abbrev cX10_phrase : ByteArray := prog_12_method_11_code
def yX10_phrase : MethodName := ⟨RX10, "phrase", "(III)I"⟩
abbrev cX10_fit : ByteArray := prog_12_method_12_code
def yX10_fit : MethodName := ⟨RX10, "fit", "(II)I"⟩
abbrev cX10_fits : ByteArray := prog_12_method_13_code
def yX10_fits : MethodName := ⟨RX10, "fits", "(II)I"⟩
abbrev cX10_clash : ByteArray := prog_12_method_14_code
def yX10_clash : MethodName := ⟨RX10, "clash", "(II)I"⟩
abbrev cX10_clashes : ByteArray := prog_12_method_15_code
def yX10_clashes : MethodName := ⟨RX10, "clashes", "(II)I"⟩
abbrev cX10_isTuneFree : ByteArray := prog_12_method_16_code
def yX10_isTuneFree : MethodName := ⟨RX10, "isTuneFree", "(II)Z"⟩
abbrev cX10_bestOf : ByteArray := prog_12_method_17_code
def yX10_bestOf : MethodName := ⟨RX10, "bestOf", "(IZI)I"⟩
abbrev cX10_best : ByteArray := prog_12_method_18_code
def yX10_best : MethodName := ⟨RX10, "best", "(I)I"⟩
abbrev cX10_areAlike : ByteArray := prog_12_method_19_code
def yX10_areAlike : MethodName := ⟨RX10, "areAlike", "(II)Z"⟩
abbrev cX10_alike : ByteArray := prog_12_method_20_code
def yX10_alike : MethodName := ⟨RX10, "alike", "(I)I"⟩
abbrev cX10_metres : ByteArray := prog_12_method_21_code
def yX10_metres : MethodName := ⟨RX10, "metres", "()I"⟩
abbrev cX10_allowText : ByteArray := prog_12_method_22_code
def yX10_allowText : MethodName := ⟨RX10, "allowText", "(IZ)Z"⟩
abbrev cX10_allowTune : ByteArray := prog_12_method_23_code
def yX10_allowTune : MethodName := ⟨RX10, "allowTune", "(IZ)Z"⟩
abbrev cX10_shift : ByteArray := prog_12_method_24_code
def yX10_shift : MethodName := ⟨RX10, "shift", "(III)I"⟩
abbrev cX10_isYear : ByteArray := prog_12_method_25_code
def yX10_isYear : MethodName := ⟨RX10, "isYear", "(I)Z"⟩
abbrev cX10_isLong : ByteArray := prog_12_method_26_code
def yX10_isLong : MethodName := ⟨RX10, "isLong", "(I)Z"⟩
abbrev cX10_daysOf : ByteArray := prog_12_method_27_code
def yX10_daysOf : MethodName := ⟨RX10, "daysOf", "(II)I"⟩
abbrev cX10_isDay : ByteArray := prog_12_method_28_code
def yX10_isDay : MethodName := ⟨RX10, "isDay", "(III)Z"⟩
abbrev cX10_placeOf : ByteArray := prog_12_method_29_code
def yX10_placeOf : MethodName := ⟨RX10, "placeOf", "(III)I"⟩
abbrev cX10_dateOf : ByteArray := prog_12_method_30_code
def yX10_dateOf : MethodName := ⟨RX10, "dateOf", "(II)I"⟩
abbrev cX10_lengthOf : ByteArray := prog_12_method_31_code
def yX10_lengthOf : MethodName := ⟨RX10, "lengthOf", "(I)I"⟩
abbrev cX10_before : ByteArray := prog_12_method_32_code
def yX10_before : MethodName := ⟨RX10, "before", "(I)I"⟩
abbrev cX10_weekdayOf : ByteArray := prog_12_method_33_code
def yX10_weekdayOf : MethodName := ⟨RX10, "weekdayOf", "(II)I"⟩
abbrev cX10_easterOf : ByteArray := prog_12_method_34_code
def yX10_easterOf : MethodName := ⟨RX10, "easterOf", "(I)I"⟩
abbrev cX10_tellsEaster : ByteArray := prog_12_method_35_code
def yX10_tellsEaster : MethodName := ⟨RX10, "tellsEaster", "(I)I"⟩
abbrev cX10_easter : ByteArray := prog_12_method_36_code
def yX10_easter : MethodName := ⟨RX10, "easter", "(I)I"⟩
abbrev cX10_easterAnew : ByteArray := prog_12_method_37_code
def yX10_easterAnew : MethodName := ⟨RX10, "easterAnew", "(I)I"⟩
abbrev cX10_weekday : ByteArray := prog_12_method_38_code
def yX10_weekday : MethodName := ⟨RX10, "weekday", "(III)I"⟩
abbrev cX10_isRank : ByteArray := prog_12_method_39_code
def yX10_isRank : MethodName := ⟨RX10, "isRank", "(I)Z"⟩
abbrev cX10_adds : ByteArray := prog_12_method_40_code
def yX10_adds : MethodName := ⟨RX10, "adds", "(IZZII)I"⟩
abbrev cX10_feast : ByteArray := prog_12_method_41_code
def yX10_feast : MethodName := ⟨RX10, "feast", "(IZII)I"⟩
abbrev cX10_moving : ByteArray := prog_12_method_42_code
def yX10_moving : MethodName := ⟨RX10, "moving", "(IZI)I"⟩
abbrev cX10_sundays : ByteArray := prog_12_method_43_code
def yX10_sundays : MethodName := ⟨RX10, "sundays", "(I)I"⟩
abbrev cX10_readingsFrom : ByteArray := prog_12_method_44_code
def yX10_readingsFrom : MethodName := ⟨RX10, "readingsFrom", "(I)I"⟩
abbrev cX10_reading : ByteArray := prog_12_method_45_code
def yX10_reading : MethodName := ⟨RX10, "reading", "(III)I"⟩
abbrev cX10_ownDay : ByteArray := prog_12_method_46_code
def yX10_ownDay : MethodName := ⟨RX10, "ownDay", "(II)I"⟩
abbrev cX10_isOpen : ByteArray := prog_12_method_47_code
def yX10_isOpen : MethodName := ⟨RX10, "isOpen", "(III)Z"⟩
abbrev cX10_puts : ByteArray := prog_12_method_48_code
def yX10_puts : MethodName := ⟨RX10, "puts", "(II)V"⟩
abbrev cX10_laysYear : ByteArray := prog_12_method_49_code
def yX10_laysYear : MethodName := ⟨RX10, "laysYear", "(I)V"⟩
abbrev cX10_keptOn : ByteArray := prog_12_method_50_code
def yX10_keptOn : MethodName := ⟨RX10, "keptOn", "(II)I"⟩
abbrev cX10_kept : ByteArray := prog_12_method_51_code
def yX10_kept : MethodName := ⟨RX10, "kept", "(III)I"⟩
abbrev cX10_tellsWhen : ByteArray := prog_12_method_52_code
def yX10_tellsWhen : MethodName := ⟨RX10, "tellsWhen", "(II)I"⟩
abbrev cX10_when : ByteArray := prog_12_method_53_code
def yX10_when : MethodName := ⟨RX10, "when", "(II)I"⟩
abbrev cX10_whenAnew : ByteArray := prog_12_method_54_code
def yX10_whenAnew : MethodName := ⟨RX10, "whenAnew", "(II)I"⟩
abbrev cX10_themeOn : ByteArray := prog_12_method_55_code
def yX10_themeOn : MethodName := ⟨RX10, "themeOn", "(II)I"⟩
abbrev cX10_theme : ByteArray := prog_12_method_56_code
def yX10_theme : MethodName := ⟨RX10, "theme", "(III)I"⟩
abbrev cX10_wasLately : ByteArray := prog_12_method_57_code
def yX10_wasLately : MethodName := ⟨RX10, "wasLately", "(III)Z"⟩
abbrev cX10_reason : ByteArray := prog_12_method_58_code
def yX10_reason : MethodName := ⟨RX10, "reason", "(IIII)I"⟩
abbrev cX10_why : ByteArray := prog_12_method_59_code
def yX10_why : MethodName := ⟨RX10, "why", "(IIII)I"⟩
abbrev cX10_times : ByteArray := prog_12_method_60_code
def yX10_times : MethodName := ⟨RX10, "times", "(I)I"⟩
abbrev cX10_hymn : ByteArray := prog_12_method_61_code
def yX10_hymn : MethodName := ⟨RX10, "hymn", "(III)I"⟩
abbrev cX10_isLater : ByteArray := prog_12_method_62_code
def yX10_isLater : MethodName := ⟨RX10, "isLater", "(II)Z"⟩
abbrev cX10_sing : ByteArray := prog_12_method_63_code
def yX10_sing : MethodName := ⟨RX10, "sing", "(III)I"⟩
abbrev cX10_service : ByteArray := prog_12_method_64_code
def yX10_service : MethodName := ⟨RX10, "service", "(II)I"⟩
abbrev cX10_sung : ByteArray := prog_12_method_65_code
def yX10_sung : MethodName := ⟨RX10, "sung", "(I)I"⟩
abbrev cJ6_bitCount_0f7a4 : ByteArray := prog_19_method_49_code
def yJ6_bitCount_0f7a4 : MethodName := ⟨RJ6, "bitCount", "(I)I"⟩
abbrev cJ9_max_7cf53 : ByteArray := prog_21_method_65_code
def yJ9_max_7cf53 : MethodName := ⟨RJ9, "max", "(II)I"⟩
abbrev cJ9_min_7cf53 : ByteArray := prog_21_method_69_code
def yJ9_min_7cf53 : MethodName := ⟨RJ9, "min", "(II)I"⟩
abbrev cJxa1e45_init_da8c8 : ByteArray := prog_26_method_1_code
def yJxa1e45_init_da8c8 : MethodName := ⟨RJxa1e45, "<init>", "()V"⟩
abbrev cJxc12de_init_da8c8 : ByteArray := prog_27_method_1_code
def yJxc12de_init_da8c8 : MethodName := ⟨RJxc12de, "<init>", "()V"⟩
abbrev cJx4a65c_init_da8c8 : ByteArray := prog_28_method_2_code
def yJx4a65c_init_da8c8 : MethodName := ⟨RJx4a65c, "<init>", "()V"⟩
abbrev cJx4a65c_grow_92f84 : ByteArray := prog_28_method_6_code
def yJx4a65c_grow_92f84 : MethodName := ⟨RJx4a65c, "grow", "(I)[Ljava/lang/Object;"⟩
abbrev cJx4a65c_grow_d5877 : ByteArray := prog_28_method_7_code
def yJx4a65c_grow_d5877 : MethodName := ⟨RJx4a65c, "grow", "()[Ljava/lang/Object;"⟩
abbrev cJx4a65c_size_8abf5 : ByteArray := prog_28_method_8_code
def yJx4a65c_size_8abf5 : MethodName := ⟨RJx4a65c, "size", "()I"⟩
abbrev cJx4a65c_isEmpty_aae02 : ByteArray := prog_28_method_9_code
def yJx4a65c_isEmpty_aae02 : MethodName := ⟨RJx4a65c, "isEmpty", "()Z"⟩
abbrev cJx4a65c_elementData_915e3 : ByteArray := prog_28_method_18_code
def yJx4a65c_elementData_915e3 : MethodName := ⟨RJx4a65c, "elementData", "(I)Ljava/lang/Object;"⟩
abbrev cJx4a65c_get_915e3 : ByteArray := prog_28_method_20_code
def yJx4a65c_get_915e3 : MethodName := ⟨RJx4a65c, "get", "(I)Ljava/lang/Object;"⟩
abbrev cJx4a65c_add_72be8 : ByteArray := prog_28_method_24_code
def yJx4a65c_add_72be8 : MethodName := ⟨RJx4a65c, "add", "(Ljava/lang/Object;[Ljava/lang/Object;I)V"⟩
abbrev cJx4a65c_add_9ea2d : ByteArray := prog_28_method_25_code
def yJx4a65c_add_9ea2d : MethodName := ⟨RJx4a65c, "add", "(Ljava/lang/Object;)Z"⟩
abbrev cJ7_fill_53178 : ByteArray := prog_29_method_103_code
def yJ7_fill_53178 : MethodName := ⟨RJ7, "fill", "([II)V"⟩
abbrev cJ7_copyOf_1904c : ByteArray := prog_29_method_119_code
def yJ7_copyOf_1904c : MethodName := ⟨RJ7, "copyOf", "([Ljava/lang/Object;I)[Ljava/lang/Object;"⟩
abbrev cJ7_copyOf_6403c : ByteArray := prog_29_method_120_code
def yJ7_copyOf_6403c : MethodName := ⟨RJ7, "copyOf", "([Ljava/lang/Object;ILjava/lang/Class;)[Ljava/lang/Object;"⟩
abbrev cJ15_checkIndex_7cf53 : ByteArray := prog_32_method_17_code
def yJ15_checkIndex_7cf53 : MethodName := ⟨RJ15, "checkIndex", "(II)I"⟩
abbrev cJ8_newLength_cabcc : ByteArray := prog_35_method_27_code
def yJ8_newLength_cabcc : MethodName := ⟨RJ8, "newLength", "(III)I"⟩
abbrev cJ8_hugeLength_7cf53 : ByteArray := prog_35_method_28_code
def yJ8_hugeLength_7cf53 : MethodName := ⟨RJ8, "hugeLength", "(II)I"⟩
abbrev cJ3_checkIndex_8e157 : ByteArray := prog_36_method_11_code
def yJ3_checkIndex_8e157 : MethodName := ⟨RJ3, "checkIndex", "(IILjava/util/function/BiFunction;)I"⟩
abbrev cL_text : ByteArray := method_3_code
def yL_text : MethodName := ⟨RL, "text", "(LHymnwright;II[J)I"⟩
abbrev cL_line : ByteArray := method_4_code
def yL_line : MethodName := ⟨RL, "line", "(LHymnwright;III[J)I"⟩
abbrev cL_tune : ByteArray := method_5_code
def yL_tune : MethodName := ⟨RL, "tune", "(LHymnwright;III[J)I"⟩
abbrev cL_phrase : ByteArray := method_6_code
def yL_phrase : MethodName := ⟨RL, "phrase", "(LHymnwright;III[J)I"⟩
abbrev cL_fits : ByteArray := method_7_code
def yL_fits : MethodName := ⟨RL, "fits", "(LHymnwright;II[J)I"⟩
abbrev cL_clashes : ByteArray := method_8_code
def yL_clashes : MethodName := ⟨RL, "clashes", "(LHymnwright;II[J)I"⟩
abbrev cL_best : ByteArray := method_9_code
def yL_best : MethodName := ⟨RL, "best", "(LHymnwright;I[J)I"⟩
abbrev cL_alike : ByteArray := method_10_code
def yL_alike : MethodName := ⟨RL, "alike", "(LHymnwright;I[J)I"⟩
abbrev cL_allowText : ByteArray := method_11_code
def yL_allowText : MethodName := ⟨RL, "allowText", "(LHymnwright;IZ[J)I"⟩
abbrev cL_allowTune : ByteArray := method_12_code
def yL_allowTune : MethodName := ⟨RL, "allowTune", "(LHymnwright;IZ[J)I"⟩
abbrev cL_shift : ByteArray := method_13_code
def yL_shift : MethodName := ⟨RL, "shift", "(LHymnwright;III[J)I"⟩
abbrev cL_easter : ByteArray := method_14_code
def yL_easter : MethodName := ⟨RL, "easter", "(LHymnwright;I[J)I"⟩
abbrev cL_easterAnew : ByteArray := method_15_code
def yL_easterAnew : MethodName := ⟨RL, "easterAnew", "(LHymnwright;I[J)I"⟩
abbrev cL_weekday : ByteArray := method_16_code
def yL_weekday : MethodName := ⟨RL, "weekday", "(LHymnwright;III[J)I"⟩
abbrev cL_feast : ByteArray := method_17_code
def yL_feast : MethodName := ⟨RL, "feast", "(LHymnwright;IZII[J)I"⟩
abbrev cL_moving : ByteArray := method_18_code
def yL_moving : MethodName := ⟨RL, "moving", "(LHymnwright;IZI[J)I"⟩
abbrev cL_sundays : ByteArray := method_19_code
def yL_sundays : MethodName := ⟨RL, "sundays", "(LHymnwright;I[J)I"⟩
abbrev cL_reading : ByteArray := method_20_code
def yL_reading : MethodName := ⟨RL, "reading", "(LHymnwright;III[J)I"⟩
abbrev cL_kept : ByteArray := method_21_code
def yL_kept : MethodName := ⟨RL, "kept", "(LHymnwright;III[J)I"⟩
abbrev cL_when : ByteArray := method_22_code
def yL_when : MethodName := ⟨RL, "when", "(LHymnwright;II[J)I"⟩
abbrev cL_whenAnew : ByteArray := method_23_code
def yL_whenAnew : MethodName := ⟨RL, "whenAnew", "(LHymnwright;II[J)I"⟩
abbrev cL_theme : ByteArray := method_24_code
def yL_theme : MethodName := ⟨RL, "theme", "(LHymnwright;III[J)I"⟩
abbrev cL_why : ByteArray := method_25_code
def yL_why : MethodName := ⟨RL, "why", "(LHymnwright;IIII[J)I"⟩
abbrev cL_sing : ByteArray := method_26_code
def yL_sing : MethodName := ⟨RL, "sing", "(LHymnwright;III[J)I"⟩
abbrev cL_service : ByteArray := method_27_code
def yL_service : MethodName := ⟨RL, "service", "(LHymnwright;II[J)I"⟩
abbrev cL_sung : ByteArray := method_28_code
def yL_sung : MethodName := ⟨RL, "sung", "(LHymnwright;I[J)I"⟩
abbrev cL_law : ByteArray := code
def yL_law : MethodName := ⟨RL, "law", "([I)Z"⟩
abbrev cls9 : List vw_C := [(RJx4a65c, TJx4a65c, 3), (RX1, TX1, 5), (RX2, TX2, 1), (RX3, TX3, 2), (RX4, TX4, 3), (RX5, TX5, 5), (RX6, TX6, 4), (RX7, TX7, 5), (RX8, TX8, 5), (RX9, TX9, 7), (RX10, TX10, 31)]
end
section
/-! THE ENGINE. A heap is seen through a map M from addresses to cells: what a method may read and write. G: the judgement at a pc, over every heap that M describes. -/
abbrev hC : Type := (Nat × List Value) ⊕ (Nat × Nat × ((Nat → Int32) ⊕ ((Nat → Int64) ⊕ (Nat → Option Nat))))
abbrev hM : Type := Nat → Option hC
def hE (dA : Nat → ClassId) (x : hC) : va_E := match x with
  | .inl o => .inr o
  | .inr (k, n, .inl f) => .inl (dA k, n, .inl f)
  | .inr (k, n, .inr (.inl f)) => .inl (dA k, n, .inr (.inl f))
  | .inr (k, n, .inr (.inr f)) => .inl (dA k, n, .inr (.inr (.inr (.inr f))))
def hup (M : hM) (a : Nat) (x : hC) : hM := fun q => if q = a then some x else M q
theorem hup_s (M : hM) (a : Nat) (x : hC) : hup M a x a = some x := if_pos rfl
theorem hup_n (M : hM) {a q : Nat} (x : hC) (h : q ≠ a) : hup M a x q = M q := if_neg h
def hv (D : va_G) (dA : Nat → ClassId) (M : hM) (H : Heap) : Prop := ∀ (a : Nat) (x : hC), M a = some x → va_at D cls9 (a, hE dA x) H
theorem hv.lt {D : va_G} {dA : Nat → ClassId} {M : hM} {H : Heap} (h : hv D dA M H) {a : Nat} {x : hC} (hx : M a = some x) : a < H.size := (h a x hx).lt
theorem hv.one {D : va_G} {dA : Nat → ClassId} {M : hM} {H : Heap} (h : hv D dA M H) {a : Nat} {x : hC} (hx : M a = some x) : va_P D cls9 [(a, hE dA x)] H := by
  intro k q hk
  match k, hk with
  | 0, hk => cases hk; exact h a x hx
  | k + 1, hk => simp at hk
theorem hv.kept {D : va_G} {dA : Nat → ClassId} {M : hM} {H H1 : Heap} (h : hv D dA M H) (hq : ∀ (a : Nat) (x : hC), M a = some x → H1[a]? = H[a]?) : hv D dA M H1 := fun a x hx => (h a x hx).kept (hq a x hx)
theorem hv.set {D : va_G} {dA : Nat → ClassId} {M : hM} {H H1 : Heap} (h : hv D dA M H) {a : Nat} {x : hC} (he : va_at D cls9 (a, hE dA x) H1) (oq : ∀ q : Nat, q ≠ a → H1[q]? = H[q]?) : hv D dA (hup M a x) H1 := by
  intro q y hy
  by_cases e : q = a
  · subst e
    rw [hup_s] at hy
    cases hy
    exact he
  · rw [hup_n _ _ e] at hy
    exact (h q y hy).kept (oq q e)
theorem hv.push {D : va_G} {dA : Nat → ClassId} {M : hM} {H H1 : Heap} (h : hv D dA M H) {x : hC} (he : va_at D cls9 (H.size, hE dA x) H1) (oq : ∀ q : Nat, q < H.size → H1[q]? = H[q]?) : hv D dA (hup M H.size x) H1 := by
  intro q y hy
  by_cases e : q = H.size
  · subst e
    rw [hup_s] at hy
    cases hy
    exact he
  · rw [hup_n _ _ e] at hy
    exact (h q y hy).kept (oq q (h.lt hy))
abbrev tys9 (dA : Nat → ClassId) : List (ClassId × FieldType) := [(dA 0, .int), (dA 1, .boolean), (dA 2, .long), (dA 3, .object "java/lang/Object")]
/-- the words that a state keeps under every call -/
def isN (w : Cond) : Bool := match w with
  | .methodLinkNest .. => true
  | .fieldLinkNest .. => true
  | .castable .. => true
  | .declares _ => true
  | _ => false
def tw (w : Cond) : Bool := goodWord w || isN w
def TW (args : Array Value) (U : State) : Prop := ∀ w ∈ lw_tbl, tw w = true → w.before args U = true
theorem TW.warm {args a' : Array Value} {s U : State} (hW : s.WarmedH U.vm) (h : TW args s) : TW a' U := by
  intro w hw ht
  have h0 := h w hw ht
  simp only [tw, Bool.or_eq_true] at ht
  rcases ht with hg | hn
  · exact word_at hW (good_of_word hg) h0
  · cases w <;> first | (simp [isN] at hn; done) | skip
    all_goals first | exact va_Nw.use rfl (va_Nw.warmM hW (va_Nw.of rfl h0)) | exact va_Nw.use rfl (va_Nw.warmF hW (va_Nw.of rfl h0)) | exact va_Nw.use rfl (va_Nw.warmC hW (va_Nw.of rfl h0)) | exact va_Nw.use rfl (va_Nw.warmD hW (va_Nw.of rfl h0))
theorem TW.same {args a' : Array Value} {s U : State} (hv : s.vm = U.vm) (h : TW args s) : TW a' U := by
  intro w hw ht
  have h0 := h w hw ht
  by_cases ho : w.onTables = true
  · exact va_tabs ho hv h0
  · simp only [tw, Bool.or_eq_true] at ht
    rcases ht with hg | hn
    · rcases good_of_word hg with h1 | ⟨ty, rfl⟩
      · simp only [Bool.and_eq_true] at h1
        exact absurd h1.1 ho
      · have h1 : (Cond.arrayClass ty).before args (s.setVm U.vm) = true := by rw [← hv]; exact h0
        exact h1
    · cases w <;> first | (simp [isN] at hn; done) | exact absurd rfl ho
theorem TW.at {args : Array Value} {s : State} (h : TW args s) {w : Cond} (i : Nat) (hi : lw_tbl[i]? = some w) (ht : tw w = true) : w.before args s = true := h w (List.mem_of_getElem? hi) ht
end
section
/-! the environment that every method keeps; the judgement G; what stands at a pc -/
abbrev hG : Type := va_G × (Nat → ClassId) × Nat × Nat × Nat
abbrev hD : Type := MethodName × ByteArray × Nat × Option FieldType × Room × List (Nat × Nat × Nat × Nat)
abbrev hX : Type := (Program × Launch × Env × Room × State × MethodId × Array Value × List Frame) × Method × Code × (Nat → Prop) × (State → Prop) × hG
def z9 (z0 : Nat) : Nat → Prop := fun q => z0 ≤ q
/-- the months' days, as the class keeps them -/
def fM (k : Nat) : Int32 := ([0, 31, 59, 90, 120, 151, 181, 212, 243, 273, 304, 334] : List Int32).getD k 0
def va_E0 (a : Nat) (U : State) (H : Heap) : Prop := ∃ (cell : Cell) (ty : FieldType), H[a]? = some cell ∧ U.isArrayOf cell ty ∧ cell.slots.size = 0
theorem va_E0.moved {a : Nat} {u U : State} {H : Heap} (hvm : u.vm.Alike U.vm) (h : va_E0 a u H) : va_E0 a U H := by
  obtain ⟨cell, ty, h1, h2, h3⟩ := h
  exact ⟨cell, ty, h1, State.isArrayOf_alike hvm h2, h3⟩
def strs9 : List (String × Nat × String) := [("Hymnwright", 54, "there are 12 texts"), ("Hymnwright", 79, "there are 12 tunes"), ("Hymnwright", 97, "the tune does not fit the text"), ("Hymnwright", 207, "the day has no theme"), ("Hymnwright", 220, "no service can follow on that day"), ("Hymnwright", 226, "no text can be chosen"), ("Hymnwright", 249, "a service tells 0 to 4"), ("Hymnwright", 256, "an argument is out of range"), ("Hymnwright", 260, "there is none of that number"), ("Hymnwright", 266, "there are 8 lines or phrases"), ("Hymnwright", 271, "there are 20 feasts")]
def nc9 : List (String × String) := [("java/lang/IllegalArgumentException", "java/lang/IllegalStateException"), ("java/lang/IllegalArgumentException", "java/lang/IndexOutOfBoundsException"), ("java/lang/IllegalStateException", "java/lang/IllegalArgumentException"), ("java/lang/IllegalStateException", "java/lang/IndexOutOfBoundsException"), ("java/lang/IndexOutOfBoundsException", "java/lang/IllegalArgumentException"), ("java/lang/IndexOutOfBoundsException", "java/lang/IllegalStateException")]
def KS (g : hG) (U : State) : Prop :=
  va_K g.1 cls9 (tys9 g.2.1) U ∧ TW #[] U ∧ g.2.2.1 ≤ U.heap.size ∧
  (va_Z "Hymnwright$Days" "AHEAD_OF_MONTH" "[I" (.ref g.2.2.2.1) (z9 g.2.2.1) U U.heap ∧ va_X g.2.2.2.1 12 fM U U.heap ∧ g.2.2.2.1 < g.2.2.1) ∧
  (va_Z "java/util/ArrayList" "DEFAULTCAPACITY_EMPTY_ELEMENTDATA" "[Ljava/lang/Object;" (.ref g.2.2.2.2) (z9 g.2.2.1) U U.heap ∧ va_E0 g.2.2.2.2 U U.heap ∧ g.2.2.2.2 < g.2.2.1) ∧
  (vx_Zq Bundle.tN "UNASSIGNED_STACK" Bundle.steD (z9 g.2.2.1) U U.heap ∧ vx_Zq Bundle.tN "SUPPRESSED_SENTINEL" Bundle.listD (z9 g.2.2.1) U U.heap) ∧
  (∀ q ∈ strs9, ∃ sa, vk_R q.1 q.2.1 q.2.2 sa U) ∧ va_AO "java/lang/Object" U ∧ (∀ q ∈ nc9, va_Nc q.1 q.2 U) ∧ va_Mi "[Ljava/lang/Object;" (g.1.2 99 0) U
theorem KS.next {g : hG} {s U : State} (h : KS g s) (hW : s.WarmedH U.vm) (hz : s.heap.size ≤ U.heap.size) (hq : ∀ q : Nat, q < s.heap.size → ¬ g.2.2.1 ≤ q → U.heap[q]? = s.heap[q]?) : KS g U := by
  obtain ⟨h1, h2, h3, ⟨h4, h5, h6⟩, ⟨h7, h8, h9⟩, ⟨h10, h11⟩, h12, h13, h14, h15⟩ := h
  have ha := hW.alike
  have hq' : ∀ a : Nat, a < s.heap.size → ¬ z9 g.2.2.1 a → U.heap[a]? = s.heap[a]? := hq
  refine ⟨va_K.moved ha h1, TW.warm hW h2, Nat.le_trans h3 hz, ⟨(va_Z.moved ha h4).kept hq', va_X.moved ha (h5.kept (hq _ (by omega) (by omega))), h6⟩, ⟨(va_Z.moved ha h7).kept hq', ?_, h9⟩, ⟨(vx_Zq.moved ha h10).kept hq', (vx_Zq.moved ha h11).kept hq'⟩, fun q hm => ?_, va_AO.moved ha h13, fun q hm => (h14 q hm).moved ha, h15.moved ha⟩
  · refine va_E0.moved ha ?_
    obtain ⟨cell, ty, e1, e2, e3⟩ := h8
    exact ⟨cell, ty, by rw [hq _ (by omega) (by omega)]; exact e1, e2, e3⟩
  · obtain ⟨sa, e⟩ := h12 q hm
    exact ⟨sa, vk_R.warm hW e⟩
theorem KS.calling {g : hG} {U : State} (h : KS g U) (f : JFrame) (mk : MethodId) (a : Array Value) : KS g (U.calling f mk a) := by
  obtain ⟨h1, h2, h3, ⟨h4, h5, h6⟩, ⟨h7, h8, h9⟩, ⟨h10, h11⟩, h12, h13, h14, h15⟩ := h
  have ha : U.vm.Alike (U.calling f mk a).vm := Vm.Alike.refl U.vm
  refine ⟨va_K.moved ha h1, TW.same (s := U) rfl h2, h3, ⟨va_Z.moved ha h4, va_X.moved ha h5, h6⟩, ⟨va_Z.moved ha h7, va_E0.moved ha h8, h9⟩, ⟨vx_Zq.moved ha h10, vx_Zq.moved ha h11⟩, fun q hm => ?_, va_AO.moved ha h13, fun q hm => (h14 q hm).moved ha, h15.moved ha⟩
  obtain ⟨sa, e⟩ := h12 q hm
  exact ⟨sa, vk_R.same rfl e⟩
/-! locals -/
def isU (v : Value) : Bool := match v with
  | .float _ => true
  | _ => false
abbrev U9 : Value := .float 0
def lh (ls : Array Slot) (nL : Nat) (lv : List Value) : Prop := ls.size = nL ∧ lv_wf ls ∧ lv.length = nL ∧ ∀ (i : Nat) (v : Value), lv[i]? = some v → v.category = 1 ∧ (isU v = false → ls[i]? = some (.val v))
def al9 (lv : List Value) : List (Nat × Value) := (List.range lv.length).filterMap (fun i => (lv[i]?).bind (fun v => if isU v = true then none else some (i, v)))
theorem al9_mem {lv : List Value} {i : Nat} {v : Value} : (i, v) ∈ al9 lv ↔ lv[i]? = some v ∧ isU v = false := by
  unfold al9
  rw [List.mem_filterMap]
  constructor
  · rintro ⟨j, -, hj⟩
    cases e : lv[j]? with
    | none => rw [e] at hj; cases hj
    | some w =>
      rw [e] at hj
      simp only [Option.bind_some] at hj
      by_cases hu : isU w = true
      · rw [if_pos hu] at hj; cases hj
      · rw [if_neg hu] at hj; cases hj; exact ⟨e, by simpa using hu⟩
  · rintro ⟨h1, h2⟩
    refine ⟨i, List.mem_range.mpr (List.getElem?_eq_some_iff.mp h1).1, ?_⟩
    rw [h1]
    simp [h2]
theorem lh.has {ls : Array Slot} {nL : Nat} {lv : List Value} (h : lh ls nL lv) : lv_has ls nL (al9 lv) := ⟨h.1, h.2.1, fun q hq => by
  obtain ⟨i, v⟩ := q
  obtain ⟨h1, h2⟩ := al9_mem.mp hq
  exact (h.2.2.2 i v h1).2 h2⟩
theorem lh.get {ls : Array Slot} {nL : Nat} {lv : List Value} (h : lh ls nL lv) {i : Nat} {v : Value} (hl : lv[i]? = some v) (hu : isU v = false) : ls[i]? = some (.val v) := (h.2.2.2 i v hl).2 hu
theorem lh.store {ls ls' : Array Slot} {nL : Nat} {lv : List Value} (h : lh ls nL lv) {i : Nat} {v : Value} (hc : v.category = 1) (h' : lv_has ls' nL ((i, v) :: (al9 lv).filter (fun q => !(q.1 == i) && !(q.1 + 1 == i && q.2.category == 2)))) : lh ls' nL (lv.set i v) := by
  refine ⟨h'.1, h'.2.1, by rw [List.length_set]; exact h.2.2.1, fun j w hw => ?_⟩
  rw [List.getElem?_set] at hw
  by_cases e : i = j
  · subst e
    rw [if_pos rfl] at hw
    by_cases hl : i < lv.length
    · rw [if_pos hl] at hw
      cases hw
      exact ⟨hc, fun _ => h'.2.2 (i, v) List.mem_cons_self⟩
    · rw [if_neg hl] at hw
      cases hw
  · rw [if_neg e] at hw
    have hcat := (h.2.2.2 j w hw).1
    refine ⟨hcat, fun hu => h'.2.2 (j, w) (List.mem_cons_of_mem _ (List.mem_filter.mpr ⟨al9_mem.mpr ⟨hw, hu⟩, ?_⟩))⟩
    have e2 : (j == i) = false := by simp [Ne.symm e]
    have e3 : (w.category == 2) = false := by rw [hcat]; rfl
    show (!(j == i) && !(j + 1 == i && w.category == 2)) = true
    rw [e2, e3]
    simp
/-! the judgement -/
def G (X : hX) (pc : Nat) (lv st : List Value) (M : hM) (sz cs ss : Nat) : Prop :=
  ∀ (H : Heap) (locs : List Loc) (ls : Array Slot), H.size = sz → hv X.2.2.2.2.2.1 X.2.2.2.2.2.2.1 M H → (∀ (q : Nat) (x : hC), M q = some x → X.2.2.2.1 q) → va_S X.2.2.2.1 X.1.2.2.2.2.1.heap H locs → lh ls X.2.2.1.maxLocals lv →
    W X.1.1 X.1.2.1 X.1.2.2.1 X.1.2.2.2.1 X.1.2.2.2.2.1 X.1.2.2.2.2.2.1 X.1.2.2.2.2.2.2.1 X.1.2.2.2.2.2.2.2 X.2.1 X.2.2.1 H locs cs ss X.2.2.2.2.1 (F0 X.1.2.2.2.2.2.1 pc ls st)
def Cok (X : hX) (d : hD) : Prop :=
  X.1.1.tables.exec = Jvm.exec ∧ X.2.2.1.code = d.2.1 ∧ X.2.2.1.maxLocals = d.2.2.1 ∧ X.1.2.2.2.2.1.vm.findClass d.1.cls = some X.1.2.2.2.2.2.1.cls ∧ TW X.1.2.2.2.2.2.2.1 X.1.2.2.2.2.1 ∧ KS X.2.2.2.2.2 X.1.2.2.2.2.1 ∧
  (∀ q, X.2.2.2.1 q → X.2.2.2.2.2.2.2.1 ≤ q) ∧ (∀ q, X.1.2.2.2.2.1.heap.size ≤ q → X.2.2.2.1 q) ∧ X.1.2.1.stackTraces = false ∧ X.2.1.locks = false ∧ X.2.1.sig.returnType = d.2.2.2.1 ∧ X.2.1.name = d.1.name ∧ X.1.2.2.2.1 = d.2.2.2.2.1 ∧ X.2.2.1.exceptionTable.toList = tableOf d.2.2.2.2.2
/-! what stands at a pc -/
def At (d : hD) (pc : Nat) (i : Instr) (len n : Nat) : Prop := decode d.2.1 pc = .ok (i, len) ∧ pc + len = n
def AtJ (d : hD) (pc : Nat) (i : Int → Instr) (n t : Nat) : Prop := ∃ off : Int, decode d.2.1 pc = .ok (i off, 3) ∧ pc + 3 = n ∧ (pc : Int) + off = (t : Int)
def AtG (d : hD) (pc : Nat) (t : Nat) : Prop := ∃ off : Int, decode d.2.1 pc = .ok (.goto off, 3) ∧ (pc : Int) + off = (t : Int)
def AtK (d : hD) (pc : Nat) (v : Int32) (n : Nat) : Prop :=
  (∃ k : Int, decode d.2.1 pc = .ok (.iconst k, 1) ∧ Int32.ofInt k = v ∧ pc + 1 = n) ∨ (∃ k : Int, decode d.2.1 pc = .ok (.bipush k, 2) ∧ (Int8.ofInt k).toInt32 = v ∧ pc + 2 = n) ∨
  (∃ k : Int, decode d.2.1 pc = .ok (.sipush k, 3) ∧ (Int16.ofInt k).toInt32 = v ∧ pc + 3 = n) ∨ (∃ k i : Nat, decode d.2.1 pc = .ok (.ldc k, 2) ∧ lw_tbl[i]? = some (Cond.constant d.1.cls k v) ∧ pc + 2 = n) ∨ (∃ k i : Nat, decode d.2.1 pc = .ok (.ldc_w k, 3) ∧ lw_tbl[i]? = some (Cond.constant d.1.cls k v) ∧ pc + 3 = n)
def AtI (d : hD) (pc i n : Nat) : Prop := (decode d.2.1 pc = .ok (.iload i, 2) ∧ pc + 2 = n) ∨ (∃ k : Fin 4, decode d.2.1 pc = .ok (.iload_n k, 1) ∧ (k : Nat) = i ∧ pc + 1 = n)
def AtA (d : hD) (pc i n : Nat) : Prop := (decode d.2.1 pc = .ok (.aload i, 2) ∧ pc + 2 = n) ∨ (∃ k : Fin 4, decode d.2.1 pc = .ok (.aload_n k, 1) ∧ (k : Nat) = i ∧ pc + 1 = n)
def AtSI (d : hD) (pc i n : Nat) : Prop := ((decode d.2.1 pc = .ok (.istore i, 2) ∧ pc + 2 = n) ∨ (∃ k : Fin 4, decode d.2.1 pc = .ok (.istore_n k, 1) ∧ (k : Nat) = i ∧ pc + 1 = n)) ∧ i < d.2.2.1
def AtSA (d : hD) (pc i n : Nat) : Prop := ((decode d.2.1 pc = .ok (.astore i, 2) ∧ pc + 2 = n) ∨ (∃ k : Fin 4, decode d.2.1 pc = .ok (.astore_n k, 1) ∧ (k : Nat) = i ∧ pc + 1 = n)) ∧ i < d.2.2.1
def AtInc (d : hD) (pc i : Nat) (k : Int32) (n : Nat) : Prop := ∃ z : Int, decode d.2.1 pc = .ok (.iinc i z, 3) ∧ Int32.ofInt z = k ∧ pc + 3 = n ∧ i < d.2.2.1
def isRefV (v : Value) : Bool := match v with
  | .ref _ => true
  | .null => true
  | _ => false
theorem isRefV_rf (r : Option Nat) : isRefV (va_rf r) = true := by cases r <;> rfl
section R1
variable {X : hX} {d : hD} {pc n t i : Nat} {lv st : List Value} {M : hM} {sz cs ss : Nat}
theorem g_iload {x : Int32} (hX : Cok X d) (h : AtI d pc i n) (hv : lv[i]? = some (.int x)) (k : G X n lv (.int x :: st) M sz cs ss) : G X pc lv st M sz cs ss := by
  obtain ⟨⟨p, l, e, R, s, m, args, below⟩, meth, c, A, Q, g⟩ := X
  obtain ⟨hx, hb, hml, hown, hts, hKS, hAz, hAn, hst9, hlk, hrt, hnm, hR, hex⟩ := hX
  intro H locs ls hz hM hA hS hl
  rcases h with ⟨h1, rfl⟩ | ⟨k9, h1, h2, rfl⟩
  · exact lv_iload hx hb h1 (hl.get hv rfl) (k H locs ls hz hM hA hS hl)
  · exact lv_iload_n hx hb h1 h2 (hl.get hv rfl) (k H locs ls hz hM hA hS hl)
theorem g_aload {v : Value} (hX : Cok X d) (h : AtA d pc i n) (hv : lv[i]? = some v) (hr : isRefV v = true) (k : G X n lv (v :: st) M sz cs ss) : G X pc lv st M sz cs ss := by
  obtain ⟨⟨p, l, e, R, s, m, args, below⟩, meth, c, A, Q, g⟩ := X
  obtain ⟨hx, hb, hml, hown, hts, hKS, hAz, hAn, hst9, hlk, hrt, hnm, hR, hex⟩ := hX
  intro H locs ls hz hM hA hS hl
  cases v <;> first | (simp [isRefV] at hr; done) | skip
  · rcases h with ⟨h1, rfl⟩ | ⟨k9, h1, h2, rfl⟩
    · exact lv_aloadN hx hb h1 (hl.get hv rfl) (k H locs ls hz hM hA hS hl)
    · exact lv_aload_nN hx hb h1 h2 (hl.get hv rfl) (k H locs ls hz hM hA hS hl)
  · rcases h with ⟨h1, rfl⟩ | ⟨k9, h1, h2, rfl⟩
    · exact lv_aload hx hb h1 (hl.get hv rfl) (k H locs ls hz hM hA hS hl)
    · exact lv_aload_n hx hb h1 h2 (hl.get hv rfl) (k H locs ls hz hM hA hS hl)
theorem g_istore {x : Int32} (hX : Cok X d) (h : AtSI d pc i n) (k : G X n (lv.set i (.int x)) st M sz cs ss) : G X pc lv (.int x :: st) M sz cs ss := by
  obtain ⟨⟨p, l, e, R, s, m, args, below⟩, meth, c, A, Q, g⟩ := X
  obtain ⟨hx, hb, hml, hown, hts, hKS, hAz, hAn, hst9, hlk, hrt, hnm, hR, hex⟩ := hX
  intro H locs ls hz hM hA hS hl
  have hi : i < c.maxLocals := by rw [show c.maxLocals = d.2.2.1 from hml]; exact h.2
  rcases h.1 with ⟨h1, rfl⟩ | ⟨k9, h1, h2, rfl⟩
  · exact lv_istore hx hb h1 hl.has hi rfl (fun ls' h' => k H locs ls' hz hM hA hS (hl.store rfl h'))
  · exact lv_istore_n hx hb h1 h2 hl.has hi rfl (fun ls' h' => k H locs ls' hz hM hA hS (hl.store rfl h'))
theorem g_astore {v : Value} (hX : Cok X d) (h : AtSA d pc i n) (hr : isRefV v = true) (k : G X n (lv.set i v) st M sz cs ss) : G X pc lv (v :: st) M sz cs ss := by
  obtain ⟨⟨p, l, e, R, s, m, args, below⟩, meth, c, A, Q, g⟩ := X
  obtain ⟨hx, hb, hml, hown, hts, hKS, hAz, hAn, hst9, hlk, hrt, hnm, hR, hex⟩ := hX
  intro H locs ls hz hM hA hS hl
  have hi : i < c.maxLocals := by rw [show c.maxLocals = d.2.2.1 from hml]; exact h.2
  cases v <;> first | (simp [isRefV] at hr; done) | skip
  · rcases h.1 with ⟨h1, rfl⟩ | ⟨k9, h1, h2, rfl⟩
    · exact lv_astoreN hx hb h1 hl.has hi rfl (fun ls' h' => k H locs ls' hz hM hA hS (hl.store rfl h'))
    · exact lv_astore_nN hx hb h1 h2 hl.has hi rfl (fun ls' h' => k H locs ls' hz hM hA hS (hl.store rfl h'))
  · rcases h.1 with ⟨h1, rfl⟩ | ⟨k9, h1, h2, rfl⟩
    · exact lv_astore hx hb h1 hl.has hi rfl (fun ls' h' => k H locs ls' hz hM hA hS (hl.store rfl h'))
    · exact lv_astore_n hx hb h1 h2 hl.has hi rfl (fun ls' h' => k H locs ls' hz hM hA hS (hl.store rfl h'))
theorem g_iinc {x y : Int32} (hX : Cok X d) (h : AtInc d pc i y n) (hv : lv[i]? = some (.int x)) (k : G X n (lv.set i (.int (x + y))) st M sz cs ss) : G X pc lv st M sz cs ss := by
  obtain ⟨⟨p, l, e, R, s, m, args, below⟩, meth, c, A, Q, g⟩ := X
  obtain ⟨hx, hb, hml, hown, hts, hKS, hAz, hAn, hst9, hlk, hrt, hnm, hR, hex⟩ := hX
  intro H locs ls hz hM hA hS hl
  obtain ⟨z, h1, rfl, rfl, h3⟩ := h
  have hi : i < c.maxLocals := by rw [show c.maxLocals = d.2.2.1 from hml]; exact h3
  obtain ⟨j, hj⟩ := List.getElem?_of_mem (al9_mem.mpr ⟨hv, rfl⟩)
  exact lv_iinc hx hb h1 hl.has hj rfl hi rfl (fun ls' h' => k H locs ls' hz hM hA hS (hl.store rfl h'))
theorem g_const {v : Int32} (hX : Cok X d) (h : AtK d pc v n) (k : G X n lv (.int v :: st) M sz cs ss) : G X pc lv st M sz cs ss := by
  obtain ⟨⟨p, l, e, R, s, m, args, below⟩, meth, c, A, Q, g⟩ := X
  obtain ⟨hx, hb, hml, hown, hts, hKS, hAz, hAn, hst9, hlk, hrt, hnm, hR, hex⟩ := hX
  intro H locs ls hz hM hA hS hl
  rcases h with ⟨k9, h1, h2, rfl⟩ | ⟨k9, h1, h2, rfl⟩ | ⟨k9, h1, h2, rfl⟩ | ⟨k9, j, h1, h2, rfl⟩ | ⟨k9, j, h1, h2, rfl⟩
  · exact lv_iconst hx hb h1 h2 (k H locs ls hz hM hA hS hl)
  · exact lv_bipush hx hb h1 h2 (k H locs ls hz hM hA hS hl)
  · exact lv_sipush hx hb h1 h2 (k H locs ls hz hM hA hS hl)
  · exact lv_ldc hx hb hown (hts.at j h2 rfl) h1 (k H locs ls hz hM hA hS hl)
  · exact lv_ldcw hx hb hown (hts.at j h2 rfl) h1 (k H locs ls hz hM hA hS hl)
theorem g_iadd {x y : Int32} (hX : Cok X d) (h : At d pc .iadd 1 n) (k : G X n lv (.int (x + y) :: st) M sz cs ss) : G X pc lv (.int y :: .int x :: st) M sz cs ss := by
  obtain ⟨⟨p, l, e, R, s, m, args, below⟩, meth, c, A, Q, g⟩ := X
  obtain ⟨hx, hb, hml, hown, hts, hKS, hAz, hAn, hst9, hlk, hrt, hnm, hR, hex⟩ := hX
  intro H locs ls hz hM hA hS hl
  obtain ⟨h1, rfl⟩ := h
  exact lv_iadd hx hb h1 (k H locs ls hz hM hA hS hl)
theorem g_isub {x y : Int32} (hX : Cok X d) (h : At d pc .isub 1 n) (k : G X n lv (.int (x - y) :: st) M sz cs ss) : G X pc lv (.int y :: .int x :: st) M sz cs ss := by
  obtain ⟨⟨p, l, e, R, s, m, args, below⟩, meth, c, A, Q, g⟩ := X
  obtain ⟨hx, hb, hml, hown, hts, hKS, hAz, hAn, hst9, hlk, hrt, hnm, hR, hex⟩ := hX
  intro H locs ls hz hM hA hS hl
  obtain ⟨h1, rfl⟩ := h
  exact lv_isub hx hb h1 (k H locs ls hz hM hA hS hl)
theorem g_imul {x y : Int32} (hX : Cok X d) (h : At d pc .imul 1 n) (k : G X n lv (.int (x * y) :: st) M sz cs ss) : G X pc lv (.int y :: .int x :: st) M sz cs ss := by
  obtain ⟨⟨p, l, e, R, s, m, args, below⟩, meth, c, A, Q, g⟩ := X
  obtain ⟨hx, hb, hml, hown, hts, hKS, hAz, hAn, hst9, hlk, hrt, hnm, hR, hex⟩ := hX
  intro H locs ls hz hM hA hS hl
  obtain ⟨h1, rfl⟩ := h
  exact lv_imul hx hb h1 (k H locs ls hz hM hA hS hl)
theorem g_iand {x y : Int32} (hX : Cok X d) (h : At d pc .iand 1 n) (k : G X n lv (.int (x &&& y) :: st) M sz cs ss) : G X pc lv (.int y :: .int x :: st) M sz cs ss := by
  obtain ⟨⟨p, l, e, R, s, m, args, below⟩, meth, c, A, Q, g⟩ := X
  obtain ⟨hx, hb, hml, hown, hts, hKS, hAz, hAn, hst9, hlk, hrt, hnm, hR, hex⟩ := hX
  intro H locs ls hz hM hA hS hl
  obtain ⟨h1, rfl⟩ := h
  exact lv_iand hx hb h1 (k H locs ls hz hM hA hS hl)
theorem g_ior {x y : Int32} (hX : Cok X d) (h : At d pc .ior 1 n) (k : G X n lv (.int (x ||| y) :: st) M sz cs ss) : G X pc lv (.int y :: .int x :: st) M sz cs ss := by
  obtain ⟨⟨p, l, e, R, s, m, args, below⟩, meth, c, A, Q, g⟩ := X
  obtain ⟨hx, hb, hml, hown, hts, hKS, hAz, hAn, hst9, hlk, hrt, hnm, hR, hex⟩ := hX
  intro H locs ls hz hM hA hS hl
  obtain ⟨h1, rfl⟩ := h
  exact lv_ior hx hb h1 (k H locs ls hz hM hA hS hl)
theorem g_ixor {x y : Int32} (hX : Cok X d) (h : At d pc .ixor 1 n) (k : G X n lv (.int (x ^^^ y) :: st) M sz cs ss) : G X pc lv (.int y :: .int x :: st) M sz cs ss := by
  obtain ⟨⟨p, l, e, R, s, m, args, below⟩, meth, c, A, Q, g⟩ := X
  obtain ⟨hx, hb, hml, hown, hts, hKS, hAz, hAn, hst9, hlk, hrt, hnm, hR, hex⟩ := hX
  intro H locs ls hz hM hA hS hl
  obtain ⟨h1, rfl⟩ := h
  exact lv_ixor hx hb h1 (k H locs ls hz hM hA hS hl)
theorem g_idiv {x y : Int32} (hX : Cok X d) (h : At d pc .idiv 1 n) (hne : ¬ y = 0) (k : G X n lv (.int (x / y) :: st) M sz cs ss) : G X pc lv (.int y :: .int x :: st) M sz cs ss := by
  obtain ⟨⟨p, l, e, R, s, m, args, below⟩, meth, c, A, Q, g⟩ := X
  obtain ⟨hx, hb, hml, hown, hts, hKS, hAz, hAn, hst9, hlk, hrt, hnm, hR, hex⟩ := hX
  intro H locs ls hz hM hA hS hl
  obtain ⟨h1, rfl⟩ := h
  exact lv_idiv hx hb h1 hne (k H locs ls hz hM hA hS hl)
theorem g_irem {x y : Int32} (hX : Cok X d) (h : At d pc .irem 1 n) (hne : ¬ y = 0) (k : G X n lv (.int (x - x / y * y) :: st) M sz cs ss) : G X pc lv (.int y :: .int x :: st) M sz cs ss := by
  obtain ⟨⟨p, l, e, R, s, m, args, below⟩, meth, c, A, Q, g⟩ := X
  obtain ⟨hx, hb, hml, hown, hts, hKS, hAz, hAn, hst9, hlk, hrt, hnm, hR, hex⟩ := hX
  intro H locs ls hz hM hA hS hl
  obtain ⟨h1, rfl⟩ := h
  exact lv_irem hx hb h1 hne (k H locs ls hz hM hA hS hl)
theorem g_ishl {x y : Int32} (hX : Cok X d) (h : At d pc .ishl 1 n) (k : G X n lv (.int (x <<< (y &&& 31)) :: st) M sz cs ss) : G X pc lv (.int y :: .int x :: st) M sz cs ss := by
  obtain ⟨⟨p, l, e, R, s, m, args, below⟩, meth, c, A, Q, g⟩ := X
  obtain ⟨hx, hb, hml, hown, hts, hKS, hAz, hAn, hst9, hlk, hrt, hnm, hR, hex⟩ := hX
  intro H locs ls hz hM hA hS hl
  obtain ⟨h1, rfl⟩ := h
  exact lv_ishl hx hb h1 (k H locs ls hz hM hA hS hl)
theorem g_ishr {x y : Int32} (hX : Cok X d) (h : At d pc .ishr 1 n) (k : G X n lv (.int (x >>> (y &&& 31)) :: st) M sz cs ss) : G X pc lv (.int y :: .int x :: st) M sz cs ss := by
  obtain ⟨⟨p, l, e, R, s, m, args, below⟩, meth, c, A, Q, g⟩ := X
  obtain ⟨hx, hb, hml, hown, hts, hKS, hAz, hAn, hst9, hlk, hrt, hnm, hR, hex⟩ := hX
  intro H locs ls hz hM hA hS hl
  obtain ⟨h1, rfl⟩ := h
  exact lv_ishr hx hb h1 (k H locs ls hz hM hA hS hl)
theorem g_iushr {x y : Int32} (hX : Cok X d) (h : At d pc .iushr 1 n) (k : G X n lv (.int ((x.toUInt32 >>> (y.toUInt32 &&& Int32.toUInt32 31)).toInt32) :: st) M sz cs ss) : G X pc lv (.int y :: .int x :: st) M sz cs ss := by
  obtain ⟨⟨p, l, e, R, s, m, args, below⟩, meth, c, A, Q, g⟩ := X
  obtain ⟨hx, hb, hml, hown, hts, hKS, hAz, hAn, hst9, hlk, hrt, hnm, hR, hex⟩ := hX
  intro H locs ls hz hM hA hS hl
  obtain ⟨h1, rfl⟩ := h
  exact lv_iushr hx hb h1 rfl (k H locs ls hz hM hA hS hl)
theorem g_i2l {x : Int32} (hX : Cok X d) (h : At d pc .i2l 1 n) (k : G X n lv (.long x.toInt64 :: st) M sz cs ss) : G X pc lv (.int x :: st) M sz cs ss := by
  obtain ⟨⟨p, l, e, R, s, m, args, below⟩, meth, c, A, Q, g⟩ := X
  obtain ⟨hx, hb, hml, hown, hts, hKS, hAz, hAn, hst9, hlk, hrt, hnm, hR, hex⟩ := hX
  intro H locs ls hz hM hA hS hl
  obtain ⟨h1, rfl⟩ := h
  exact lv_i2l hx hb h1 rfl (k H locs ls hz hM hA hS hl)
theorem g_lcmp {x y : Int64} (hX : Cok X d) (h : At d pc .lcmp 1 n) (k : G X n lv (.int (lg_cmp x y) :: st) M sz cs ss) : G X pc lv (.long y :: .long x :: st) M sz cs ss := by
  obtain ⟨⟨p, l, e, R, s, m, args, below⟩, meth, c, A, Q, g⟩ := X
  obtain ⟨hx, hb, hml, hown, hts, hKS, hAz, hAn, hst9, hlk, hrt, hnm, hR, hex⟩ := hX
  intro H locs ls hz hM hA hS hl
  obtain ⟨h1, rfl⟩ := h
  exact W.lcmp hx hb h1 (k H locs ls hz hM hA hS hl)
theorem g_lconst {v : Fin 2} (hX : Cok X d) (h : At d pc (.lconst v) 1 n) (k : G X n lv (.long (Int64.ofNat (v : Nat)) :: st) M sz cs ss) : G X pc lv st M sz cs ss := by
  obtain ⟨⟨p, l, e, R, s, m, args, below⟩, meth, c, A, Q, g⟩ := X
  obtain ⟨hx, hb, hml, hown, hts, hKS, hAz, hAn, hst9, hlk, hrt, hnm, hR, hex⟩ := hX
  intro H locs ls hz hM hA hS hl
  obtain ⟨h1, rfl⟩ := h
  exact lv_lconst hx hb h1 rfl (k H locs ls hz hM hA hS hl)
theorem g_null (hX : Cok X d) (h : At d pc .aconst_null 1 n) (k : G X n lv (.null :: st) M sz cs ss) : G X pc lv st M sz cs ss := by
  obtain ⟨⟨p, l, e, R, s, m, args, below⟩, meth, c, A, Q, g⟩ := X
  obtain ⟨hx, hb, hml, hown, hts, hKS, hAz, hAn, hst9, hlk, hrt, hnm, hR, hex⟩ := hX
  intro H locs ls hz hM hA hS hl
  obtain ⟨h1, rfl⟩ := h
  exact lv_null hx hb h1 (k H locs ls hz hM hA hS hl)
theorem g_dup {v : Value} (hX : Cok X d) (h : At d pc .dup 1 n) (hc : v.category = 1) (k : G X n lv (v :: v :: st) M sz cs ss) : G X pc lv (v :: st) M sz cs ss := by
  obtain ⟨⟨p, l, e, R, s, m, args, below⟩, meth, c, A, Q, g⟩ := X
  obtain ⟨hx, hb, hml, hown, hts, hKS, hAz, hAn, hst9, hlk, hrt, hnm, hR, hex⟩ := hX
  intro H locs ls hz hM hA hS hl
  obtain ⟨h1, rfl⟩ := h
  exact lv_dup hx hb h1 hc (k H locs ls hz hM hA hS hl)
theorem g_pop {v : Value} (hX : Cok X d) (h : At d pc .pop 1 n) (hc : v.category = 1) (k : G X n lv st M sz cs ss) : G X pc lv (v :: st) M sz cs ss := by
  obtain ⟨⟨p, l, e, R, s, m, args, below⟩, meth, c, A, Q, g⟩ := X
  obtain ⟨hx, hb, hml, hown, hts, hKS, hAz, hAn, hst9, hlk, hrt, hnm, hR, hex⟩ := hX
  intro H locs ls hz hM hA hS hl
  obtain ⟨h1, rfl⟩ := h
  exact lv_pop hx hb h1 hc (k H locs ls hz hM hA hS hl)
theorem g_dup_x1 {v u : Value} (hX : Cok X d) (h : At d pc .dup_x1 1 n) (hc : v.category = 1) (hc2 : u.category = 1) (k : G X n lv (v :: u :: v :: st) M sz cs ss) : G X pc lv (v :: u :: st) M sz cs ss := by
  obtain ⟨⟨p, l, e, R, s, m, args, below⟩, meth, c, A, Q, g⟩ := X
  obtain ⟨hx, hb, hml, hown, hts, hKS, hAz, hAn, hst9, hlk, hrt, hnm, hR, hex⟩ := hX
  intro H locs ls hz hM hA hS hl
  obtain ⟨h1, rfl⟩ := h
  exact lv_dup_x1 hx hb h1 hc hc2 (k H locs ls hz hM hA hS hl)
theorem g_dup2 {v u : Value} (hX : Cok X d) (h : At d pc .dup2 1 n) (hc : v.category = 1) (hc2 : u.category = 1) (k : G X n lv (v :: u :: v :: u :: st) M sz cs ss) : G X pc lv (v :: u :: st) M sz cs ss := by
  obtain ⟨⟨p, l, e, R, s, m, args, below⟩, meth, c, A, Q, g⟩ := X
  obtain ⟨hx, hb, hml, hown, hts, hKS, hAz, hAn, hst9, hlk, hrt, hnm, hR, hex⟩ := hX
  intro H locs ls hz hM hA hS hl
  obtain ⟨h1, rfl⟩ := h
  exact lv_dup2_11 hx hb h1 hc hc2 (k H locs ls hz hM hA hS hl)
theorem g_goto (hX : Cok X d) (h : AtG d pc t) (k : G X t lv st M sz cs ss) : G X pc lv st M sz cs ss := by
  obtain ⟨⟨p, l, e, R, s, m, args, below⟩, meth, c, A, Q, g⟩ := X
  obtain ⟨hx, hb, hml, hown, hts, hKS, hAz, hAn, hst9, hlk, hrt, hnm, hR, hex⟩ := hX
  intro H locs ls hz hM hA hS hl
  obtain ⟨off, h1, h2⟩ := h
  exact lv_goto hx hb h1 h2 (k H locs ls hz hM hA hS hl)
theorem g_icmp_eq {x y : Int32} (hX : Cok X d) (h : AtJ d pc (.if_icmp .eq) n t) (kt : x = y → G X t lv st M sz cs ss) (kf : ¬ x = y → G X n lv st M sz cs ss) : G X pc lv (.int y :: .int x :: st) M sz cs ss := by
  obtain ⟨⟨p, l, e, R, s, m, args, below⟩, meth, c, A, Q, g⟩ := X
  obtain ⟨hx, hb, hml, hown, hts, hKS, hAz, hAn, hst9, hlk, hrt, hnm, hR, hex⟩ := hX
  intro H locs ls hz hM hA hS hl
  obtain ⟨off, h1, rfl, h2⟩ := h
  exact lv_icmp_eq hx hb h1 h2 (fun q => kt q H locs ls hz hM hA hS hl) (fun q => kf q H locs ls hz hM hA hS hl)
theorem g_if_eq {x : Int32} (hX : Cok X d) (h : AtJ d pc (.ifCond .eq) n t) (kt : x = 0 → G X t lv st M sz cs ss) (kf : ¬ x = 0 → G X n lv st M sz cs ss) : G X pc lv (.int x :: st) M sz cs ss := by
  obtain ⟨⟨p, l, e, R, s, m, args, below⟩, meth, c, A, Q, g⟩ := X
  obtain ⟨hx, hb, hml, hown, hts, hKS, hAz, hAn, hst9, hlk, hrt, hnm, hR, hex⟩ := hX
  intro H locs ls hz hM hA hS hl
  obtain ⟨off, h1, rfl, h2⟩ := h
  exact lv_if_eq hx hb h1 h2 (fun q => kt q H locs ls hz hM hA hS hl) (fun q => kf q H locs ls hz hM hA hS hl)
theorem g_icmp_ne {x y : Int32} (hX : Cok X d) (h : AtJ d pc (.if_icmp .ne) n t) (kt : ¬ x = y → G X t lv st M sz cs ss) (kf : x = y → G X n lv st M sz cs ss) : G X pc lv (.int y :: .int x :: st) M sz cs ss := by
  obtain ⟨⟨p, l, e, R, s, m, args, below⟩, meth, c, A, Q, g⟩ := X
  obtain ⟨hx, hb, hml, hown, hts, hKS, hAz, hAn, hst9, hlk, hrt, hnm, hR, hex⟩ := hX
  intro H locs ls hz hM hA hS hl
  obtain ⟨off, h1, rfl, h2⟩ := h
  exact lv_icmp_ne hx hb h1 h2 (fun q => kt q H locs ls hz hM hA hS hl) (fun q => kf q H locs ls hz hM hA hS hl)
theorem g_if_ne {x : Int32} (hX : Cok X d) (h : AtJ d pc (.ifCond .ne) n t) (kt : ¬ x = 0 → G X t lv st M sz cs ss) (kf : x = 0 → G X n lv st M sz cs ss) : G X pc lv (.int x :: st) M sz cs ss := by
  obtain ⟨⟨p, l, e, R, s, m, args, below⟩, meth, c, A, Q, g⟩ := X
  obtain ⟨hx, hb, hml, hown, hts, hKS, hAz, hAn, hst9, hlk, hrt, hnm, hR, hex⟩ := hX
  intro H locs ls hz hM hA hS hl
  obtain ⟨off, h1, rfl, h2⟩ := h
  exact lv_if_ne hx hb h1 h2 (fun q => kt q H locs ls hz hM hA hS hl) (fun q => kf q H locs ls hz hM hA hS hl)
theorem g_icmp_lt {x y : Int32} (hX : Cok X d) (h : AtJ d pc (.if_icmp .lt) n t) (kt : x < y → G X t lv st M sz cs ss) (kf : ¬ x < y → G X n lv st M sz cs ss) : G X pc lv (.int y :: .int x :: st) M sz cs ss := by
  obtain ⟨⟨p, l, e, R, s, m, args, below⟩, meth, c, A, Q, g⟩ := X
  obtain ⟨hx, hb, hml, hown, hts, hKS, hAz, hAn, hst9, hlk, hrt, hnm, hR, hex⟩ := hX
  intro H locs ls hz hM hA hS hl
  obtain ⟨off, h1, rfl, h2⟩ := h
  exact lv_icmp_lt hx hb h1 h2 (fun q => kt q H locs ls hz hM hA hS hl) (fun q => kf q H locs ls hz hM hA hS hl)
theorem g_if_lt {x : Int32} (hX : Cok X d) (h : AtJ d pc (.ifCond .lt) n t) (kt : x < 0 → G X t lv st M sz cs ss) (kf : ¬ x < 0 → G X n lv st M sz cs ss) : G X pc lv (.int x :: st) M sz cs ss := by
  obtain ⟨⟨p, l, e, R, s, m, args, below⟩, meth, c, A, Q, g⟩ := X
  obtain ⟨hx, hb, hml, hown, hts, hKS, hAz, hAn, hst9, hlk, hrt, hnm, hR, hex⟩ := hX
  intro H locs ls hz hM hA hS hl
  obtain ⟨off, h1, rfl, h2⟩ := h
  exact lv_if_lt hx hb h1 h2 (fun q => kt q H locs ls hz hM hA hS hl) (fun q => kf q H locs ls hz hM hA hS hl)
theorem g_icmp_ge {x y : Int32} (hX : Cok X d) (h : AtJ d pc (.if_icmp .ge) n t) (kt : y ≤ x → G X t lv st M sz cs ss) (kf : ¬ y ≤ x → G X n lv st M sz cs ss) : G X pc lv (.int y :: .int x :: st) M sz cs ss := by
  obtain ⟨⟨p, l, e, R, s, m, args, below⟩, meth, c, A, Q, g⟩ := X
  obtain ⟨hx, hb, hml, hown, hts, hKS, hAz, hAn, hst9, hlk, hrt, hnm, hR, hex⟩ := hX
  intro H locs ls hz hM hA hS hl
  obtain ⟨off, h1, rfl, h2⟩ := h
  exact lv_icmp_ge hx hb h1 h2 (fun q => kt q H locs ls hz hM hA hS hl) (fun q => kf q H locs ls hz hM hA hS hl)
theorem g_if_ge {x : Int32} (hX : Cok X d) (h : AtJ d pc (.ifCond .ge) n t) (kt : 0 ≤ x → G X t lv st M sz cs ss) (kf : ¬ 0 ≤ x → G X n lv st M sz cs ss) : G X pc lv (.int x :: st) M sz cs ss := by
  obtain ⟨⟨p, l, e, R, s, m, args, below⟩, meth, c, A, Q, g⟩ := X
  obtain ⟨hx, hb, hml, hown, hts, hKS, hAz, hAn, hst9, hlk, hrt, hnm, hR, hex⟩ := hX
  intro H locs ls hz hM hA hS hl
  obtain ⟨off, h1, rfl, h2⟩ := h
  exact lv_if_ge hx hb h1 h2 (fun q => kt q H locs ls hz hM hA hS hl) (fun q => kf q H locs ls hz hM hA hS hl)
theorem g_icmp_gt {x y : Int32} (hX : Cok X d) (h : AtJ d pc (.if_icmp .gt) n t) (kt : y < x → G X t lv st M sz cs ss) (kf : ¬ y < x → G X n lv st M sz cs ss) : G X pc lv (.int y :: .int x :: st) M sz cs ss := by
  obtain ⟨⟨p, l, e, R, s, m, args, below⟩, meth, c, A, Q, g⟩ := X
  obtain ⟨hx, hb, hml, hown, hts, hKS, hAz, hAn, hst9, hlk, hrt, hnm, hR, hex⟩ := hX
  intro H locs ls hz hM hA hS hl
  obtain ⟨off, h1, rfl, h2⟩ := h
  exact lv_icmp_gt hx hb h1 h2 (fun q => kt q H locs ls hz hM hA hS hl) (fun q => kf q H locs ls hz hM hA hS hl)
theorem g_if_gt {x : Int32} (hX : Cok X d) (h : AtJ d pc (.ifCond .gt) n t) (kt : 0 < x → G X t lv st M sz cs ss) (kf : ¬ 0 < x → G X n lv st M sz cs ss) : G X pc lv (.int x :: st) M sz cs ss := by
  obtain ⟨⟨p, l, e, R, s, m, args, below⟩, meth, c, A, Q, g⟩ := X
  obtain ⟨hx, hb, hml, hown, hts, hKS, hAz, hAn, hst9, hlk, hrt, hnm, hR, hex⟩ := hX
  intro H locs ls hz hM hA hS hl
  obtain ⟨off, h1, rfl, h2⟩ := h
  exact lv_if_gt hx hb h1 h2 (fun q => kt q H locs ls hz hM hA hS hl) (fun q => kf q H locs ls hz hM hA hS hl)
theorem g_icmp_le {x y : Int32} (hX : Cok X d) (h : AtJ d pc (.if_icmp .le) n t) (kt : x ≤ y → G X t lv st M sz cs ss) (kf : ¬ x ≤ y → G X n lv st M sz cs ss) : G X pc lv (.int y :: .int x :: st) M sz cs ss := by
  obtain ⟨⟨p, l, e, R, s, m, args, below⟩, meth, c, A, Q, g⟩ := X
  obtain ⟨hx, hb, hml, hown, hts, hKS, hAz, hAn, hst9, hlk, hrt, hnm, hR, hex⟩ := hX
  intro H locs ls hz hM hA hS hl
  obtain ⟨off, h1, rfl, h2⟩ := h
  exact lv_icmp_le hx hb h1 h2 (fun q => kt q H locs ls hz hM hA hS hl) (fun q => kf q H locs ls hz hM hA hS hl)
theorem g_if_le {x : Int32} (hX : Cok X d) (h : AtJ d pc (.ifCond .le) n t) (kt : x ≤ 0 → G X t lv st M sz cs ss) (kf : ¬ x ≤ 0 → G X n lv st M sz cs ss) : G X pc lv (.int x :: st) M sz cs ss := by
  obtain ⟨⟨p, l, e, R, s, m, args, below⟩, meth, c, A, Q, g⟩ := X
  obtain ⟨hx, hb, hml, hown, hts, hKS, hAz, hAn, hst9, hlk, hrt, hnm, hR, hex⟩ := hX
  intro H locs ls hz hM hA hS hl
  obtain ⟨off, h1, rfl, h2⟩ := h
  exact lv_if_le hx hb h1 h2 (fun q => kt q H locs ls hz hM hA hS hl) (fun q => kf q H locs ls hz hM hA hS hl)
theorem g_acmp_eq {rx ry : Option Nat} {vx vy : Value} (hX : Cok X d) (h : AtJ d pc (.if_acmp .eq) n t) (ex : vx = va_rf rx) (ey : vy = va_rf ry) (kt : rx = ry → G X t lv st M sz cs ss) (kf : ¬ rx = ry → G X n lv st M sz cs ss) : G X pc lv (vy :: vx :: st) M sz cs ss := by
  obtain ⟨⟨p, l, e, R, s, m, args, below⟩, meth, c, A, Q, g⟩ := X
  obtain ⟨hx, hb, hml, hown, hts, hKS, hAz, hAn, hst9, hlk, hrt, hnm, hR, hex⟩ := hX
  intro H locs ls hz hM hA hS hl
  obtain ⟨off, h1, rfl, h2⟩ := h
  subst ex
  subst ey
  exact lv_acmp_eq hx hb h1 h2 (fun q => kt q H locs ls hz hM hA hS hl) (fun q => kf q H locs ls hz hM hA hS hl)
theorem g_acmp_ne {rx ry : Option Nat} {vx vy : Value} (hX : Cok X d) (h : AtJ d pc (.if_acmp .ne) n t) (ex : vx = va_rf rx) (ey : vy = va_rf ry) (kt : ¬ rx = ry → G X t lv st M sz cs ss) (kf : rx = ry → G X n lv st M sz cs ss) : G X pc lv (vy :: vx :: st) M sz cs ss := by
  obtain ⟨⟨p, l, e, R, s, m, args, below⟩, meth, c, A, Q, g⟩ := X
  obtain ⟨hx, hb, hml, hown, hts, hKS, hAz, hAn, hst9, hlk, hrt, hnm, hR, hex⟩ := hX
  intro H locs ls hz hM hA hS hl
  obtain ⟨off, h1, rfl, h2⟩ := h
  subst ex
  subst ey
  exact lv_acmp_ne hx hb h1 h2 (fun q => kt q H locs ls hz hM hA hS hl) (fun q => kf q H locs ls hz hM hA hS hl)
theorem g_ifnull {r : Option Nat} {v : Value} (hX : Cok X d) (h : AtJ d pc .ifnull n t) (ev : v = va_rf r) (kt : r = none → G X t lv st M sz cs ss) (kf : ∀ a, r = some a → G X n lv st M sz cs ss) : G X pc lv (v :: st) M sz cs ss := by
  obtain ⟨⟨p, l, e, R, s, m, args, below⟩, meth, c, A, Q, g⟩ := X
  obtain ⟨hx, hb, hml, hown, hts, hKS, hAz, hAn, hst9, hlk, hrt, hnm, hR, hex⟩ := hX
  intro H locs ls hz hM hA hS hl
  obtain ⟨off, h1, rfl, h2⟩ := h
  subst ev
  cases r with
  | none => exact lv_ifnullN hx hb h1 h2 (kt rfl H locs ls hz hM hA hS hl)
  | some a => exact lv_ifnull hx hb h1 (kf a rfl H locs ls hz hM hA hS hl)
theorem g_ifnonnull {r : Option Nat} {v : Value} (hX : Cok X d) (h : AtJ d pc .ifnonnull n t) (ev : v = va_rf r) (kt : ∀ a, r = some a → G X t lv st M sz cs ss) (kf : r = none → G X n lv st M sz cs ss) : G X pc lv (v :: st) M sz cs ss := by
  obtain ⟨⟨p, l, e, R, s, m, args, below⟩, meth, c, A, Q, g⟩ := X
  obtain ⟨hx, hb, hml, hown, hts, hKS, hAz, hAn, hst9, hlk, hrt, hnm, hR, hex⟩ := hX
  intro H locs ls hz hM hA hS hl
  obtain ⟨off, h1, rfl, h2⟩ := h
  subst ev
  cases r with
  | none => exact lv_ifnonnullN hx hb h1 (kf rfl H locs ls hz hM hA hS hl)
  | some a => exact lv_ifnonnull hx hb h1 h2 (kt a rfl H locs ls hz hM hA hS hl)
end R1
end
section
theorem uw_Jx4a65c : ∀ w ∈ u_ws RJx4a65c TJx4a65c 3, w ∈ lw_tbl ∧ tw w = true := by decide +kernel
theorem uw_X1 : ∀ w ∈ u_ws RX1 TX1 5, w ∈ lw_tbl ∧ tw w = true := by decide +kernel
theorem uw_X2 : ∀ w ∈ u_ws RX2 TX2 1, w ∈ lw_tbl ∧ tw w = true := by decide +kernel
theorem uw_X3 : ∀ w ∈ u_ws RX3 TX3 2, w ∈ lw_tbl ∧ tw w = true := by decide +kernel
theorem uw_X4 : ∀ w ∈ u_ws RX4 TX4 3, w ∈ lw_tbl ∧ tw w = true := by decide +kernel
theorem uw_X5 : ∀ w ∈ u_ws RX5 TX5 5, w ∈ lw_tbl ∧ tw w = true := by decide +kernel
theorem uw_X6 : ∀ w ∈ u_ws RX6 TX6 4, w ∈ lw_tbl ∧ tw w = true := by decide +kernel
theorem uw_X7 : ∀ w ∈ u_ws RX7 TX7 5, w ∈ lw_tbl ∧ tw w = true := by decide +kernel
theorem uw_X8 : ∀ w ∈ u_ws RX8 TX8 5, w ∈ lw_tbl ∧ tw w = true := by decide +kernel
theorem uw_X9 : ∀ w ∈ u_ws RX9 TX9 7, w ∈ lw_tbl ∧ tw w = true := by decide +kernel
theorem uw_X10 : ∀ w ∈ u_ws RX10 TX10 31, w ∈ lw_tbl ∧ tw w = true := by decide +kernel
def tyf9 : List (Nat → FieldType) := [tyJx4a65c, tyX1, tyX2, tyX3, tyX4, tyX5, tyX6, tyX7, tyX8, tyX9, tyX10]
theorem c9_cases {P : Nat → vw_C → Prop} (h0 : P 0 (RJx4a65c, TJx4a65c, 3)) (h1 : P 1 (RX1, TX1, 5)) (h2 : P 2 (RX2, TX2, 1)) (h3 : P 3 (RX3, TX3, 2)) (h4 : P 4 (RX4, TX4, 3)) (h5 : P 5 (RX5, TX5, 5)) (h6 : P 6 (RX6, TX6, 4)) (h7 : P 7 (RX7, TX7, 5)) (h8 : P 8 (RX8, TX8, 5)) (h9 : P 9 (RX9, TX9, 7)) (h10 : P 10 (RX10, TX10, 31)) : ∀ (ci : Nat) (q : vw_C), cls9[ci]? = some q → P ci q := by
  intro ci q hq
  match ci, hq with
  | 0, hq => cases hq; exact h0
  | 1, hq => cases hq; exact h1
  | 2, hq => cases hq; exact h2
  | 3, hq => cases hq; exact h3
  | 4, hq => cases hq; exact h4
  | 5, hq => cases hq; exact h5
  | 6, hq => cases hq; exact h6
  | 7, hq => cases hq; exact h7
  | 8, hq => cases hq; exact h8
  | 9, hq => cases hq; exact h9
  | 10, hq => cases hq; exact h10
  | k + 11, hq => simp [cls9] at hq
theorem uw9 : ∀ (ci : Nat) (q : vw_C), cls9[ci]? = some q → ∀ w ∈ u_ws q.1 q.2.1 q.2.2, w ∈ lw_tbl ∧ tw w = true := c9_cases (P := fun _ q => ∀ w ∈ u_ws q.1 q.2.1 q.2.2, w ∈ lw_tbl ∧ tw w = true) uw_Jx4a65c uw_X1 uw_X2 uw_X3 uw_X4 uw_X5 uw_X6 uw_X7 uw_X8 uw_X9 uw_X10
theorem ty9 : ∀ (ci : Nat) (q : vw_C), cls9[ci]? = some q → ∀ k, k < q.2.2 → parseFieldDescriptor (q.2.1 k).2.2.1 = some ((tyf9.getD ci tyX10) k) := c9_cases (P := fun ci q => ∀ k, k < q.2.2 → parseFieldDescriptor (q.2.1 k).2.2.1 = some ((tyf9.getD ci tyX10) k)) tyJx4a65c_ok tyX1_ok tyX2_ok tyX3_ok tyX4_ok tyX5_ok tyX6_ok tyX7_ok tyX8_ok tyX9_ok tyX10_ok
theorem nm9 : ∀ (ci : Nat) (q : vw_C), cls9[ci]? = some q → ∀ a, a < q.2.2 → ∀ b, b < q.2.2 → a ≠ b → (q.2.1 a).2.1 ≠ (q.2.1 b).2.1 := c9_cases (P := fun _ q => ∀ a, a < q.2.2 → ∀ b, b < q.2.2 → a ≠ b → (q.2.1 a).2.1 ≠ (q.2.1 b).2.1) nmJx4a65c nmX1 nmX2 nmX3 nmX4 nmX5 nmX6 nmX7 nmX8 nmX9 nmX10
/-! fields -/
def AtFl (d : hD) (index : Nat) (q : vw_C) (k : Nat) : Prop :=
  (∃ i : Nat, lw_tbl[i]? = some (Cond.fieldLink d.1.cls index (q.2.1 k).1 (q.2.1 k).2.1 (q.2.1 k).2.2.1)) ∨
  (∃ (i j : Nat) (ref : String), lw_tbl[i]? = some (Cond.fieldLink d.1.cls index ref (q.2.1 k).2.1 (q.2.1 k).2.2.1) ∧ lw_tbl[j]? = some (Cond.sameField ref (q.2.1 k).1 (q.2.1 k).2.1 (q.2.1 k).2.2.1))
def AtFn (d : hD) (index : Nat) (q : vw_C) (k : Nat) : Prop := ∃ (i : Nat) (host : String), lw_tbl[i]? = some (Cond.fieldLinkNest d.1.cls index (q.2.1 k).1 (q.2.1 k).2.1 (q.2.1 k).2.2.1 host)
def AtF (d : hD) (pc ci k n : Nat) : Prop := ∃ (index : Nat) (q : vw_C), decode d.2.1 pc = .ok (.getfield index, 3) ∧ pc + 3 = n ∧ cls9[ci]? = some q ∧ k < q.2.2 ∧ (AtFl d index q k ∨ AtFn d index q k)
def AtP (d : hD) (pc ci k : Nat) (ty : FieldType) (n : Nat) : Prop := ∃ (index : Nat) (q : vw_C), decode d.2.1 pc = .ok (.putfield index, 3) ∧ pc + 3 = n ∧ cls9[ci]? = some q ∧ k < q.2.2 ∧ AtFl d index q k ∧ parseFieldDescriptor (q.2.1 k).2.2.1 = some ty ∧ ((q.2.1 k).2.2.2 = false ∨ ((q.2.1 k).2.2.2 = true ∧ d.1.name = "<init>" ∧ (q.2.1 k).1 = d.1.cls))
theorem fl_use {d : hD} {index : Nat} {q : vw_C} {k : Nat} {args : Array Value} {s : State} (hts : TW args s) (h : AtFl d index q k) : ∃ ref : String, (Cond.fieldLink d.1.cls index ref (q.2.1 k).2.1 (q.2.1 k).2.2.1).before args s = true ∧ ∀ x, s.fieldFound? (q.2.1 k).1 (q.2.1 k).2.1 (q.2.1 k).2.2.1 = some x → s.fieldFound? ref (q.2.1 k).2.1 (q.2.1 k).2.2.1 = some x := by
  rcases h with ⟨i, hi⟩ | ⟨i, j, ref, hi, hj⟩
  · exact ⟨_, hts.at i hi rfl, fun _ z => z⟩
  · exact ⟨ref, hts.at i hi rfl, u_same (hts.at j hj rfl)⟩
section R2
variable {X : hX} {d : hD} {pc n t i a ci k : Nat} {lv st : List Value} {M : hM} {sz cs ss : Nat}
theorem g_get {fs : List Value} {v : Value} (hX : Cok X d) (h : AtF d pc ci k n) (hm : M a = some (.inl (ci, fs))) (hv : fs[k]? = some v) (kk : G X n lv (v :: st) M sz cs ss) : G X pc lv (.ref a :: st) M sz cs ss := by
  obtain ⟨⟨p, l, e, R, s, m, args, below⟩, meth, c, A, Q, g⟩ := X
  obtain ⟨hx, hb, hml, hown, hts, hKS, hAz, hAn, hst9, hlk, hrt, hnm, hR, hex⟩ := hX
  intro H locs ls hz hM hA hS hl
  obtain ⟨index, ⟨C, T, N⟩, h1, rfl, hq, hk, hf⟩ := h
  rcases hf with hf | ⟨j, host, hj⟩
  · obtain ⟨ref, hl1, hsame⟩ := fl_use hts hf
    exact va_get (D := g.1) (Ts := u_ws C T N) hx hb (fun w hw => hts w (uw9 ci _ hq w hw).1 (uw9 ci _ hq w hw).2) (fun _ z => z) hown hKS.1 (hM.one hm) 0 rfl hq k hk hl1 hsame hv h1 (kk H locs ls hz hM hA hS hl)
  · exact va_getN (D := g.1) (Ts := u_ws C T N) hx hb (fun w hw => hts w (uw9 ci _ hq w hw).1 (uw9 ci _ hq w hw).2) (fun _ z => z) hown hKS.1 (hM.one hm) 0 rfl hq k hk (hts.at j hj rfl) (fun _ z => z) hv h1 (kk H locs ls hz hM hA hS hl)
theorem g_put {fs : List Value} {v : Value} {ty : FieldType} (hX : Cok X d) (h : AtP d pc ci k ty n) (hm : M a = some (.inl (ci, fs))) (hlen : k < fs.length) (hn : narrow ty v = v) (hfit : fits ty v = true) (kk : G X n lv st (hup M a (.inl (ci, fs.set k v))) sz cs ss) : G X pc lv (v :: .ref a :: st) M sz cs ss := by
  obtain ⟨⟨p, l, e, R, s, m, args, below⟩, meth, c, A, Q, g⟩ := X
  obtain ⟨hx, hb, hml, hown, hts, hKS, hAz, hAn, hst9, hlk, hrt, hnm, hR, hex⟩ := hX
  intro H locs ls hz hM hA hS hl
  obtain ⟨index, ⟨C, T, N⟩, h1, rfl, hq, hk, hf, hd, hfin⟩ := h
  obtain ⟨ref, hl1, hsame⟩ := fl_use hts hf
  have hts9 : ∀ w ∈ u_ws C T N, w.before args s = true := fun w hw => hts w (uw9 ci _ hq w hw).1 (uw9 ci _ hq w hw).2
  have hap := va_apart (own := d.1.cls) hts9 (fun _ z => z) _ (ty9 ci _ hq) (nm9 ci _ hq) hKS.1 hq
  obtain ⟨r, r1, cell, q1, q2, q3, q4⟩ := hM a _ hm
  have hr : r = (C, T, N) := Option.some.inj (r1.symm.trans hq)
  subst hr
  obtain ⟨hSl, hfc, kC, hkC, hkind⟩ := hKS.1.1 ci _ hq
  obtain ⟨cf, kf, fi, f, hi, hsl⟩ := hSl k hk
  have hlay := hts9 _ (u_in_lay hk)
  have hst := (u_facts hfc hkC (u_lays hts9 (fun _ z => z) hk) hi).1
  have fin : ∀ H' : Heap, H'[a]? = some (cell.setSlot f.slot v) → H'.size = H.size → (∀ q, q ≠ a → H'[q]? = H[q]?) → W p l e R s m args below meth c H' (locs ++ [⟨a, f.slot⟩]) cs ss Q (F0 m (pc + 3) ls st) := by
    intro H' e1 e2 e3
    rw [hsl] at e1
    refine kk H' _ ls (e2.trans hz) (hM.set ⟨_, hq, t_OB.to (V := updV (vp_V fs) k v) ⟨_, e1, q2, q3, t_set q4 hap hk v⟩ (fun j _ => vp_updV_set hlen v j)⟩ e3) ?_ (hS.put e2 e3 (hA a _ hm)) hl
    intro q x hx9
    by_cases eq : q = a
    · rw [eq]; exact hA a _ hm
    · rw [hup_n _ _ eq] at hx9; exact hA q x hx9
  rcases hfin with hfin | ⟨hfin, hin1, hdecl⟩
  · unfold u_lay at hlay
    rw [if_neg (by rw [hfin]; decide)] at hlay
    have h6 := u_store hfc hkC hkind hlay hi hd hn hfit
    exact W.putK hx hb (f := f) ⟨hown, hl1, ⟨_, _, _, hsame _ hi⟩, hst⟩ (by rw [q2]; exact h6) q1 q3 (by rw [hsl]; exact k2_hasslot (q4 k hk)) rfl rfl h1 fin
  · unfold u_lay at hlay
    rw [if_pos hfin] at hlay
    have hcf : m.cls = cf := by
      obtain ⟨_, _, c', _, _, _, -, -, hf', -, -, -, hown2, -⟩ := Cond.laysFinal_spec hlay
      have e1 : c' = cf := by have := hi.symm.trans hf'; simp at this; exact this.1.symm
      rw [hdecl] at hown2
      rw [← e1]; exact Option.some.inj (hown.symm.trans hown2)
    have h6 := u_fits hfc hkC hkind (Or.inr hlay) hi hd hn hfit
    exact W.putFinK hx hb hown hl1 (hsame _ hi) hst hcf (hnm.trans hin1) (by rw [q2]; exact h6) q1 q3 (by rw [hsl]; exact k2_hasslot (q4 k hk)) rfl rfl h1 fin
theorem g_iald {i : Int32} {len : Nat} {f : Nat → Int32} (hX : Cok X d) (h : At d pc .iaload 1 n) (hm : M a = some (.inr (0, len, .inl f))) (hin : vp_in i len) (kk : G X n lv (.int (f i.toNatClampNeg) :: st) M sz cs ss) : G X pc lv (.int i :: .ref a :: st) M sz cs ss := by
  obtain ⟨⟨p, l, e, R, s, m, args, below⟩, meth, c, A, Q, g⟩ := X
  obtain ⟨hx, hb, hml, hown, hts, hKS, hAz, hAn, hst9, hlk, hrt, hnm, hR, hex⟩ := hX
  intro H locs ls hz hM hA hS hl
  obtain ⟨h1, rfl⟩ := h
  exact va_iald (D := g.1) hx hb hKS.1 (hM.one hm) 0 0 rfl rfl hin h1 (kk H locs ls hz hM hA hS hl)
theorem g_zald {i : Int32} {len : Nat} {f : Nat → Int32} (hX : Cok X d) (h : At d pc .baload 1 n) (hm : M a = some (.inr (1, len, .inl f))) (hin : vp_in i len) (kk : G X n lv (.int (f i.toNatClampNeg) :: st) M sz cs ss) : G X pc lv (.int i :: .ref a :: st) M sz cs ss := by
  obtain ⟨⟨p, l, e, R, s, m, args, below⟩, meth, c, A, Q, g⟩ := X
  obtain ⟨hx, hb, hml, hown, hts, hKS, hAz, hAn, hst9, hlk, hrt, hnm, hR, hex⟩ := hX
  intro H locs ls hz hM hA hS hl
  obtain ⟨h1, rfl⟩ := h
  exact va_zald (D := g.1) hx hb hKS.1 (hM.one hm) 0 1 rfl rfl hin h1 (kk H locs ls hz hM hA hS hl)
theorem g_lald {i : Int32} {len : Nat} {f : Nat → Int64} (hX : Cok X d) (h : At d pc .laload 1 n) (hm : M a = some (.inr (2, len, .inr (.inl f)))) (hin : vp_in i len) (kk : G X n lv (.long (f i.toNatClampNeg) :: st) M sz cs ss) : G X pc lv (.int i :: .ref a :: st) M sz cs ss := by
  obtain ⟨⟨p, l, e, R, s, m, args, below⟩, meth, c, A, Q, g⟩ := X
  obtain ⟨hx, hb, hml, hown, hts, hKS, hAz, hAn, hst9, hlk, hrt, hnm, hR, hex⟩ := hX
  intro H locs ls hz hM hA hS hl
  obtain ⟨h1, rfl⟩ := h
  exact va_lald (D := g.1) hx hb hKS.1 (hM.one hm) 0 2 rfl rfl hin h1 (kk H locs ls hz hM hA hS hl)
theorem g_aald {i : Int32} {len : Nat} {f : Nat → Option Nat} (hX : Cok X d) (h : At d pc .aaload 1 n) (hm : M a = some (.inr (3, len, .inr (.inr f)))) (hin : vp_in i len) (kk : G X n lv (va_rf (f i.toNatClampNeg) :: st) M sz cs ss) : G X pc lv (.int i :: .ref a :: st) M sz cs ss := by
  obtain ⟨⟨p, l, e, R, s, m, args, below⟩, meth, c, A, Q, g⟩ := X
  obtain ⟨hx, hb, hml, hown, hts, hKS, hAz, hAn, hst9, hlk, hrt, hnm, hR, hex⟩ := hX
  intro H locs ls hz hM hA hS hl
  obtain ⟨h1, rfl⟩ := h
  exact va_aldq (D := g.1) hx hb hKS.1 (hM.one hm) 0 3 rfl rfl hin h1 (kk H locs ls hz hM hA hS hl)
theorem g_alen {x : Nat × ((Nat → Int32) ⊕ ((Nat → Int64) ⊕ (Nat → Option Nat)))} {k9 : Nat} (hX : Cok X d) (h : At d pc .arraylength 1 n) (hm : M a = some (.inr (k9, x))) (hk9 : k9 < 4) (kk : G X n lv (.int (Int32.ofNat x.1) :: st) M sz cs ss) : G X pc lv (.ref a :: st) M sz cs ss := by
  obtain ⟨⟨p, l, e, R, s, m, args, below⟩, meth, c, A, Q, g⟩ := X
  obtain ⟨hx, hb, hml, hown, hts, hKS, hAz, hAn, hst9, hlk, hrt, hnm, hR, hex⟩ := hX
  intro H locs ls hz hM hA hS hl
  obtain ⟨h1, rfl⟩ := h
  obtain ⟨len, f | f | f⟩ := x
  all_goals
    have hK9 : ∃ ty, (tys9 g.2.1)[k9]? = some (g.2.1 k9, ty) := by
      match k9, hk9 with
      | 0, _ => exact ⟨_, rfl⟩
      | 1, _ => exact ⟨_, rfl⟩
      | 2, _ => exact ⟨_, rfl⟩
      | 3, _ => exact ⟨_, rfl⟩
    obtain ⟨ty, hty⟩ := hK9
    exact va_alen (D := g.1) hx hb hKS.1 (hM.one hm) 0 k9 rfl hty rfl h1 (kk H locs ls hz hM hA hS hl)
theorem dom_up {A : Nat → Prop} {x : hC} (hA : ∀ (q : Nat) (x : hC), M q = some x → A q) (ha : A a) : ∀ (q : Nat) (y : hC), hup M a x q = some y → A q := by
  intro q y hy
  by_cases e : q = a
  · rw [e]; exact ha
  · rw [hup_n _ _ e] at hy; exact hA q y hy
theorem g_iast {i : Int32} {x : Int32} {len : Nat} {f : Nat → Int32} (hX : Cok X d) (h : At d pc .iastore 1 n) (hm : M a = some (.inr (0, len, (.inl f)))) (hin : vp_in i len) (kk : G X n lv st (hup M a (.inr (0, len, (.inl (upd f i.toNatClampNeg x))))) sz cs ss) : G X pc lv (.int x :: .int i :: .ref a :: st) M sz cs ss := by
  obtain ⟨⟨p, l, e, R, s, m, args, below⟩, meth, c, A, Q, g⟩ := X
  obtain ⟨hx, hb, hml, hown, hts, hKS, hAz, hAn, hst9, hlk, hrt, hnm, hR, hex⟩ := hX
  intro H locs ls hz hM hA hS hl
  obtain ⟨h1, rfl⟩ := h
  refine W.iast hx hb (hM a _ hm) ((hKS.1.2 0 _ rfl).1 len (fun j => .int (f j))) (fun q => by cases q) (by show ¬ (i < 0 ∨ (arrV _ _ _).slots.size ≤ _); rw [arrV_size]; exact hin) rfl rfl h1 fun H1 e z oq => ?_
  refine kk H1 _ ls (z.trans hz) (hM.set ?_ oq) (dom_up hA (hA a _ hm)) (hS.put z oq (hA a _ hm)) hl
  show H1[a]? = some (vp_cell _ _)
  rw [e]
  dsimp only
  rw [vp_cell_i, vp_cell_i, arrV_store]
  congr 2
  funext q
  by_cases hq : q = i.toNatClampNeg
  · subst hq
    simp [updV, upd, vp_updL, vp_nar]
    try rfl
  · simp [updV, upd, vp_updL, hq]
theorem g_zast {i : Int32} {x : Int32} {len : Nat} {f : Nat → Int32} (hX : Cok X d) (h : At d pc .bastore 1 n) (hm : M a = some (.inr (1, len, (.inl f)))) (hin : vp_in i len) (kk : G X n lv st (hup M a (.inr (1, len, (.inl (upd f i.toNatClampNeg (vp_nar .boolean x)))))) sz cs ss) : G X pc lv (.int x :: .int i :: .ref a :: st) M sz cs ss := by
  obtain ⟨⟨p, l, e, R, s, m, args, below⟩, meth, c, A, Q, g⟩ := X
  obtain ⟨hx, hb, hml, hown, hts, hKS, hAz, hAn, hst9, hlk, hrt, hnm, hR, hex⟩ := hX
  intro H locs ls hz hM hA hS hl
  obtain ⟨h1, rfl⟩ := h
  refine W.zast hx hb (hM a _ hm) ((hKS.1.2 1 _ rfl).1 len (fun j => .int (f j))) (fun q => by cases q) (by show ¬ (i < 0 ∨ (arrV _ _ _).slots.size ≤ _); rw [arrV_size]; exact hin) rfl rfl h1 fun H1 e z oq => ?_
  refine kk H1 _ ls (z.trans hz) (hM.set ?_ oq) (dom_up hA (hA a _ hm)) (hS.put z oq (hA a _ hm)) hl
  show H1[a]? = some (vp_cell _ _)
  rw [e]
  dsimp only
  rw [vp_cell_i, vp_cell_i, arrV_store]
  congr 2
  funext q
  by_cases hq : q = i.toNatClampNeg
  · subst hq
    simp [updV, upd, vp_updL, vp_nar]
    try rfl
  · simp [updV, upd, vp_updL, hq]
theorem g_last {i : Int32} {x : Int64} {len : Nat} {f : Nat → Int64} (hX : Cok X d) (h : At d pc .lastore 1 n) (hm : M a = some (.inr (2, len, (.inr (.inl f))))) (hin : vp_in i len) (kk : G X n lv st (hup M a (.inr (2, len, (.inr (.inl (vp_updL f i.toNatClampNeg x)))))) sz cs ss) : G X pc lv (.long x :: .int i :: .ref a :: st) M sz cs ss := by
  obtain ⟨⟨p, l, e, R, s, m, args, below⟩, meth, c, A, Q, g⟩ := X
  obtain ⟨hx, hb, hml, hown, hts, hKS, hAz, hAn, hst9, hlk, hrt, hnm, hR, hex⟩ := hX
  intro H locs ls hz hM hA hS hl
  obtain ⟨h1, rfl⟩ := h
  refine W.last hx hb (hM a _ hm) ((hKS.1.2 2 _ rfl).1 len (fun j => .long (f j))) (fun q => by cases q) (by show ¬ (i < 0 ∨ (arrV _ _ _).slots.size ≤ _); rw [arrV_size]; exact hin) rfl rfl h1 fun H1 e z oq => ?_
  refine kk H1 _ ls (z.trans hz) (hM.set ?_ oq) (dom_up hA (hA a _ hm)) (hS.put z oq (hA a _ hm)) hl
  show H1[a]? = some (vp_cell _ _)
  rw [e]
  dsimp only
  rw [vp_cell_l, vp_cell_l, arrV_store]
  congr 2
  funext q
  by_cases hq : q = i.toNatClampNeg
  · subst hq
    simp [updV, upd, vp_updL, vp_nar]
    try rfl
  · simp [updV, upd, vp_updL, hq]
theorem g_aast {i : Int32} {v : Nat} {len cv : Nat} {vs : List Value} {f : Nat → Option Nat} (hX : Cok X d) (h : At d pc .aastore 1 n) (hm : M a = some (.inr (3, len, .inr (.inr f)))) (hin : vp_in i len) (hmv : M v = some (.inl (cv, vs))) (hcast : ∃ (j : Nat) (q : vw_C), cls9[cv]? = some q ∧ lw_tbl[j]? = some (Cond.castable q.1 "java/lang/Object")) (kk : G X n lv st (hup M a (.inr (3, len, .inr (.inr (va_up f i.toNatClampNeg (some v)))))) sz cs ss) : G X pc lv (.ref v :: .int i :: .ref a :: st) M sz cs ss := by
  obtain ⟨⟨p, l, e, R, s, m, args, below⟩, meth, c, A, Q, g⟩ := X
  obtain ⟨hx, hb, hml, hown, hts, hKS, hAz, hAn, hst9, hlk, hrt, hnm, hR, hex⟩ := hX
  intro H locs ls hz hM hA hS hl
  obtain ⟨h1, rfl⟩ := h
  obtain ⟨j9, q9, hq9, hj9⟩ := hcast
  have hlt : i.toNatClampNeg < len := Nat.not_le.mp fun q => hin (Or.inr q)
  have h0 : ¬ i < 0 := fun q => hin (Or.inl q)
  obtain ⟨r', hr', cellV, g1, g2, g3, -⟩ := hM v _ hmv
  have hcls := (hKS.1.1 cv q9 hq9).2
  obtain ⟨kA, comp, k1, k2, k3, -⟩ := (hKS.1.2 3 _ rfl).2
  obtain ⟨kE, hkE, -⟩ := Vm.findClass_spec k3
  obtain ⟨c0, t1, f1, f2, f3⟩ := Cond.castable_spec (hts.at j9 hj9 rfl)
  cases hcls.1.symm.trans f1
  cases k3.symm.trans f2
  obtain ⟨kC, hkC, -⟩ := hcls.2
  refine W.aast hx hb (hM a _ hm) (fun q h => by cases h) (fun h => by cases h) k1 k2 rfl hkE ⟨h0, by show _ < (arrV _ _ _).slots.size; rw [arrV_size]; exact hlt⟩ g1 (fun q h => by rw [g3] at h; cases h) (by rw [g2]; exact hkC) (by rw [g2]; exact f3) rfl rfl h1 fun H1 e z oq => ?_
  refine kk H1 _ ls (z.trans hz) (hM.set ?_ oq) (dom_up hA (hA a _ hm)) (hS.put z oq (hA a _ hm)) hl
  show H1[a]? = some (vp_cell _ _)
  rw [e]
  dsimp only
  rw [vp_cell_q, vp_cell_q, arrV_store]
  congr 2
  funext q
  by_cases hq : q = i.toNatClampNeg
  · subst hq
    simp [updV, va_up, va_rf]
  · simp [updV, va_up, hq]
/-! what is made -/
def AtN (d : hD) (pc ci : Nat) (fs : List Value) (n : Nat) : Prop := ∃ (index i1 i2 i3 : Nat) (q : vw_C), decode d.2.1 pc = .ok (.new index, 3) ∧ pc + 3 = n ∧ cls9[ci]? = some q ∧ lw_tbl[i1]? = some (Cond.classLink d.1.cls index q.1) ∧ lw_tbl[i2]? = some (Cond.instantiable q.1 q.2.2) ∧ lw_tbl[i3]? = some (Cond.initialized q.1) ∧ fs.length = q.2.2 ∧ ∀ j, j < q.2.2 → defaultValue ((tyf9.getD ci tyX10) j) = vp_V fs j
theorem g_new {fs : List Value} {N : Nat} (hX : Cok X d) (h : AtN d pc ci fs n) (hN : fs.length = N) (hc : cs + 1 ≤ d.2.2.2.2.1.cells) (hs : ss + N ≤ d.2.2.2.2.1.slots) (kk : G X n lv (.ref sz :: st) (hup M sz (.inl (ci, fs))) (sz + 1) (cs + 1) (ss + N)) : G X pc lv st M sz cs ss := by
  obtain ⟨⟨p, l, e, R, s, m, args, below⟩, meth, c, A, Q, g⟩ := X
  obtain ⟨hx, hb, hml, hown, hts, hKS, hAz, hAn, hst9, hlk, hrt, hnm, hR, hex⟩ := hX
  intro H locs ls hz hM hA hS hl
  obtain ⟨index, i1, i2, i3, ⟨C, T, N'⟩, h1, rfl, hq, e1, e2, e3, hlen, hfs⟩ := h
  have hNN : N = N' := hN.symm.trans hlen
  subst hNN
  have hKn := hKS.1.1 ci _ hq
  have hts9 : ∀ w ∈ u_ws C T N, w.before args s = true := fun w hw => hts w (uw9 ci _ hq w hw).1 (uw9 ci _ hq w hw).2
  have hR' : R = d.2.2.2.2.1 := hR
  subst hz
  refine W.newcK hx hb hown (hts.at i1 e1 rfl) (hts.at i2 e2 rfl) (hts.at i3 e3 rfl) rfl h1 (by rw [hR']; exact hc) (by rw [hR']; exact hs) hKn.2.1 rfl fun H1 kC hkC g1 z1 o1 => ?_
  refine kk H1 locs ls z1 (hM.push ⟨_, hq, (u_born _ hts9 (fun _ z => z) hKn hkC g1 (ty9 ci _ hq)).to hfs⟩ o1) (dom_up hA (hAn _ hS.1)) ⟨Nat.le_trans hS.1 (by omega), fun x h1 h2 => (o1 x (Nat.lt_of_lt_of_le h1 hS.1)).trans (hS.2.1 x h1 h2), hS.2.2⟩ hl
def AtNA (d : hD) (pc k9 : Nat) (n : Nat) : Prop := ∃ (at9 : ArrayType) (i : Nat), decode d.2.1 pc = .ok (.newarray at9, 2) ∧ pc + 2 = n ∧ lw_tbl[i]? = some (Cond.arrayClass (newarray.typeOf at9)) ∧ k9 < 3 ∧ (tys9 (fun _ => 0))[k9]? = some (0, newarray.typeOf at9) ∧ componentBytes (newarray.typeOf at9) ≤ 8
def nul9 (k9 : Nat) : (Nat → Int32) ⊕ ((Nat → Int64) ⊕ (Nat → Option Nat)) := if k9 = 2 then .inr (.inl (fun _ => 0)) else .inl (fun _ => 0)
theorem g_newa {i : Int32} {k9 N : Nat} (hX : Cok X d) (h : AtNA d pc k9 n) (hi : i = nI N) (hN : N < 65536) (hc : cs + 1 ≤ d.2.2.2.2.1.cells) (hs : ss + N ≤ d.2.2.2.2.1.slots) (kk : G X n lv (.ref sz :: st) (hup M sz (.inr (k9, N, nul9 k9))) (sz + 1) (cs + 1) (ss + N)) : G X pc lv (.int i :: st) M sz cs ss := by
  obtain ⟨⟨p, l, e, R, s, m, args, below⟩, meth, c, A, Q, g⟩ := X
  obtain ⟨hx, hb, hml, hown, hts, hKS, hAz, hAn, hst9, hlk, hrt, hnm, hR, hex⟩ := hX
  intro H locs ls hz hM hA hS hl
  obtain ⟨at9, j, h1, rfl, e1, hk9, ht9, hcb⟩ := h
  subst hi
  have hR' : R = d.2.2.2.2.1 := hR
  subst hz
  refine va_newaK hx hb (hts.at j e1 rfl) rfl h1 rfl (nI_pos (by omega)) (nI_clamp (by omega)) ?_ (by rw [hR']; exact hc) (by rw [hR']; exact hs) rfl fun H1 cA g1 z1 o1 hAr hNm => ?_
  · have := Nat.mul_le_mul (Nat.le_of_lt hN) hcb
    omega
  have hcA : cA = g.2.1 k9 ∧ ∃ v9 : Nat → Value, vp_cell cA (match nul9 k9 with | .inl f => (N, .inl f) | .inr (.inl f) => (N, .inr (.inl f)) | .inr (.inr f) => (N, .inr (.inr (.inr (.inr f))))) = arrV cA N (fun _ => defaultValue (newarray.typeOf at9)) := by
    match k9, hk9 with
    | 0, _ =>
      have ht : newarray.typeOf at9 = .int := by simpa [tys9] using ht9.symm
      rw [ht] at hNm ⊢
      exact ⟨Option.some.inj (hNm.symm.trans (hKS.1.2 0 _ rfl).2), fun _ => .null, rfl⟩
    | 1, _ =>
      have ht : newarray.typeOf at9 = .boolean := by simpa [tys9] using ht9.symm
      rw [ht] at hNm ⊢
      exact ⟨Option.some.inj (hNm.symm.trans (hKS.1.2 1 _ rfl).2), fun _ => .null, rfl⟩
    | 2, _ =>
      have ht : newarray.typeOf at9 = .long := by simpa [tys9] using ht9.symm
      rw [ht] at hNm ⊢
      exact ⟨Option.some.inj (hNm.symm.trans (hKS.1.2 2 _ rfl).2), fun _ => .null, rfl⟩
  obtain ⟨rfl, -, hce⟩ := hcA
  refine kk H1 locs ls z1 (hM.push ?_ o1) (dom_up hA (hAn _ hS.1)) ⟨Nat.le_trans hS.1 (by omega), fun x h1 h2 => (o1 x (Nat.lt_of_lt_of_le h1 hS.1)).trans (hS.2.1 x h1 h2), hS.2.2⟩ hl
  have hg : H1[H.size]? = some (vp_cell (g.2.1 k9) (match nul9 k9 with | .inl f => (N, .inl f) | .inr (.inl f) => (N, .inr (.inl f)) | .inr (.inr f) => (N, .inr (.inr (.inr (.inr f)))))) := by rw [hce]; exact g1
  by_cases h2 : k9 = 2
  · subst h2
    exact hg
  · unfold nul9 at hg ⊢
    rw [if_neg h2] at hg ⊢
    exact hg
def AtNQ (d : hD) (pc n : Nat) : Prop := ∃ (index i : Nat), decode d.2.1 pc = .ok (.anewarray index, 3) ∧ pc + 3 = n ∧ lw_tbl[i]? = some (Cond.classLink d.1.cls index "java/lang/Object")
theorem g_newq {i : Int32} {N : Nat} (hX : Cok X d) (h : AtNQ d pc n) (hi : i = nI N) (hN : N < 65536) (hc : cs + 1 ≤ d.2.2.2.2.1.cells) (hs : ss + N ≤ d.2.2.2.2.1.slots) (kk : G X n lv (.ref sz :: st) (hup M sz (.inr (3, N, .inr (.inr (fun _ => none))))) (sz + 1) (cs + 1) (ss + N)) : G X pc lv (.int i :: st) M sz cs ss := by
  obtain ⟨⟨p, l, e, R, s, m, args, below⟩, meth, c, A, Q, g⟩ := X
  obtain ⟨hx, hb, hml, hown, hts, hKS, hAz, hAn, hst9, hlk, hrt, hnm, hR, hex⟩ := hX
  intro H locs ls hz hM hA hS hl
  obtain ⟨index, j, h1, rfl, e1⟩ := h
  subst hi
  have hR' : R = d.2.2.2.2.1 := hR
  subst hz
  obtain ⟨hK, -, -, -, -, -, -, hAO, -⟩ := hKS
  have hcl : (nI N).toNatClampNeg = N := nI_clamp (by omega)
  refine W.anew hx hb hown (hts.at j e1 rfl) (va_AO.use hAO) rfl h1 rfl (nI_pos (by omega)) (by rw [hcl]; omega) (by rw [hR']; exact hc) (by rw [hR', hcl]; exact hs) fun cA kA comp f1 f2 f3 f4 => ?_
  rw [hcl]
  have hcA : cA = g.2.1 3 := by
    obtain ⟨_, _, _, _, _, k4⟩ := (hK.2 3 _ rfl).2
    exact Option.some.inj (f1.symm.trans k4)
  subst hcA
  generalize hH1 : H.push ({ cls := g.2.1 3, slots := Array.replicate N .null, vm := .none } : Cell) = H1
  have z1 : H1.size = H.size + 1 := by rw [← hH1, Array.size_push]
  have e1 : H1[H.size]? = some (arrV (g.2.1 3) N (fun _ => .null)) := by rw [← hH1, Array.getElem?_push_size, ← arrV_new]
  have o1 : ∀ q : Nat, q < H.size → H1[q]? = H[q]? := fun q hq => by rw [← hH1, Array.getElem?_push, if_neg (Nat.ne_of_lt hq)]
  exact kk H1 locs ls z1 (hM.push (show H1[H.size]? = some (vp_cell _ _) by rw [vp_cell_q]; exact e1) o1) (dom_up hA (hAn _ hS.1)) ⟨Nat.le_trans hS.1 (by omega), fun x h1 h2 => (o1 x (Nat.lt_of_lt_of_le h1 hS.1)).trans (hS.2.1 x h1 h2), hS.2.2⟩ hl
/-! statics, casts, domains -/
def AtGS (d : hD) (pc : Nat) (C nm ds : String) (n : Nat) : Prop := ∃ (index i : Nat), decode d.2.1 pc = .ok (.getstatic index, 3) ∧ pc + 3 = n ∧ lw_tbl[i]? = some (Cond.fieldLink d.1.cls index C nm ds)
theorem g_getsM (hX : Cok X d) (h : AtGS d pc "Hymnwright$Days" "AHEAD_OF_MONTH" "[I" n) (kk : G X n lv (.ref X.2.2.2.2.2.2.2.2.1 :: st) M sz cs ss) : G X pc lv st M sz cs ss := by
  obtain ⟨⟨p, l, e, R, s, m, args, below⟩, meth, c, A, Q, g⟩ := X
  obtain ⟨hx, hb, hml, hown, hts, hKS, hAz, hAn, hst9, hlk, hrt, hnm, hR, hex⟩ := hX
  intro H locs ls hz hM hA hS hl
  obtain ⟨index, j, h1, rfl, e1⟩ := h
  obtain ⟨-, -, -, ⟨h4, -, -⟩, -⟩ := hKS
  exact va_gets hx hb (h4.narrow hAz) hS hown (hts.at j e1 rfl) (fun _ z => z) h1 (kk H locs ls hz hM hA hS hl)
theorem g_getsD (hX : Cok X d) (h : AtGS d pc "java/util/ArrayList" "DEFAULTCAPACITY_EMPTY_ELEMENTDATA" "[Ljava/lang/Object;" n) (kk : G X n lv (.ref X.2.2.2.2.2.2.2.2.2 :: st) M sz cs ss) : G X pc lv st M sz cs ss := by
  obtain ⟨⟨p, l, e, R, s, m, args, below⟩, meth, c, A, Q, g⟩ := X
  obtain ⟨hx, hb, hml, hown, hts, hKS, hAz, hAn, hst9, hlk, hrt, hnm, hR, hex⟩ := hX
  intro H locs ls hz hM hA hS hl
  obtain ⟨index, j, h1, rfl, e1⟩ := h
  obtain ⟨-, -, -, -, ⟨h4, -, -⟩, -⟩ := hKS
  exact va_gets hx hb (h4.narrow hAz) hS hown (hts.at j e1 rfl) (fun _ z => z) h1 (kk H locs ls hz hM hA hS hl)
theorem g_ialdM {i : Int32} (hX : Cok X d) (h : At d pc .iaload 1 n) (hin : vp_in i 12) (kk : G X n lv (.int (fM i.toNatClampNeg) :: st) M sz cs ss) : G X pc lv (.int i :: .ref X.2.2.2.2.2.2.2.2.1 :: st) M sz cs ss := by
  obtain ⟨⟨p, l, e, R, s, m, args, below⟩, meth, c, A, Q, g⟩ := X
  obtain ⟨hx, hb, hml, hown, hts, hKS, hAz, hAn, hst9, hlk, hrt, hnm, hR, hex⟩ := hX
  intro H locs ls hz hM hA hS hl
  obtain ⟨h1, rfl⟩ := h
  obtain ⟨-, -, hz0, ⟨-, h5, h6⟩, -⟩ := hKS
  exact va_sld hx hb h5 (Nat.lt_of_lt_of_le h6 hz0) (fun q => absurd (hAz _ q) (Nat.not_le.mpr h6)) hS hin h1 (kk H locs ls hz hM hA hS hl)
theorem g_alenM (hX : Cok X d) (h : At d pc .arraylength 1 n) (kk : G X n lv (.int 12 :: st) M sz cs ss) : G X pc lv (.ref X.2.2.2.2.2.2.2.2.1 :: st) M sz cs ss := by
  obtain ⟨⟨p, l, e, R, s, m, args, below⟩, meth, c, A, Q, g⟩ := X
  obtain ⟨hx, hb, hml, hown, hts, hKS, hAz, hAn, hst9, hlk, hrt, hnm, hR, hex⟩ := hX
  intro H locs ls hz hM hA hS hl
  obtain ⟨h1, rfl⟩ := h
  obtain ⟨-, -, hz0, ⟨-, h5, h6⟩, -⟩ := hKS
  exact va_slen hx hb h5 (Nat.lt_of_lt_of_le h6 hz0) (fun q => absurd (hAz _ q) (Nat.not_le.mpr h6)) hS h1 (kk H locs ls hz hM hA hS hl)
theorem g_alenD (hX : Cok X d) (h : At d pc .arraylength 1 n) (kk : G X n lv (.int 0 :: st) M sz cs ss) : G X pc lv (.ref X.2.2.2.2.2.2.2.2.2 :: st) M sz cs ss := by
  obtain ⟨⟨p, l, e, R, s, m, args, below⟩, meth, c, A, Q, g⟩ := X
  obtain ⟨hx, hb, hml, hown, hts, hKS, hAz, hAn, hst9, hlk, hrt, hnm, hR, hex⟩ := hX
  intro H locs ls hz hM hA hS hl
  obtain ⟨h1, rfl⟩ := h
  obtain ⟨-, -, hz0, -, ⟨-, ⟨cell, ty, c1, c2, c3⟩, h6⟩, -⟩ := hKS
  exact W.alen hx hb (by rw [hS.2.1 _ (Nat.lt_of_lt_of_le h6 hz0) (fun q => absurd (hAz _ q) (Nat.not_le.mpr h6))]; exact c1) c2 (by rw [c3]; rfl) rfl rfl h1 (kk H locs ls hz hM hA hS hl)
def AtC (d : hD) (pc ci n : Nat) : Prop := ∃ (index i : Nat) (q : vw_C), decode d.2.1 pc = .ok (.checkcast index, 3) ∧ pc + 3 = n ∧ cls9[ci]? = some q ∧ lw_tbl[i]? = some (Cond.classLink d.1.cls index q.1)
theorem g_cast {fs : List Value} (hX : Cok X d) (h : AtC d pc ci n) (hm : M a = some (.inl (ci, fs))) (kk : G X n lv (.ref a :: st) M sz cs ss) : G X pc lv (.ref a :: st) M sz cs ss := by
  obtain ⟨⟨p, l, e, R, s, m, args, below⟩, meth, c, A, Q, g⟩ := X
  obtain ⟨hx, hb, hml, hown, hts, hKS, hAz, hAn, hst9, hlk, hrt, hnm, hR, hex⟩ := hX
  intro H locs ls hz hM hA hS hl
  obtain ⟨index, j, q9, h1, rfl, hq, e1⟩ := h
  have hcls := (hKS.1.1 ci q9 hq).2
  exact va_castS hx hb hown (hts.at j e1 rfl) hcls (va_recv (D := g.1) hKS.1 (hM.one hm) hq (q0 := 0) rfl) h1 (kk H locs ls hz hM hA hS hl)
theorem g_dom (hX : Cok X d) (kk : (∀ (q : Nat) (x : hC), M q = some x → q < sz ∧ X.2.2.2.2.2.2.2.1 ≤ q) → G X pc lv st M sz cs ss) : G X pc lv st M sz cs ss := by
  obtain ⟨⟨p, l, e, R, s, m, args, below⟩, meth, c, A, Q, g⟩ := X
  obtain ⟨hx, hb, hml, hown, hts, hKS, hAz, hAn, hst9, hlk, hrt, hnm, hR, hex⟩ := hX
  intro H locs ls hz hM hA hS hl
  exact kk (fun q x hx9 => ⟨by rw [← hz]; exact hM.lt hx9, hAz q (hA q x hx9)⟩) H locs ls hz hM hA hS hl
theorem g_eqM {M' : hM} (e : ∀ q, M q = M' q) (kk : G X pc lv st M' sz cs ss) : G X pc lv st M sz cs ss := by
  have : M = M' := funext e
  rw [this]; exact kk
theorem g_eqL {lv' st' : List Value} (e1 : lv = lv') (e2 : st = st') (kk : G X pc lv' st' M sz cs ss) : G X pc lv st M sz cs ss := by
  rw [e1, e2]; exact kk
theorem g_wide {k1 n1 : Nat} (h1 : cs ≤ k1) (h2 : ss ≤ n1) (kk : G X pc lv st M sz k1 n1) : G X pc lv st M sz cs ss := fun H locs ls hz hM hA hS hl => W.widen h1 h2 (kk H locs ls hz hM hA hS hl)
theorem g_tabIn {dflt lo hi : Int} {offs : Array Int} {len : Nat} {x : Int32} {off : Int} (hX : Cok X d) (hd : decode d.2.1 pc = .ok (.tableswitch dflt lo hi offs, len)) (h1 : ¬ x.toInt < lo) (h2 : ¬ hi < x.toInt) (ho : offs[(x.toInt - lo).toNat]? = some off) (ht : (pc : Int) + off = (t : Int)) (kk : G X t lv st M sz cs ss) : G X pc lv (.int x :: st) M sz cs ss := by
  obtain ⟨⟨p, l, e, R, s, m, args, below⟩, meth, c, A, Q, g⟩ := X
  obtain ⟨hx, hb, hml, hown, hts, hKS, hAz, hAn, hst9, hlk, hrt, hnm, hR, hex⟩ := hX
  intro H locs ls hz hM hA hS hl
  exact lv_tableIn hx hb hd h1 h2 ho ht (kk H locs ls hz hM hA hS hl)
theorem g_tabOut {dflt lo hi : Int} {offs : Array Int} {len : Nat} {x : Int32} (hX : Cok X d) (hd : decode d.2.1 pc = .ok (.tableswitch dflt lo hi offs, len)) (h1 : x.toInt < lo ∨ hi < x.toInt) (ht : (pc : Int) + dflt = (t : Int)) (kk : G X t lv st M sz cs ss) : G X pc lv (.int x :: st) M sz cs ss := by
  obtain ⟨⟨p, l, e, R, s, m, args, below⟩, meth, c, A, Q, g⟩ := X
  obtain ⟨hx, hb, hml, hown, hts, hKS, hAz, hAn, hst9, hlk, hrt, hnm, hR, hex⟩ := hX
  intro H locs ls hz hM hA hS hl
  exact lv_tableOut hx hb hd h1 ht (kk H locs ls hz hM hA hS hl)
end R2
end
section
/-! contracts: what a method is asked for, as a transformer of what its caller wants -/
abbrev hK : Type := (Option Value ⊕ String) → hM → Nat → Prop
abbrev hS : Type := List Value → hM → Nat → hK → Prop
def AA (M : hM) (sz : Nat) : Nat → Prop := fun q => (∃ x, M q = some x) ∨ sz ≤ q
def Pc9 (g : hG) (as : List Value) (M : hM) (sz : Nat) : Array Value → State → Prop := va_Pc as (fun U => U.heap.size = sz ∧ hv g.1 g.2.1 M U.heap ∧ KS g U)
def Qc9 (g : hG) (M : hM) (sz : Nat) (K : hK) : Array Value → State → Outcome → State → Prop := fun _ st oc t => (∃ (v : Option Value) (M' : hM), oc = .returned v ∧ K (.inl v) M' t.heap.size ∧ hv g.1 g.2.1 M' t.heap ∧ ∀ (q : Nat) (x : hC), M' q = some x → AA M sz q) ∧ va_F (AA M sz) st t
def XC9 (g : hG) (M : hM) (sz : Nat) (K : hK) : String → State → State → Prop := fun E st t => (∃ M' : hM, K (.inr E) M' t.heap.size ∧ hv g.1 g.2.1 M' t.heap ∧ ∀ (q : Nat) (x : hC), M' q = some x → AA M sz q) ∧ va_F (AA M sz) st t
def cw9 (d : hD) : Cond := if d.2.2.2.2.2 = [] then Cond.code d.1 d.2.1 d.2.2.1 d.2.2.2.1 else Cond.codeWith d.1 d.2.1 d.2.2.1 d.2.2.2.1 d.2.2.2.2.2
def Ctr (l : Launch) (g : hG) (d : hD) (sp : hS) : Prop := ∀ (as : List Value) (M : hM) (sz : Nat) (K : hK), sp as M sz K → (∀ (q : Nat) (x : hC), M q = some x → g.2.2.1 ≤ q) → g.2.2.1 ≤ sz →
  vx_Met l d.1 [cw9 d] d.2.2.2.2.1 (Pc9 g as M sz) (Qc9 g M sz K) (XC9 g M sz K) d.2.2.2.2.1.cells d.2.2.2.2.1.slots (AA M sz)
/-- what the body owes at its ends -/
def Ret (X : hX) (d : hD) (M : hM) (sz : Nat) (K : hK) : Prop := X.2.2.2.1 = AA M sz ∧ X.2.2.2.2.1 = vx_MQ X.1.2.2.2.2.2.2.2 (Qc9 X.2.2.2.2.2 M sz K) (XC9 X.2.2.2.2.2 M sz K) X.1.2.2.2.2.2.2.1 X.1.2.2.2.2.1 d.2.2.2.2.1.cells d.2.2.2.2.1.slots (AA M sz)
/-- an exception of class E in flight over the frame -/
def GX (X : hX) (pc : Nat) (lv rest : List Value) (M : hM) (sz cs ss : Nat) (E : String) : Prop :=
  ∀ (H : Heap) (locs : List Loc) (ls : Array Slot) (q9 : Nat) (ce : Cell), H.size = sz → hv X.2.2.2.2.2.1 X.2.2.2.2.2.2.1 M H → (∀ (q : Nat) (x : hC), M q = some x → X.2.2.2.1 q) → va_S X.2.2.2.1 X.1.2.2.2.2.1.heap H locs → lh ls X.2.2.1.maxLocals lv →
    H[q9]? = some ce → ce.vm = .none → X.1.2.2.2.2.1.vm.findClass E = some ce.cls →
    vx_W X.1.1 X.1.2.1 X.1.2.2.1 X.1.2.2.2.1 X.1.2.2.2.2.1 X.1.2.2.2.2.2.1 X.1.2.2.2.2.2.2.1 X.1.2.2.2.2.2.2.2 X.2.1 X.2.2.1 H locs cs ss X.2.2.2.2.1 (F0 X.1.2.2.2.2.2.1 pc ls rest) q9
/-- what a call's caller wants of it -/
def Kc (X : hX) (pc n : Nat) (lv rest : List Value) (cs ss : Nat) : hK := fun r M' sz' => match r with
  | .inl v => G X n lv (v.toList ++ rest) M' sz' cs ss
  | .inr E => GX X pc lv rest M' sz' cs ss E
theorem lh_entry {as : List Value} {n : Nat} (hc : ∀ v ∈ as, v.category = 1) (hn : as.length ≤ n) : lh ((lg_sl as ++ List.replicate (n - (lg_sl as).length) Slot.unset).toArray) n (as ++ List.replicate (n - as.length) U9) := by
  have hsl : lg_sl as = as.map Slot.val := by
    unfold lg_sl
    clear hn
    induction as with
    | nil => rfl
    | cons v t ih =>
      have h1 : v.category = 1 := hc v List.mem_cons_self
      rw [List.flatMap_cons, List.map_cons, ih (fun w hw => hc w (List.mem_cons_of_mem _ hw)), h1]
      rfl
  have hlen : (lg_sl as).length = as.length := by rw [hsl, List.length_map]
  have h0 := lv_entry as (n := n) (by rw [hlen]; exact hn)
  refine ⟨h0.1, h0.2.1, by simp; omega, fun i v hv => ?_⟩
  by_cases hi : i < as.length
  · rw [List.getElem?_append_left hi] at hv
    have hm := List.mem_of_getElem? hv
    refine ⟨hc v hm, fun _ => ?_⟩
    rw [List.getElem?_toArray, List.getElem?_append_left (by rw [hlen]; exact hi), hsl, List.getElem?_map, hv]
    rfl
  · rw [List.getElem?_append_right (by omega), List.getElem?_replicate] at hv
    by_cases hj : i - as.length < n - as.length
    · rw [if_pos hj] at hv
      cases hv
      exact ⟨rfl, fun h => by cases h⟩
    · rw [if_neg hj] at hv
      cases hv
theorem Ctr.mk9 {l : Launch} {g : hG} {d : hD} {sp : hS} (hst : l.stackTraces = false) (hy : plainName d.1.cls = true) (hargs : ∀ as M sz K, sp as M sz K → as.length ≤ d.2.2.1 ∧ ∀ v ∈ as, v.category = 1)
    (body : ∀ (X : hX) (as : List Value) (M : hM) (sz : Nat) (K : hK), Cok X d → X.2.2.2.2.2 = g → X.1.2.1 = l → Ret X d M sz K → sp as M sz K → G X 0 (as ++ List.replicate (d.2.2.1 - as.length) U9) [] M sz 0 0) : Ctr l g d sp := by
  intro as M sz K hsp hdom hz0
  have core : ∀ p e s m args below meth c s₁, BodyLoose p l d.1 (headSpec [cw9 d] d.2.2.2.2.1) d.2.1 d.2.2.1 d.2.2.2.1 e s m args below meth c s₁ → c.maxLocals = d.2.2.1 → c.exceptionTable.toList = tableOf d.2.2.2.2.2 → Pc9 g as M sz args s →
      W p l e (headSpec [cw9 d] d.2.2.2.2.1).room s m args below meth c s.heap [] 0 0 (vx_MQ below (Qc9 g M sz K) (XC9 g M sz K) args s d.2.2.2.2.1.cells d.2.2.2.2.1.slots (AA M sz)) (entryFrame m args d.2.2.1) := by
    intro p e s m args below meth c s₁ B hml hex hv
    obtain ⟨rfl, hsz, hM, hKS⟩ := hv
    obtain ⟨ha1, ha2⟩ := hargs as M sz K hsp
    have hTW : TW as.toArray s := by
      have := hKS.2.1
      exact TW.same rfl this
    have hCok : Cok ((p, l, e, d.2.2.2.2.1, s, m, as.toArray, below), meth, c, AA M sz, vx_MQ below (Qc9 g M sz K) (XC9 g M sz K) as.toArray s d.2.2.2.2.1.cells d.2.2.2.2.1.slots (AA M sz), g) d :=
      ⟨B.exec, B.bytes, hml, findClass_of_methodNamed B.named, hTW, hKS, fun q hq => hq.elim (fun ⟨x, hx⟩ => hdom q x hx) (fun h => Nat.le_trans hz0 h), fun q hq => Or.inr (by rw [← hsz]; exact hq), hst, B.notSynchronized, B.returns, (name_of_methodNamed B.named B.method).1, rfl, hex⟩
    have k := body ((p, l, e, d.2.2.2.2.1, s, m, as.toArray, below), meth, c, AA M sz, vx_MQ below (Qc9 g M sz K) (XC9 g M sz K) as.toArray s d.2.2.2.2.1.cells d.2.2.2.2.1.slots (AA M sz), g) as M sz K hCok rfl rfl ⟨rfl, rfl⟩ hsp
    rw [lg_entry_eq]
    exact k s.heap [] _ hsz hM (fun q x hx => Or.inl ⟨x, hx⟩) va_S.rf (by rw [show c.maxLocals = d.2.2.1 from hml]; exact lh_entry ha2 ha1)
  by_cases hh : d.2.2.2.2.2 = []
  · refine vx_ofW (cc := d.2.1) (maxL := d.2.2.1) (ret := d.2.2.2.1) (ws' := []) hy (by unfold cw9; rw [if_pos hh]) ?_
    intro p e s m args below meth c s₁ B hml ht hv
    refine core p e s m args below meth c s₁ B hml ?_ hv
    rw [hh]
    exact List.eq_nil_iff_forall_not_mem.mpr ht
  · refine vx_ofWH (cc := d.2.1) (maxL := d.2.2.1) (ret := d.2.2.2.1) (hh := d.2.2.2.2.2) (ws' := []) hy (by unfold cw9; rw [if_neg hh]) ?_
    intro p e s m args below meth c s₁ B hml hv
    refine core p e s m args below meth c s₁ B hml ?_ hv
    refine vx_table (x := d.1) (y := d.1) (bytes := d.2.1) (maxL' := d.2.2.1) (ret' := d.2.2.2.1) B (atoms_spec (ws := [cw9 d]) B.pre _ ?_)
    unfold cw9
    rw [if_neg hh]
    exact List.mem_cons_self
theorem Pc9.blind {g : hG} {as : List Value} {M : hM} {sz : Nat} : FrameBlind (Pc9 g as M sz) := fun _ _ f mk h => ⟨h.1, h.2.1, h.2.2.1, h.2.2.2.calling f mk _⟩
section R3
variable {X : hX} {d dc : hD} {pc n na t i a : Nat} {lv st rest : List Value} {M : hM} {sz cs ss : Nat} {sp : hS}
/-- behind a run of a callee -/
theorem run9 {As : List Value} (hX : Cok X d) {H : Heap} {locs : List Loc} {ls : Array Slot} {K : hK} (hz : H.size = sz) (hM : hv X.2.2.2.2.2.1 X.2.2.2.2.2.2.1 M H) (hA : ∀ (q : Nat) (x : hC), M q = some x → X.2.2.2.1 q) (hS : va_S X.2.2.2.1 X.1.2.2.2.2.1.heap H locs) (hl : lh ls X.2.2.1.maxLocals lv) (hK : K = Kc X pc (pc + 3) lv rest (cs + dc.2.2.2.2.1.cells) (ss + dc.2.2.2.2.1.slots)) {aa : Array Value}
    (hr : vx_Run X.1.1 X.1.2.1 X.1.2.2.1 X.1.2.2.2.1 X.1.2.2.2.2.1 X.1.2.2.2.2.2.1 X.1.2.2.2.2.2.2.1 X.1.2.2.2.2.2.2.2 X.2.1 X.2.2.1 H locs cs ss dc.2.2.2.2.1.cells dc.2.2.2.2.1.slots (F0 X.1.2.2.2.2.2.1 pc ls st) rest (Qc9 X.2.2.2.2.2 M sz K aa) (XC9 X.2.2.2.2.2 M sz K) (AA M sz)) :
    W X.1.1 X.1.2.1 X.1.2.2.1 X.1.2.2.2.1 X.1.2.2.2.2.1 X.1.2.2.2.2.2.1 X.1.2.2.2.2.2.2.1 X.1.2.2.2.2.2.2.2 X.2.1 X.2.2.1 H locs cs ss X.2.2.2.2.1 (F0 X.1.2.2.2.2.2.1 pc ls st) := by
  obtain ⟨⟨p, l, e, R, s, m, args, below⟩, meth, c, A, Q, g⟩ := X
  obtain ⟨hx, hb, hml, hown, hts, hKS, hAz, hAn, hst9, hlk, hrt, hnm, hR, hex⟩ := hX
  subst hK
  have hfree : ∀ q, AA M sz q → A q := fun q hq => hq.elim (fun ⟨x, h9⟩ => hA q x h9) (fun h9 => hAn q (Nat.le_trans hS.1 (by rw [hz]; exact h9)))
  intro T hT X0
  rcases hr T hT X0 with ⟨v, st₀, t, T', L, h0, X', hL, e1, e2, ⟨⟨v', M', ev, hk, hv', hdom⟩, hF⟩, stp⟩ | ⟨q9, st₀, t, T', L, E, ce, h0, X', hL, e1, e2, ⟨⟨M', hk, hv', hdom⟩, hF⟩, hce, hcv, hcl, stp⟩
  · cases ev
    obtain ⟨k1, k2, k3⟩ := vx_keep h0 e1 hS (fun q _ hq => hfree q hq) hfree hL hF
    obtain ⟨t2, a1, b1⟩ := hk T'.heap (locs ++ L) ls (by rw [e1]) (by rw [e1]; exact hv') (fun q x hx9 => hfree q (hdom q x hx9)) k3 hl T' rfl X'
    exact ⟨t2, stp t2 a1, b1⟩
  · obtain ⟨k1, k2, k3⟩ := vx_keep h0 e1 hS (fun q _ hq => hfree q hq) hfree hL hF
    obtain ⟨t2, a1, b1⟩ := hk T'.heap (locs ++ L) ls q9 ce (by rw [e1]) (by rw [e1]; exact hv') (fun q x hx9 => hfree q (hdom q x hx9)) k3 hl (by rw [e1]; exact hce) hcv hcl T' rfl X'
    exact ⟨t2, stp.trans a1, b1⟩
/-- what holds at a callee's start -/
theorem pre9 {As : List Value} (hX : Cok X d) {H : Heap} {locs : List Loc} (hz : H.size = sz) (hM : hv X.2.2.2.2.2.1 X.2.2.2.2.2.2.1 M H) (hS : va_S X.2.2.2.1 X.1.2.2.2.2.1.heap H locs) : PreS X.1.2.2.2.2.1 H (Pc9 X.2.2.2.2.2 As M sz) As := by
  obtain ⟨⟨p, l, e, R, s, m, args, below⟩, meth, c, A, Q, g⟩ := X
  obtain ⟨hx, hb, hml, hown, hts, hKS, hAz, hAn, hst9, hlk, hrt, hnm, hR, hex⟩ := hX
  refine ⟨Pc9.blind, fun U hU hW => ⟨rfl, by rw [hU]; exact hz, by rw [hU]; exact hM, hKS.next hW (by rw [hU]; exact hS.1) (fun q h1 h2 => by rw [hU]; exact hS.2.1 q h1 (fun h3 => h2 (hAz q h3)))⟩⟩
def Cal (d dc : hD) (na : Nat) : Prop := (∃ i : Nat, lw_tbl[i]? = some (cw9 dc)) ∧ (∃ i : Nat, lw_tbl[i]? = some (Cond.initialized dc.1.cls)) ∧ (dc.1.cls ≠ "java/lang/invoke/MethodHandle" ∧ dc.1.cls ≠ "java/lang/invoke/VarHandle") ∧ (parseMethodDescriptor dc.1.desc).map (fun z => z.parameters.length) = some na ∧ dc.2.2.2.2.1.frames + 1 ≤ d.2.2.2.2.1.frames ∧ 8 + (dc.2.2.1 + 11) + dc.2.2.2.2.1.locals ≤ d.2.2.2.2.1.locals
theorem cw9_tw (dc : hD) : tw (cw9 dc) = true := by
  unfold cw9
  by_cases hh : dc.2.2.2.2.2 = []
  · rw [if_pos hh]; rfl
  · rw [if_neg hh]; rfl
theorem cw9_good (dc : hD) : goodWord (cw9 dc) = true := by
  unfold cw9
  by_cases hh : dc.2.2.2.2.2 = []
  · rw [if_pos hh]; rfl
  · rw [if_neg hh]; rfl
theorem Cal.len {d dc : hD} {na : Nat} (h : Cal d dc na) : ∀ sig, parseMethodDescriptor dc.1.desc = some sig → na = sig.parameters.length := by
  intro sig hs
  have h2 := h.2.2.2.1
  rw [hs] at h2
  exact (Option.some.inj h2).symm
theorem Cal.b {d dc : hD} {na index : Nat} {own : String} {R : Room} {args : Array Value} {s : State} (h : Cal d dc na) (hh : dc.2.2.2.2.2 = []) (hts : TW args s) (hR : R = d.2.2.2.2.1) (hl : (Cond.methodLink own index dc.1).before args s = true) : CallB R s args own index dc.1 dc.2.1 dc.2.2.1 dc.2.2.2.1 [cw9 dc] dc.2.2.2.2.1 dc.2.2.2.2.1.cells dc.2.2.2.2.1.slots na := by
  obtain ⟨⟨i, hi⟩, ⟨j, hj⟩, hn, hlen, hf, hlo⟩ := id h
  subst hR
  have hc := hts.at i hi (cw9_tw dc)
  have e9 : cw9 dc = Cond.code dc.1 dc.2.1 dc.2.2.1 dc.2.2.2.1 := by unfold cw9; rw [if_pos hh]
  refine ⟨rfl, rfl, hf, hlo, fun w hw a' U hW => ?_, by rw [e9]; exact List.mem_cons_self, by rw [← e9]; exact hc, hts.at j hj rfl, hn, h.len, hl⟩
  rw [List.mem_singleton.mp hw]
  exact word_at hW (good_of_word (cw9_good dc)) hc
theorem Cal.nst {d dc : hD} {na index : Nat} {own host : String} {R : Room} {args : Array Value} {s : State} (h : Cal d dc na) (hh : dc.2.2.2.2.2 = []) (hts : TW args s) (hR : R = d.2.2.2.2.1) (hl : (Cond.methodLinkNest own index dc.1 host).before args s = true) : va_CN R s args own index dc.1 host dc.2.1 dc.2.2.1 dc.2.2.2.1 [cw9 dc] dc.2.2.2.2.1 dc.2.2.2.2.1.cells dc.2.2.2.2.1.slots na := by
  obtain ⟨⟨i, hi⟩, ⟨j, hj⟩, hn, hlen, hf, hlo⟩ := id h
  subst hR
  have hc := hts.at i hi (cw9_tw dc)
  have e9 : cw9 dc = Cond.code dc.1 dc.2.1 dc.2.2.1 dc.2.2.2.1 := by unfold cw9; rw [if_pos hh]
  refine ⟨⟨rfl, rfl, hf, hlo, fun w hw a' U hW => ?_, by rw [e9]; exact List.mem_cons_self⟩, by rw [← e9]; exact hc, hts.at j hj rfl, hn, h.len, hl⟩
  rw [List.mem_singleton.mp hw]
  exact word_at hW (good_of_word (cw9_good dc)) hc
theorem Cal.w {d dc : hD} {na index : Nat} {own : String} {R : Room} {args : Array Value} {s : State} (h : Cal d dc na) (hh : ¬ dc.2.2.2.2.2 = []) (hts : TW args s) (hR : R = d.2.2.2.2.1) (hl : (Cond.methodLink own index dc.1).before args s = true) (hs : (Cond.static dc.1).before args s = true) : vx_CSW R s args own index dc.1 dc.2.1 dc.2.2.1 dc.2.2.2.1 dc.2.2.2.2.2 [cw9 dc] dc.2.2.2.2.1 dc.2.2.2.2.1.cells dc.2.2.2.2.1.slots na := by
  obtain ⟨⟨i, hi⟩, ⟨j, hj⟩, hn, hlen, hf, hlo⟩ := id h
  subst hR
  have hc := hts.at i hi (cw9_tw dc)
  have e9 : cw9 dc = Cond.codeWith dc.1 dc.2.1 dc.2.2.1 dc.2.2.2.1 dc.2.2.2.2.2 := by unfold cw9; rw [if_neg hh]
  refine ⟨⟨rfl, rfl, hf, hlo, fun w hw a' U hW => ?_, by rw [e9]; exact List.mem_cons_self⟩, by rw [← e9]; exact hc, hts.at j hj rfl, hn, h.len, hl, hs⟩
  rw [List.mem_singleton.mp hw]
  exact word_at hW (good_of_word (cw9_good dc)) hc
/-! the calls: static, of a nest mate, with handlers; of an object; constructors -/
def AtS (d : hD) (pc : Nat) (dc : hD) (na n : Nat) : Prop := ∃ index i j : Nat, decode d.2.1 pc = .ok (.invokestatic index, 3) ∧ pc + 3 = n ∧ lw_tbl[i]? = some (Cond.methodLink d.1.cls index dc.1) ∧ lw_tbl[j]? = some (Cond.static dc.1) ∧ dc.2.2.2.2.2 = [] ∧ Cal d dc na
def AtSX (d : hD) (pc : Nat) (dc : hD) (na n : Nat) : Prop := ∃ index i j : Nat, decode d.2.1 pc = .ok (.invokestatic index, 3) ∧ pc + 3 = n ∧ lw_tbl[i]? = some (Cond.methodLink d.1.cls index dc.1) ∧ lw_tbl[j]? = some (Cond.static dc.1) ∧ ¬ dc.2.2.2.2.2 = [] ∧ Cal d dc na
def AtSN (d : hD) (pc : Nat) (dc : hD) (na n : Nat) : Prop := ∃ (index i j : Nat) (host : String), decode d.2.1 pc = .ok (.invokestatic index, 3) ∧ pc + 3 = n ∧ lw_tbl[i]? = some (Cond.methodLinkNest d.1.cls index dc.1 host) ∧ lw_tbl[j]? = some (Cond.static dc.1) ∧ dc.2.2.2.2.2 = [] ∧ Cal d dc na
def AtV (d : hD) (pc : Nat) (dc : hD) (na ci n : Nat) : Prop := ∃ (index i j k : Nat) (q : vw_C), decode d.2.1 pc = .ok (.invokevirtual index, 3) ∧ pc + 3 = n ∧ cls9[ci]? = some q ∧ lw_tbl[i]? = some (Cond.methodLink d.1.cls index dc.1) ∧ lw_tbl[j]? = some (Cond.instanceMethod dc.1) ∧ lw_tbl[k]? = some (Cond.selects q.1 dc.1 dc.1) ∧ dc.2.2.2.2.2 = [] ∧ Cal d dc na
def AtVN (d : hD) (pc : Nat) (dc : hD) (na ci n : Nat) : Prop := ∃ (index i j k : Nat) (q : vw_C) (host : String), decode d.2.1 pc = .ok (.invokevirtual index, 3) ∧ pc + 3 = n ∧ cls9[ci]? = some q ∧ lw_tbl[i]? = some (Cond.methodLinkNest d.1.cls index dc.1 host) ∧ lw_tbl[j]? = some (Cond.instanceMethod dc.1) ∧ lw_tbl[k]? = some (Cond.selects q.1 dc.1 dc.1) ∧ dc.2.2.2.2.2 = [] ∧ Cal d dc na
def AtNI (d : hD) (pc : Nat) (dc : hD) (na n : Nat) : Prop := ∃ index i j : Nat, decode d.2.1 pc = .ok (.invokespecial index, 3) ∧ pc + 3 = n ∧ lw_tbl[i]? = some (Cond.methodLink d.1.cls index dc.1) ∧ lw_tbl[j]? = some (Cond.instanceMethod dc.1) ∧ dc.1.name = "<init>" ∧ dc.2.2.2.1 = none ∧ dc.2.2.2.2.2 = [] ∧ Cal d dc na
def AtNIN (d : hD) (pc : Nat) (dc : hD) (na n : Nat) : Prop := ∃ (index i j : Nat) (host : String), decode d.2.1 pc = .ok (.invokespecial index, 3) ∧ pc + 3 = n ∧ lw_tbl[i]? = some (Cond.methodLinkNest d.1.cls index dc.1 host) ∧ lw_tbl[j]? = some (Cond.instanceMethod dc.1) ∧ dc.1.name = "<init>" ∧ dc.2.2.2.1 = none ∧ dc.2.2.2.2.2 = [] ∧ Cal d dc na
def Rm9 (d dc : hD) (cs ss c2 s2 : Nat) : Prop := cs + dc.2.2.2.2.1.cells = c2 ∧ ss + dc.2.2.2.2.1.slots = s2 ∧ c2 ≤ d.2.2.2.2.1.cells ∧ s2 ≤ d.2.2.2.2.1.slots
theorem g_cS {As : List Value} (hX : Cok X d) (hC : Ctr X.1.2.1 X.2.2.2.2.2 dc sp) (h : AtS d pc dc na n) (hn : As.length = na) (hst : st = As.reverse ++ rest) (hW : (rest.map fun v => v.category).sum ≤ 8) {c2 s2 : Nat} (hrm : Rm9 d dc cs ss c2 s2) (kk : sp As M sz (Kc X pc n lv rest c2 s2)) : G X pc lv st M sz cs ss := by
  obtain ⟨⟨p, l, e, R, s, m, args, below⟩, meth, c, A, Q, g⟩ := X
  obtain ⟨hx, hb, hml, hown, hts, hKS, hAz, hAn, hst9, hlk, hrt, hnm, hR, hex⟩ := hX
  intro H locs ls hz hM hA hS hl
  have hX0 : Cok ((p, l, e, R, s, m, args, below), meth, c, A, Q, g) d := ⟨hx, hb, hml, hown, hts, hKS, hAz, hAn, hst9, hlk, hrt, hnm, hR, hex⟩
  have hR' : R = d.2.2.2.2.1 := hR
  subst hR'
  obtain ⟨index, i1, i2, h1, rfl, e1, e2, hh, hcal⟩ := h
  obtain ⟨rfl, rfl, hrm1, hrm2⟩ := hrm
  have hrm := And.intro hrm1 hrm2
  have hz0 : g.2.2.1 ≤ sz := by rw [← hz]; exact Nat.le_trans hKS.2.2.1 hS.1
  have hC9 := hC _ _ _ _ kk (fun q x h9 => hAz q (hA q x h9)) hz0
  exact run9 (As := As) (dc := dc) (aa := As.toArray) hX0 hz hM hA hS hl rfl (vx_runS (Ts := []) (nL := c.maxLocals) (As := As) (rest := rest) ⟨hx, hb, rfl, hown, fun _ h9 => absurd h9 List.not_mem_nil⟩ hC9 ⟨hcal.b hh hts rfl (hts.at i1 e1 rfl), hts.at i2 e2 rfl⟩ (pre9 hX0 hz hM hS) rfl hn hl.1 hst (lv_room hW) h1 hrm)
theorem g_cSX {As : List Value} (hX : Cok X d) (hC : Ctr X.1.2.1 X.2.2.2.2.2 dc sp) (h : AtSX d pc dc na n) (hn : As.length = na) (hst : st = As.reverse ++ rest) (hW : (rest.map fun v => v.category).sum ≤ 8) {c2 s2 : Nat} (hrm : Rm9 d dc cs ss c2 s2) (kk : sp As M sz (Kc X pc n lv rest c2 s2)) : G X pc lv st M sz cs ss := by
  obtain ⟨⟨p, l, e, R, s, m, args, below⟩, meth, c, A, Q, g⟩ := X
  obtain ⟨hx, hb, hml, hown, hts, hKS, hAz, hAn, hst9, hlk, hrt, hnm, hR, hex⟩ := hX
  intro H locs ls hz hM hA hS hl
  have hX0 : Cok ((p, l, e, R, s, m, args, below), meth, c, A, Q, g) d := ⟨hx, hb, hml, hown, hts, hKS, hAz, hAn, hst9, hlk, hrt, hnm, hR, hex⟩
  have hR' : R = d.2.2.2.2.1 := hR
  subst hR'
  obtain ⟨index, i1, i2, h1, rfl, e1, e2, hh, hcal⟩ := h
  obtain ⟨rfl, rfl, hrm1, hrm2⟩ := hrm
  have hrm := And.intro hrm1 hrm2
  have hz0 : g.2.2.1 ≤ sz := by rw [← hz]; exact Nat.le_trans hKS.2.2.1 hS.1
  have hC9 := hC _ _ _ _ kk (fun q x h9 => hAz q (hA q x h9)) hz0
  exact run9 (As := As) (dc := dc) (aa := As.toArray) hX0 hz hM hA hS hl rfl (vx_runSX (Ts := []) (nL := c.maxLocals) (As := As) (rest := rest) ⟨hx, hb, rfl, hown, fun _ h9 => absurd h9 List.not_mem_nil⟩ hC9 (hcal.w hh hts rfl (hts.at i1 e1 rfl) (hts.at i2 e2 rfl)) (pre9 hX0 hz hM hS) rfl hn hl.1 hst (lv_room hW) h1 hrm)
theorem g_cSN {As : List Value} (hX : Cok X d) (hC : Ctr X.1.2.1 X.2.2.2.2.2 dc sp) (h : AtSN d pc dc na n) (hn : As.length = na) (hst : st = As.reverse ++ rest) (hW : (rest.map fun v => v.category).sum ≤ 8) {c2 s2 : Nat} (hrm : Rm9 d dc cs ss c2 s2) (kk : sp As M sz (Kc X pc n lv rest c2 s2)) : G X pc lv st M sz cs ss := by
  obtain ⟨⟨p, l, e, R, s, m, args, below⟩, meth, c, A, Q, g⟩ := X
  obtain ⟨hx, hb, hml, hown, hts, hKS, hAz, hAn, hst9, hlk, hrt, hnm, hR, hex⟩ := hX
  intro H locs ls hz hM hA hS hl
  have hX0 : Cok ((p, l, e, R, s, m, args, below), meth, c, A, Q, g) d := ⟨hx, hb, hml, hown, hts, hKS, hAz, hAn, hst9, hlk, hrt, hnm, hR, hex⟩
  have hR' : R = d.2.2.2.2.1 := hR
  subst hR'
  obtain ⟨index, i1, i2, host, h1, rfl, e1, e2, hh, hcal⟩ := h
  obtain ⟨rfl, rfl, hrm1, hrm2⟩ := hrm
  have hrm := And.intro hrm1 hrm2
  have hz0 : g.2.2.1 ≤ sz := by rw [← hz]; exact Nat.le_trans hKS.2.2.1 hS.1
  have hC9 := hC _ _ _ _ kk (fun q x h9 => hAz q (hA q x h9)) hz0
  exact run9 (As := As) (dc := dc) (aa := As.toArray) hX0 hz hM hA hS hl rfl (vx_runSN (Ts := []) (nL := c.maxLocals) (As := As) (rest := rest) ⟨hx, hb, rfl, hown, fun _ h9 => absurd h9 List.not_mem_nil⟩ hC9 ⟨hcal.nst hh hts rfl (hts.at i1 e1 rfl), hts.at i2 e2 rfl, trivial⟩ (pre9 hX0 hz hM hS) rfl hn hl.1 hst (lv_room hW) h1 hrm)
theorem g_cV {As : List Value} {ci : Nat} {fs : List Value} (hX : Cok X d) (hC : Ctr X.1.2.1 X.2.2.2.2.2 dc sp) (h : AtV d pc dc na ci n) (hm : M a = some (.inl (ci, fs))) (hn : As.length = na) (hst : st = As.reverse ++ .ref a :: rest) (hW : (rest.map fun v => v.category).sum ≤ 8) {c2 s2 : Nat} (hrm : Rm9 d dc cs ss c2 s2) (kk : sp (.ref a :: As) M sz (Kc X pc n lv rest c2 s2)) : G X pc lv st M sz cs ss := by
  obtain ⟨⟨p, l, e, R, s, m, args, below⟩, meth, c, A, Q, g⟩ := X
  obtain ⟨hx, hb, hml, hown, hts, hKS, hAz, hAn, hst9, hlk, hrt, hnm, hR, hex⟩ := hX
  intro H locs ls hz hM hA hS hl
  have hX0 : Cok ((p, l, e, R, s, m, args, below), meth, c, A, Q, g) d := ⟨hx, hb, hml, hown, hts, hKS, hAz, hAn, hst9, hlk, hrt, hnm, hR, hex⟩
  have hR' : R = d.2.2.2.2.1 := hR
  subst hR'
  obtain ⟨index, i1, i2, i3, q9, h1, rfl, hq, e1, e2, e3, hh, hcal⟩ := h
  obtain ⟨rfl, rfl, hrm1, hrm2⟩ := hrm
  have hrm := And.intro hrm1 hrm2
  have hz0 : g.2.2.1 ≤ sz := by rw [← hz]; exact Nat.le_trans hKS.2.2.1 hS.1
  have hC9 := hC _ _ _ _ kk (fun q x h9 => hAz q (hA q x h9)) hz0
  exact run9 (As := .ref a :: As) (dc := dc) (aa := (Value.ref a :: As).toArray) hX0 hz hM hA hS hl rfl (vx_runV (Ts := []) (nL := c.maxLocals) (As := As) (rest := rest) (b := a) (C := q9.1) ⟨hx, hb, rfl, hown, fun _ h9 => absurd h9 List.not_mem_nil⟩ hC9 ⟨hcal.b hh hts rfl (hts.at i1 e1 rfl), hts.at i2 e2 rfl, hts.at i3 e3 rfl⟩ ⟨Pc9.blind, va_recv (D := g.1) hKS.1 (hM.one hm) hq (q0 := 0) rfl, (pre9 hX0 hz hM hS).2⟩ rfl hn hl.1 hst (lv_room hW) h1 hrm)
theorem g_cVN {As : List Value} {ci : Nat} {fs : List Value} (hX : Cok X d) (hC : Ctr X.1.2.1 X.2.2.2.2.2 dc sp) (h : AtVN d pc dc na ci n) (hm : M a = some (.inl (ci, fs))) (hn : As.length = na) (hst : st = As.reverse ++ .ref a :: rest) (hW : (rest.map fun v => v.category).sum ≤ 8) {c2 s2 : Nat} (hrm : Rm9 d dc cs ss c2 s2) (kk : sp (.ref a :: As) M sz (Kc X pc n lv rest c2 s2)) : G X pc lv st M sz cs ss := by
  obtain ⟨⟨p, l, e, R, s, m, args, below⟩, meth, c, A, Q, g⟩ := X
  obtain ⟨hx, hb, hml, hown, hts, hKS, hAz, hAn, hst9, hlk, hrt, hnm, hR, hex⟩ := hX
  intro H locs ls hz hM hA hS hl
  have hX0 : Cok ((p, l, e, R, s, m, args, below), meth, c, A, Q, g) d := ⟨hx, hb, hml, hown, hts, hKS, hAz, hAn, hst9, hlk, hrt, hnm, hR, hex⟩
  have hR' : R = d.2.2.2.2.1 := hR
  subst hR'
  obtain ⟨index, i1, i2, i3, q9, host, h1, rfl, hq, e1, e2, e3, hh, hcal⟩ := h
  obtain ⟨rfl, rfl, hrm1, hrm2⟩ := hrm
  have hrm := And.intro hrm1 hrm2
  have hz0 : g.2.2.1 ≤ sz := by rw [← hz]; exact Nat.le_trans hKS.2.2.1 hS.1
  have hC9 := hC _ _ _ _ kk (fun q x h9 => hAz q (hA q x h9)) hz0
  exact run9 (As := .ref a :: As) (dc := dc) (aa := (Value.ref a :: As).toArray) hX0 hz hM hA hS hl rfl (vx_runVN (Ts := []) (nL := c.maxLocals) (As := As) (rest := rest) (b := a) (C := q9.1) ⟨hx, hb, rfl, hown, fun _ h9 => absurd h9 List.not_mem_nil⟩ hC9 ⟨hcal.nst hh hts rfl (hts.at i1 e1 rfl), hts.at i2 e2 rfl, hts.at i3 e3 rfl⟩ ⟨Pc9.blind, va_recv (D := g.1) hKS.1 (hM.one hm) hq (q0 := 0) rfl, (pre9 hX0 hz hM hS).2⟩ rfl hn hl.1 hst (lv_room hW) h1 hrm)
theorem g_cI {As : List Value} (hX : Cok X d) (hC : Ctr X.1.2.1 X.2.2.2.2.2 dc sp) (h : AtNI d pc dc na n) (hn : As.length = na) (hst : st = As.reverse ++ .ref a :: rest) (hW : (rest.map fun v => v.category).sum ≤ 8) {c2 s2 : Nat} (hrm : Rm9 d dc cs ss c2 s2) (kk : sp (.ref a :: As) M sz (Kc X pc n lv rest c2 s2)) : G X pc lv st M sz cs ss := by
  obtain ⟨⟨p, l, e, R, s, m, args, below⟩, meth, c, A, Q, g⟩ := X
  obtain ⟨hx, hb, hml, hown, hts, hKS, hAz, hAn, hst9, hlk, hrt, hnm, hR, hex⟩ := hX
  intro H locs ls hz hM hA hS hl
  have hX0 : Cok ((p, l, e, R, s, m, args, below), meth, c, A, Q, g) d := ⟨hx, hb, hml, hown, hts, hKS, hAz, hAn, hst9, hlk, hrt, hnm, hR, hex⟩
  have hR' : R = d.2.2.2.2.1 := hR
  subst hR'
  obtain ⟨index, i1, i2, h1, rfl, e1, e2, hnm9, hret9, hh, hcal⟩ := h
  obtain ⟨rfl, rfl, hrm1, hrm2⟩ := hrm
  have hrm := And.intro hrm1 hrm2
  have hz0 : g.2.2.1 ≤ sz := by rw [← hz]; exact Nat.le_trans hKS.2.2.1 hS.1
  have hC9 := hC _ _ _ _ kk (fun q x h9 => hAz q (hA q x h9)) hz0
  have hcb := hcal.b hh hts rfl (hts.at i1 e1 rfl)
  rw [hret9] at hcb
  exact run9 (As := .ref a :: As) (dc := dc) (aa := (Value.ref a :: As).toArray) hX0 hz hM hA hS hl rfl (vx_runI (Ts := []) (nL := c.maxLocals) (As := As) (rest := rest) (b := a) ⟨hx, hb, rfl, hown, fun _ h9 => absurd h9 List.not_mem_nil⟩ hC9 ⟨hcb, hnm9, hts.at i2 e2 rfl⟩ (pre9 hX0 hz hM hS) rfl hn hl.1 hst (lv_room hW) h1 hrm)
theorem g_cIN {As : List Value} (hX : Cok X d) (hC : Ctr X.1.2.1 X.2.2.2.2.2 dc sp) (h : AtNIN d pc dc na n) (hn : As.length = na) (hst : st = As.reverse ++ .ref a :: rest) (hW : (rest.map fun v => v.category).sum ≤ 8) {c2 s2 : Nat} (hrm : Rm9 d dc cs ss c2 s2) (kk : sp (.ref a :: As) M sz (Kc X pc n lv rest c2 s2)) : G X pc lv st M sz cs ss := by
  obtain ⟨⟨p, l, e, R, s, m, args, below⟩, meth, c, A, Q, g⟩ := X
  obtain ⟨hx, hb, hml, hown, hts, hKS, hAz, hAn, hst9, hlk, hrt, hnm, hR, hex⟩ := hX
  intro H locs ls hz hM hA hS hl
  have hX0 : Cok ((p, l, e, R, s, m, args, below), meth, c, A, Q, g) d := ⟨hx, hb, hml, hown, hts, hKS, hAz, hAn, hst9, hlk, hrt, hnm, hR, hex⟩
  have hR' : R = d.2.2.2.2.1 := hR
  subst hR'
  obtain ⟨index, i1, i2, host, h1, rfl, e1, e2, hnm9, hret9, hh, hcal⟩ := h
  obtain ⟨rfl, rfl, hrm1, hrm2⟩ := hrm
  have hrm := And.intro hrm1 hrm2
  have hz0 : g.2.2.1 ≤ sz := by rw [← hz]; exact Nat.le_trans hKS.2.2.1 hS.1
  have hC9 := hC _ _ _ _ kk (fun q x h9 => hAz q (hA q x h9)) hz0
  have hcb := hcal.nst hh hts rfl (hts.at i1 e1 rfl)
  rw [hret9] at hcb
  exact run9 (As := .ref a :: As) (dc := dc) (aa := (Value.ref a :: As).toArray) hX0 hz hM hA hS hl rfl (vx_runIN (Ts := []) (nL := c.maxLocals) (As := As) (rest := rest) (b := a) ⟨hx, hb, rfl, hown, fun _ h9 => absurd h9 List.not_mem_nil⟩ hC9 ⟨hcb, hnm9, hts.at i2 e2 rfl⟩ (pre9 hX0 hz hM hS) rfl hn hl.1 hst (lv_room hW) h1 hrm)
theorem g_cS0 (hX : Cok X d) (hC : Ctr X.1.2.1 X.2.2.2.2.2 dc sp) (h : AtS d pc dc 0 n) (hW : (rest.map fun v => v.category).sum ≤ 8) {c2 s2 : Nat} (hrm : Rm9 d dc cs ss c2 s2) (kk : sp [] M sz (Kc X pc n lv rest c2 s2)) : G X pc lv (rest) M sz cs ss := g_cS (As := []) hX hC h rfl rfl hW hrm kk
theorem g_cSX0 (hX : Cok X d) (hC : Ctr X.1.2.1 X.2.2.2.2.2 dc sp) (h : AtSX d pc dc 0 n) (hW : (rest.map fun v => v.category).sum ≤ 8) {c2 s2 : Nat} (hrm : Rm9 d dc cs ss c2 s2) (kk : sp [] M sz (Kc X pc n lv rest c2 s2)) : G X pc lv (rest) M sz cs ss := g_cSX (As := []) hX hC h rfl rfl hW hrm kk
theorem g_cSN0 (hX : Cok X d) (hC : Ctr X.1.2.1 X.2.2.2.2.2 dc sp) (h : AtSN d pc dc 0 n) (hW : (rest.map fun v => v.category).sum ≤ 8) {c2 s2 : Nat} (hrm : Rm9 d dc cs ss c2 s2) (kk : sp [] M sz (Kc X pc n lv rest c2 s2)) : G X pc lv (rest) M sz cs ss := g_cSN (As := []) hX hC h rfl rfl hW hrm kk
theorem g_cV0 {ci : Nat} {fs : List Value} (hX : Cok X d) (hC : Ctr X.1.2.1 X.2.2.2.2.2 dc sp) (h : AtV d pc dc 0 ci n) (hm : M a = some (.inl (ci, fs))) (hW : (rest.map fun v => v.category).sum ≤ 8) {c2 s2 : Nat} (hrm : Rm9 d dc cs ss c2 s2) (kk : sp (.ref a :: []) M sz (Kc X pc n lv rest c2 s2)) : G X pc lv (.ref a :: rest) M sz cs ss := g_cV (As := []) hX hC h hm rfl rfl hW hrm kk
theorem g_cVN0 {ci : Nat} {fs : List Value} (hX : Cok X d) (hC : Ctr X.1.2.1 X.2.2.2.2.2 dc sp) (h : AtVN d pc dc 0 ci n) (hm : M a = some (.inl (ci, fs))) (hW : (rest.map fun v => v.category).sum ≤ 8) {c2 s2 : Nat} (hrm : Rm9 d dc cs ss c2 s2) (kk : sp (.ref a :: []) M sz (Kc X pc n lv rest c2 s2)) : G X pc lv (.ref a :: rest) M sz cs ss := g_cVN (As := []) hX hC h hm rfl rfl hW hrm kk
theorem g_cI0 (hX : Cok X d) (hC : Ctr X.1.2.1 X.2.2.2.2.2 dc sp) (h : AtNI d pc dc 0 n) (hW : (rest.map fun v => v.category).sum ≤ 8) {c2 s2 : Nat} (hrm : Rm9 d dc cs ss c2 s2) (kk : sp (.ref a :: []) M sz (Kc X pc n lv rest c2 s2)) : G X pc lv (.ref a :: rest) M sz cs ss := g_cI (As := []) hX hC h rfl rfl hW hrm kk
theorem g_cIN0 (hX : Cok X d) (hC : Ctr X.1.2.1 X.2.2.2.2.2 dc sp) (h : AtNIN d pc dc 0 n) (hW : (rest.map fun v => v.category).sum ≤ 8) {c2 s2 : Nat} (hrm : Rm9 d dc cs ss c2 s2) (kk : sp (.ref a :: []) M sz (Kc X pc n lv rest c2 s2)) : G X pc lv (.ref a :: rest) M sz cs ss := g_cIN (As := []) hX hC h rfl rfl hW hrm kk
theorem g_cS1 {a1 : Value} (hX : Cok X d) (hC : Ctr X.1.2.1 X.2.2.2.2.2 dc sp) (h : AtS d pc dc 1 n) (hW : (rest.map fun v => v.category).sum ≤ 8) {c2 s2 : Nat} (hrm : Rm9 d dc cs ss c2 s2) (kk : sp [a1] M sz (Kc X pc n lv rest c2 s2)) : G X pc lv (a1 :: rest) M sz cs ss := g_cS (As := [a1]) hX hC h rfl rfl hW hrm kk
theorem g_cSX1 {a1 : Value} (hX : Cok X d) (hC : Ctr X.1.2.1 X.2.2.2.2.2 dc sp) (h : AtSX d pc dc 1 n) (hW : (rest.map fun v => v.category).sum ≤ 8) {c2 s2 : Nat} (hrm : Rm9 d dc cs ss c2 s2) (kk : sp [a1] M sz (Kc X pc n lv rest c2 s2)) : G X pc lv (a1 :: rest) M sz cs ss := g_cSX (As := [a1]) hX hC h rfl rfl hW hrm kk
theorem g_cSN1 {a1 : Value} (hX : Cok X d) (hC : Ctr X.1.2.1 X.2.2.2.2.2 dc sp) (h : AtSN d pc dc 1 n) (hW : (rest.map fun v => v.category).sum ≤ 8) {c2 s2 : Nat} (hrm : Rm9 d dc cs ss c2 s2) (kk : sp [a1] M sz (Kc X pc n lv rest c2 s2)) : G X pc lv (a1 :: rest) M sz cs ss := g_cSN (As := [a1]) hX hC h rfl rfl hW hrm kk
theorem g_cV1 {a1 : Value} {ci : Nat} {fs : List Value} (hX : Cok X d) (hC : Ctr X.1.2.1 X.2.2.2.2.2 dc sp) (h : AtV d pc dc 1 ci n) (hm : M a = some (.inl (ci, fs))) (hW : (rest.map fun v => v.category).sum ≤ 8) {c2 s2 : Nat} (hrm : Rm9 d dc cs ss c2 s2) (kk : sp (.ref a :: [a1]) M sz (Kc X pc n lv rest c2 s2)) : G X pc lv (a1 :: .ref a :: rest) M sz cs ss := g_cV (As := [a1]) hX hC h hm rfl rfl hW hrm kk
theorem g_cVN1 {a1 : Value} {ci : Nat} {fs : List Value} (hX : Cok X d) (hC : Ctr X.1.2.1 X.2.2.2.2.2 dc sp) (h : AtVN d pc dc 1 ci n) (hm : M a = some (.inl (ci, fs))) (hW : (rest.map fun v => v.category).sum ≤ 8) {c2 s2 : Nat} (hrm : Rm9 d dc cs ss c2 s2) (kk : sp (.ref a :: [a1]) M sz (Kc X pc n lv rest c2 s2)) : G X pc lv (a1 :: .ref a :: rest) M sz cs ss := g_cVN (As := [a1]) hX hC h hm rfl rfl hW hrm kk
theorem g_cI1 {a1 : Value} (hX : Cok X d) (hC : Ctr X.1.2.1 X.2.2.2.2.2 dc sp) (h : AtNI d pc dc 1 n) (hW : (rest.map fun v => v.category).sum ≤ 8) {c2 s2 : Nat} (hrm : Rm9 d dc cs ss c2 s2) (kk : sp (.ref a :: [a1]) M sz (Kc X pc n lv rest c2 s2)) : G X pc lv (a1 :: .ref a :: rest) M sz cs ss := g_cI (As := [a1]) hX hC h rfl rfl hW hrm kk
theorem g_cIN1 {a1 : Value} (hX : Cok X d) (hC : Ctr X.1.2.1 X.2.2.2.2.2 dc sp) (h : AtNIN d pc dc 1 n) (hW : (rest.map fun v => v.category).sum ≤ 8) {c2 s2 : Nat} (hrm : Rm9 d dc cs ss c2 s2) (kk : sp (.ref a :: [a1]) M sz (Kc X pc n lv rest c2 s2)) : G X pc lv (a1 :: .ref a :: rest) M sz cs ss := g_cIN (As := [a1]) hX hC h rfl rfl hW hrm kk
theorem g_cS2 {a1 a2 : Value} (hX : Cok X d) (hC : Ctr X.1.2.1 X.2.2.2.2.2 dc sp) (h : AtS d pc dc 2 n) (hW : (rest.map fun v => v.category).sum ≤ 8) {c2 s2 : Nat} (hrm : Rm9 d dc cs ss c2 s2) (kk : sp [a1, a2] M sz (Kc X pc n lv rest c2 s2)) : G X pc lv (a2 :: a1 :: rest) M sz cs ss := g_cS (As := [a1, a2]) hX hC h rfl rfl hW hrm kk
theorem g_cSX2 {a1 a2 : Value} (hX : Cok X d) (hC : Ctr X.1.2.1 X.2.2.2.2.2 dc sp) (h : AtSX d pc dc 2 n) (hW : (rest.map fun v => v.category).sum ≤ 8) {c2 s2 : Nat} (hrm : Rm9 d dc cs ss c2 s2) (kk : sp [a1, a2] M sz (Kc X pc n lv rest c2 s2)) : G X pc lv (a2 :: a1 :: rest) M sz cs ss := g_cSX (As := [a1, a2]) hX hC h rfl rfl hW hrm kk
theorem g_cSN2 {a1 a2 : Value} (hX : Cok X d) (hC : Ctr X.1.2.1 X.2.2.2.2.2 dc sp) (h : AtSN d pc dc 2 n) (hW : (rest.map fun v => v.category).sum ≤ 8) {c2 s2 : Nat} (hrm : Rm9 d dc cs ss c2 s2) (kk : sp [a1, a2] M sz (Kc X pc n lv rest c2 s2)) : G X pc lv (a2 :: a1 :: rest) M sz cs ss := g_cSN (As := [a1, a2]) hX hC h rfl rfl hW hrm kk
theorem g_cV2 {a1 a2 : Value} {ci : Nat} {fs : List Value} (hX : Cok X d) (hC : Ctr X.1.2.1 X.2.2.2.2.2 dc sp) (h : AtV d pc dc 2 ci n) (hm : M a = some (.inl (ci, fs))) (hW : (rest.map fun v => v.category).sum ≤ 8) {c2 s2 : Nat} (hrm : Rm9 d dc cs ss c2 s2) (kk : sp (.ref a :: [a1, a2]) M sz (Kc X pc n lv rest c2 s2)) : G X pc lv (a2 :: a1 :: .ref a :: rest) M sz cs ss := g_cV (As := [a1, a2]) hX hC h hm rfl rfl hW hrm kk
theorem g_cVN2 {a1 a2 : Value} {ci : Nat} {fs : List Value} (hX : Cok X d) (hC : Ctr X.1.2.1 X.2.2.2.2.2 dc sp) (h : AtVN d pc dc 2 ci n) (hm : M a = some (.inl (ci, fs))) (hW : (rest.map fun v => v.category).sum ≤ 8) {c2 s2 : Nat} (hrm : Rm9 d dc cs ss c2 s2) (kk : sp (.ref a :: [a1, a2]) M sz (Kc X pc n lv rest c2 s2)) : G X pc lv (a2 :: a1 :: .ref a :: rest) M sz cs ss := g_cVN (As := [a1, a2]) hX hC h hm rfl rfl hW hrm kk
theorem g_cI2 {a1 a2 : Value} (hX : Cok X d) (hC : Ctr X.1.2.1 X.2.2.2.2.2 dc sp) (h : AtNI d pc dc 2 n) (hW : (rest.map fun v => v.category).sum ≤ 8) {c2 s2 : Nat} (hrm : Rm9 d dc cs ss c2 s2) (kk : sp (.ref a :: [a1, a2]) M sz (Kc X pc n lv rest c2 s2)) : G X pc lv (a2 :: a1 :: .ref a :: rest) M sz cs ss := g_cI (As := [a1, a2]) hX hC h rfl rfl hW hrm kk
theorem g_cIN2 {a1 a2 : Value} (hX : Cok X d) (hC : Ctr X.1.2.1 X.2.2.2.2.2 dc sp) (h : AtNIN d pc dc 2 n) (hW : (rest.map fun v => v.category).sum ≤ 8) {c2 s2 : Nat} (hrm : Rm9 d dc cs ss c2 s2) (kk : sp (.ref a :: [a1, a2]) M sz (Kc X pc n lv rest c2 s2)) : G X pc lv (a2 :: a1 :: .ref a :: rest) M sz cs ss := g_cIN (As := [a1, a2]) hX hC h rfl rfl hW hrm kk
theorem g_cS3 {a1 a2 a3 : Value} (hX : Cok X d) (hC : Ctr X.1.2.1 X.2.2.2.2.2 dc sp) (h : AtS d pc dc 3 n) (hW : (rest.map fun v => v.category).sum ≤ 8) {c2 s2 : Nat} (hrm : Rm9 d dc cs ss c2 s2) (kk : sp [a1, a2, a3] M sz (Kc X pc n lv rest c2 s2)) : G X pc lv (a3 :: a2 :: a1 :: rest) M sz cs ss := g_cS (As := [a1, a2, a3]) hX hC h rfl rfl hW hrm kk
theorem g_cSX3 {a1 a2 a3 : Value} (hX : Cok X d) (hC : Ctr X.1.2.1 X.2.2.2.2.2 dc sp) (h : AtSX d pc dc 3 n) (hW : (rest.map fun v => v.category).sum ≤ 8) {c2 s2 : Nat} (hrm : Rm9 d dc cs ss c2 s2) (kk : sp [a1, a2, a3] M sz (Kc X pc n lv rest c2 s2)) : G X pc lv (a3 :: a2 :: a1 :: rest) M sz cs ss := g_cSX (As := [a1, a2, a3]) hX hC h rfl rfl hW hrm kk
theorem g_cSN3 {a1 a2 a3 : Value} (hX : Cok X d) (hC : Ctr X.1.2.1 X.2.2.2.2.2 dc sp) (h : AtSN d pc dc 3 n) (hW : (rest.map fun v => v.category).sum ≤ 8) {c2 s2 : Nat} (hrm : Rm9 d dc cs ss c2 s2) (kk : sp [a1, a2, a3] M sz (Kc X pc n lv rest c2 s2)) : G X pc lv (a3 :: a2 :: a1 :: rest) M sz cs ss := g_cSN (As := [a1, a2, a3]) hX hC h rfl rfl hW hrm kk
theorem g_cV3 {a1 a2 a3 : Value} {ci : Nat} {fs : List Value} (hX : Cok X d) (hC : Ctr X.1.2.1 X.2.2.2.2.2 dc sp) (h : AtV d pc dc 3 ci n) (hm : M a = some (.inl (ci, fs))) (hW : (rest.map fun v => v.category).sum ≤ 8) {c2 s2 : Nat} (hrm : Rm9 d dc cs ss c2 s2) (kk : sp (.ref a :: [a1, a2, a3]) M sz (Kc X pc n lv rest c2 s2)) : G X pc lv (a3 :: a2 :: a1 :: .ref a :: rest) M sz cs ss := g_cV (As := [a1, a2, a3]) hX hC h hm rfl rfl hW hrm kk
theorem g_cVN3 {a1 a2 a3 : Value} {ci : Nat} {fs : List Value} (hX : Cok X d) (hC : Ctr X.1.2.1 X.2.2.2.2.2 dc sp) (h : AtVN d pc dc 3 ci n) (hm : M a = some (.inl (ci, fs))) (hW : (rest.map fun v => v.category).sum ≤ 8) {c2 s2 : Nat} (hrm : Rm9 d dc cs ss c2 s2) (kk : sp (.ref a :: [a1, a2, a3]) M sz (Kc X pc n lv rest c2 s2)) : G X pc lv (a3 :: a2 :: a1 :: .ref a :: rest) M sz cs ss := g_cVN (As := [a1, a2, a3]) hX hC h hm rfl rfl hW hrm kk
theorem g_cI3 {a1 a2 a3 : Value} (hX : Cok X d) (hC : Ctr X.1.2.1 X.2.2.2.2.2 dc sp) (h : AtNI d pc dc 3 n) (hW : (rest.map fun v => v.category).sum ≤ 8) {c2 s2 : Nat} (hrm : Rm9 d dc cs ss c2 s2) (kk : sp (.ref a :: [a1, a2, a3]) M sz (Kc X pc n lv rest c2 s2)) : G X pc lv (a3 :: a2 :: a1 :: .ref a :: rest) M sz cs ss := g_cI (As := [a1, a2, a3]) hX hC h rfl rfl hW hrm kk
theorem g_cIN3 {a1 a2 a3 : Value} (hX : Cok X d) (hC : Ctr X.1.2.1 X.2.2.2.2.2 dc sp) (h : AtNIN d pc dc 3 n) (hW : (rest.map fun v => v.category).sum ≤ 8) {c2 s2 : Nat} (hrm : Rm9 d dc cs ss c2 s2) (kk : sp (.ref a :: [a1, a2, a3]) M sz (Kc X pc n lv rest c2 s2)) : G X pc lv (a3 :: a2 :: a1 :: .ref a :: rest) M sz cs ss := g_cIN (As := [a1, a2, a3]) hX hC h rfl rfl hW hrm kk
theorem g_cS4 {a1 a2 a3 a4 : Value} (hX : Cok X d) (hC : Ctr X.1.2.1 X.2.2.2.2.2 dc sp) (h : AtS d pc dc 4 n) (hW : (rest.map fun v => v.category).sum ≤ 8) {c2 s2 : Nat} (hrm : Rm9 d dc cs ss c2 s2) (kk : sp [a1, a2, a3, a4] M sz (Kc X pc n lv rest c2 s2)) : G X pc lv (a4 :: a3 :: a2 :: a1 :: rest) M sz cs ss := g_cS (As := [a1, a2, a3, a4]) hX hC h rfl rfl hW hrm kk
theorem g_cSX4 {a1 a2 a3 a4 : Value} (hX : Cok X d) (hC : Ctr X.1.2.1 X.2.2.2.2.2 dc sp) (h : AtSX d pc dc 4 n) (hW : (rest.map fun v => v.category).sum ≤ 8) {c2 s2 : Nat} (hrm : Rm9 d dc cs ss c2 s2) (kk : sp [a1, a2, a3, a4] M sz (Kc X pc n lv rest c2 s2)) : G X pc lv (a4 :: a3 :: a2 :: a1 :: rest) M sz cs ss := g_cSX (As := [a1, a2, a3, a4]) hX hC h rfl rfl hW hrm kk
theorem g_cSN4 {a1 a2 a3 a4 : Value} (hX : Cok X d) (hC : Ctr X.1.2.1 X.2.2.2.2.2 dc sp) (h : AtSN d pc dc 4 n) (hW : (rest.map fun v => v.category).sum ≤ 8) {c2 s2 : Nat} (hrm : Rm9 d dc cs ss c2 s2) (kk : sp [a1, a2, a3, a4] M sz (Kc X pc n lv rest c2 s2)) : G X pc lv (a4 :: a3 :: a2 :: a1 :: rest) M sz cs ss := g_cSN (As := [a1, a2, a3, a4]) hX hC h rfl rfl hW hrm kk
theorem g_cV4 {a1 a2 a3 a4 : Value} {ci : Nat} {fs : List Value} (hX : Cok X d) (hC : Ctr X.1.2.1 X.2.2.2.2.2 dc sp) (h : AtV d pc dc 4 ci n) (hm : M a = some (.inl (ci, fs))) (hW : (rest.map fun v => v.category).sum ≤ 8) {c2 s2 : Nat} (hrm : Rm9 d dc cs ss c2 s2) (kk : sp (.ref a :: [a1, a2, a3, a4]) M sz (Kc X pc n lv rest c2 s2)) : G X pc lv (a4 :: a3 :: a2 :: a1 :: .ref a :: rest) M sz cs ss := g_cV (As := [a1, a2, a3, a4]) hX hC h hm rfl rfl hW hrm kk
theorem g_cVN4 {a1 a2 a3 a4 : Value} {ci : Nat} {fs : List Value} (hX : Cok X d) (hC : Ctr X.1.2.1 X.2.2.2.2.2 dc sp) (h : AtVN d pc dc 4 ci n) (hm : M a = some (.inl (ci, fs))) (hW : (rest.map fun v => v.category).sum ≤ 8) {c2 s2 : Nat} (hrm : Rm9 d dc cs ss c2 s2) (kk : sp (.ref a :: [a1, a2, a3, a4]) M sz (Kc X pc n lv rest c2 s2)) : G X pc lv (a4 :: a3 :: a2 :: a1 :: .ref a :: rest) M sz cs ss := g_cVN (As := [a1, a2, a3, a4]) hX hC h hm rfl rfl hW hrm kk
theorem g_cI4 {a1 a2 a3 a4 : Value} (hX : Cok X d) (hC : Ctr X.1.2.1 X.2.2.2.2.2 dc sp) (h : AtNI d pc dc 4 n) (hW : (rest.map fun v => v.category).sum ≤ 8) {c2 s2 : Nat} (hrm : Rm9 d dc cs ss c2 s2) (kk : sp (.ref a :: [a1, a2, a3, a4]) M sz (Kc X pc n lv rest c2 s2)) : G X pc lv (a4 :: a3 :: a2 :: a1 :: .ref a :: rest) M sz cs ss := g_cI (As := [a1, a2, a3, a4]) hX hC h rfl rfl hW hrm kk
theorem g_cIN4 {a1 a2 a3 a4 : Value} (hX : Cok X d) (hC : Ctr X.1.2.1 X.2.2.2.2.2 dc sp) (h : AtNIN d pc dc 4 n) (hW : (rest.map fun v => v.category).sum ≤ 8) {c2 s2 : Nat} (hrm : Rm9 d dc cs ss c2 s2) (kk : sp (.ref a :: [a1, a2, a3, a4]) M sz (Kc X pc n lv rest c2 s2)) : G X pc lv (a4 :: a3 :: a2 :: a1 :: .ref a :: rest) M sz cs ss := g_cIN (As := [a1, a2, a3, a4]) hX hC h rfl rfl hW hrm kk
theorem g_cS5 {a1 a2 a3 a4 a5 : Value} (hX : Cok X d) (hC : Ctr X.1.2.1 X.2.2.2.2.2 dc sp) (h : AtS d pc dc 5 n) (hW : (rest.map fun v => v.category).sum ≤ 8) {c2 s2 : Nat} (hrm : Rm9 d dc cs ss c2 s2) (kk : sp [a1, a2, a3, a4, a5] M sz (Kc X pc n lv rest c2 s2)) : G X pc lv (a5 :: a4 :: a3 :: a2 :: a1 :: rest) M sz cs ss := g_cS (As := [a1, a2, a3, a4, a5]) hX hC h rfl rfl hW hrm kk
theorem g_cSX5 {a1 a2 a3 a4 a5 : Value} (hX : Cok X d) (hC : Ctr X.1.2.1 X.2.2.2.2.2 dc sp) (h : AtSX d pc dc 5 n) (hW : (rest.map fun v => v.category).sum ≤ 8) {c2 s2 : Nat} (hrm : Rm9 d dc cs ss c2 s2) (kk : sp [a1, a2, a3, a4, a5] M sz (Kc X pc n lv rest c2 s2)) : G X pc lv (a5 :: a4 :: a3 :: a2 :: a1 :: rest) M sz cs ss := g_cSX (As := [a1, a2, a3, a4, a5]) hX hC h rfl rfl hW hrm kk
theorem g_cSN5 {a1 a2 a3 a4 a5 : Value} (hX : Cok X d) (hC : Ctr X.1.2.1 X.2.2.2.2.2 dc sp) (h : AtSN d pc dc 5 n) (hW : (rest.map fun v => v.category).sum ≤ 8) {c2 s2 : Nat} (hrm : Rm9 d dc cs ss c2 s2) (kk : sp [a1, a2, a3, a4, a5] M sz (Kc X pc n lv rest c2 s2)) : G X pc lv (a5 :: a4 :: a3 :: a2 :: a1 :: rest) M sz cs ss := g_cSN (As := [a1, a2, a3, a4, a5]) hX hC h rfl rfl hW hrm kk
theorem g_cV5 {a1 a2 a3 a4 a5 : Value} {ci : Nat} {fs : List Value} (hX : Cok X d) (hC : Ctr X.1.2.1 X.2.2.2.2.2 dc sp) (h : AtV d pc dc 5 ci n) (hm : M a = some (.inl (ci, fs))) (hW : (rest.map fun v => v.category).sum ≤ 8) {c2 s2 : Nat} (hrm : Rm9 d dc cs ss c2 s2) (kk : sp (.ref a :: [a1, a2, a3, a4, a5]) M sz (Kc X pc n lv rest c2 s2)) : G X pc lv (a5 :: a4 :: a3 :: a2 :: a1 :: .ref a :: rest) M sz cs ss := g_cV (As := [a1, a2, a3, a4, a5]) hX hC h hm rfl rfl hW hrm kk
theorem g_cVN5 {a1 a2 a3 a4 a5 : Value} {ci : Nat} {fs : List Value} (hX : Cok X d) (hC : Ctr X.1.2.1 X.2.2.2.2.2 dc sp) (h : AtVN d pc dc 5 ci n) (hm : M a = some (.inl (ci, fs))) (hW : (rest.map fun v => v.category).sum ≤ 8) {c2 s2 : Nat} (hrm : Rm9 d dc cs ss c2 s2) (kk : sp (.ref a :: [a1, a2, a3, a4, a5]) M sz (Kc X pc n lv rest c2 s2)) : G X pc lv (a5 :: a4 :: a3 :: a2 :: a1 :: .ref a :: rest) M sz cs ss := g_cVN (As := [a1, a2, a3, a4, a5]) hX hC h hm rfl rfl hW hrm kk
theorem g_cI5 {a1 a2 a3 a4 a5 : Value} (hX : Cok X d) (hC : Ctr X.1.2.1 X.2.2.2.2.2 dc sp) (h : AtNI d pc dc 5 n) (hW : (rest.map fun v => v.category).sum ≤ 8) {c2 s2 : Nat} (hrm : Rm9 d dc cs ss c2 s2) (kk : sp (.ref a :: [a1, a2, a3, a4, a5]) M sz (Kc X pc n lv rest c2 s2)) : G X pc lv (a5 :: a4 :: a3 :: a2 :: a1 :: .ref a :: rest) M sz cs ss := g_cI (As := [a1, a2, a3, a4, a5]) hX hC h rfl rfl hW hrm kk
theorem g_cIN5 {a1 a2 a3 a4 a5 : Value} (hX : Cok X d) (hC : Ctr X.1.2.1 X.2.2.2.2.2 dc sp) (h : AtNIN d pc dc 5 n) (hW : (rest.map fun v => v.category).sum ≤ 8) {c2 s2 : Nat} (hrm : Rm9 d dc cs ss c2 s2) (kk : sp (.ref a :: [a1, a2, a3, a4, a5]) M sz (Kc X pc n lv rest c2 s2)) : G X pc lv (a5 :: a4 :: a3 :: a2 :: a1 :: .ref a :: rest) M sz cs ss := g_cIN (As := [a1, a2, a3, a4, a5]) hX hC h rfl rfl hW hrm kk
theorem g_cS6 {a1 a2 a3 a4 a5 a6 : Value} (hX : Cok X d) (hC : Ctr X.1.2.1 X.2.2.2.2.2 dc sp) (h : AtS d pc dc 6 n) (hW : (rest.map fun v => v.category).sum ≤ 8) {c2 s2 : Nat} (hrm : Rm9 d dc cs ss c2 s2) (kk : sp [a1, a2, a3, a4, a5, a6] M sz (Kc X pc n lv rest c2 s2)) : G X pc lv (a6 :: a5 :: a4 :: a3 :: a2 :: a1 :: rest) M sz cs ss := g_cS (As := [a1, a2, a3, a4, a5, a6]) hX hC h rfl rfl hW hrm kk
theorem g_cSX6 {a1 a2 a3 a4 a5 a6 : Value} (hX : Cok X d) (hC : Ctr X.1.2.1 X.2.2.2.2.2 dc sp) (h : AtSX d pc dc 6 n) (hW : (rest.map fun v => v.category).sum ≤ 8) {c2 s2 : Nat} (hrm : Rm9 d dc cs ss c2 s2) (kk : sp [a1, a2, a3, a4, a5, a6] M sz (Kc X pc n lv rest c2 s2)) : G X pc lv (a6 :: a5 :: a4 :: a3 :: a2 :: a1 :: rest) M sz cs ss := g_cSX (As := [a1, a2, a3, a4, a5, a6]) hX hC h rfl rfl hW hrm kk
theorem g_cSN6 {a1 a2 a3 a4 a5 a6 : Value} (hX : Cok X d) (hC : Ctr X.1.2.1 X.2.2.2.2.2 dc sp) (h : AtSN d pc dc 6 n) (hW : (rest.map fun v => v.category).sum ≤ 8) {c2 s2 : Nat} (hrm : Rm9 d dc cs ss c2 s2) (kk : sp [a1, a2, a3, a4, a5, a6] M sz (Kc X pc n lv rest c2 s2)) : G X pc lv (a6 :: a5 :: a4 :: a3 :: a2 :: a1 :: rest) M sz cs ss := g_cSN (As := [a1, a2, a3, a4, a5, a6]) hX hC h rfl rfl hW hrm kk
theorem g_cV6 {a1 a2 a3 a4 a5 a6 : Value} {ci : Nat} {fs : List Value} (hX : Cok X d) (hC : Ctr X.1.2.1 X.2.2.2.2.2 dc sp) (h : AtV d pc dc 6 ci n) (hm : M a = some (.inl (ci, fs))) (hW : (rest.map fun v => v.category).sum ≤ 8) {c2 s2 : Nat} (hrm : Rm9 d dc cs ss c2 s2) (kk : sp (.ref a :: [a1, a2, a3, a4, a5, a6]) M sz (Kc X pc n lv rest c2 s2)) : G X pc lv (a6 :: a5 :: a4 :: a3 :: a2 :: a1 :: .ref a :: rest) M sz cs ss := g_cV (As := [a1, a2, a3, a4, a5, a6]) hX hC h hm rfl rfl hW hrm kk
theorem g_cVN6 {a1 a2 a3 a4 a5 a6 : Value} {ci : Nat} {fs : List Value} (hX : Cok X d) (hC : Ctr X.1.2.1 X.2.2.2.2.2 dc sp) (h : AtVN d pc dc 6 ci n) (hm : M a = some (.inl (ci, fs))) (hW : (rest.map fun v => v.category).sum ≤ 8) {c2 s2 : Nat} (hrm : Rm9 d dc cs ss c2 s2) (kk : sp (.ref a :: [a1, a2, a3, a4, a5, a6]) M sz (Kc X pc n lv rest c2 s2)) : G X pc lv (a6 :: a5 :: a4 :: a3 :: a2 :: a1 :: .ref a :: rest) M sz cs ss := g_cVN (As := [a1, a2, a3, a4, a5, a6]) hX hC h hm rfl rfl hW hrm kk
theorem g_cI6 {a1 a2 a3 a4 a5 a6 : Value} (hX : Cok X d) (hC : Ctr X.1.2.1 X.2.2.2.2.2 dc sp) (h : AtNI d pc dc 6 n) (hW : (rest.map fun v => v.category).sum ≤ 8) {c2 s2 : Nat} (hrm : Rm9 d dc cs ss c2 s2) (kk : sp (.ref a :: [a1, a2, a3, a4, a5, a6]) M sz (Kc X pc n lv rest c2 s2)) : G X pc lv (a6 :: a5 :: a4 :: a3 :: a2 :: a1 :: .ref a :: rest) M sz cs ss := g_cI (As := [a1, a2, a3, a4, a5, a6]) hX hC h rfl rfl hW hrm kk
theorem g_cIN6 {a1 a2 a3 a4 a5 a6 : Value} (hX : Cok X d) (hC : Ctr X.1.2.1 X.2.2.2.2.2 dc sp) (h : AtNIN d pc dc 6 n) (hW : (rest.map fun v => v.category).sum ≤ 8) {c2 s2 : Nat} (hrm : Rm9 d dc cs ss c2 s2) (kk : sp (.ref a :: [a1, a2, a3, a4, a5, a6]) M sz (Kc X pc n lv rest c2 s2)) : G X pc lv (a6 :: a5 :: a4 :: a3 :: a2 :: a1 :: .ref a :: rest) M sz cs ss := g_cIN (As := [a1, a2, a3, a4, a5, a6]) hX hC h rfl rfl hW hrm kk
theorem Kc_i {v : Value} {c2 s2 : Nat} (k : G X n lv (v :: rest) M sz c2 s2) : Kc X pc n lv rest c2 s2 (.inl (some v)) M sz := k
theorem Kc_v {c2 s2 : Nat} (k : G X n lv rest M sz c2 s2) : Kc X pc n lv rest c2 s2 (.inl none) M sz := k
theorem Kc_x {E : String} {c2 s2 : Nat} (k : GX X pc lv rest M sz c2 s2 E) : Kc X pc n lv rest c2 s2 (.inr E) M sz := k
theorem cat_ok {as : List Value} (h : as.all (fun v => v.category == 1) = true) : ∀ v ∈ as, v.category = 1 := fun v hv => by simpa using List.all_eq_true.mp h v hv
theorem cat_rf (r : Option Nat) : (va_rf r).category = 1 := by cases r <;> rfl
def AtO (d : hD) (pc n : Nat) : Prop := ∃ index i j k : Nat, decode d.2.1 pc = .ok (.invokespecial index, 3) ∧ pc + 3 = n ∧ lw_tbl[i]? = some (Cond.methodLink d.1.cls index objectInit) ∧ lw_tbl[j]? = some (Cond.instanceMethod objectInit) ∧ lw_tbl[k]? = some (Cond.code objectInit ⟨#[0xb1]⟩ 1 none) ∧ 1 ≤ d.2.2.2.2.1.frames ∧ 12 ≤ d.2.2.2.2.1.locals
theorem g_obj (hX : Cok X d) (h : AtO d pc n) (kk : G X n lv [] M sz cs ss) : G X pc lv [.ref a] M sz cs ss := by
  obtain ⟨⟨p, l, e, R, s, m, args, below⟩, meth, c, A, Q, g⟩ := X
  obtain ⟨hx, hb, hml, hown, hts, hKS, hAz, hAn, hst9, hlk, hrt, hnm, hR, hex⟩ := hX
  intro H locs ls hz hM hA hS hl
  obtain ⟨index, i1, i2, i3, h1, rfl, e1, e2, e3, hf, hlo⟩ := h
  have hR' : R = d.2.2.2.2.1 := hR
  exact W.objInit hx hb hown (hts.at i1 e1 rfl) (hts.at i2 e2 rfl) (hts.at i3 e3 rfl) rfl hl.1 rfl h1 (by rw [hR']; exact hf) (by rw [hR']; exact hlo) (kk H locs ls hz hM hA hS hl)
/-! ends -/
theorem g_iret {x : Int32} {ty : FieldType} {M0 : hM} {sz0 : Nat} {K : hK} (hX : Cok X d) (hr9 : Ret X d M0 sz0 K) (h : At d pc .ireturn 1 n) (hty : d.2.2.2.1 = some ty) (hn : narrow ty (.int x) = .int x) (hc : cs ≤ d.2.2.2.2.1.cells) (hs : ss ≤ d.2.2.2.2.1.slots) (kk : K (.inl (some (.int x))) M sz) : G X pc lv [.int x] M sz cs ss := by
  obtain ⟨⟨p, l, e, R, s, m, args, below⟩, meth, c, A, Q, g⟩ := X
  obtain ⟨hx, hb, hml, hown, hts, hKS, hAz, hAn, hst9, hlk, hrt, hnm, hR, hex⟩ := hX
  intro H locs ls hz hM hA hS hl
  obtain ⟨hA9, hQ9⟩ := hr9
  dsimp only at hA9 hQ9 hrt hKS hlk
  subst hA9
  subst hQ9
  refine W.widen hc hs (vx_ret ?_)
  exact W.zret hx hb (hrt.trans hty) hn (fun t ht hW => ⟨⟨_, M, rfl, by rw [ht, hz]; exact kk, by rw [ht]; exact hM, hA⟩, hS.F ht⟩) hS.2.2 h.1 hlk
theorem g_aret {v : Value} {ty : FieldType} {M0 : hM} {sz0 : Nat} {K : hK} (hX : Cok X d) (hr9 : Ret X d M0 sz0 K) (h : At d pc .areturn 1 n) (hty : d.2.2.2.1 = some ty) (hrt9 : (∃ n, ty = .object n) ∨ ∃ t, ty = .array t) (hv : isRefV v = true) (hc : cs ≤ d.2.2.2.2.1.cells) (hs : ss ≤ d.2.2.2.2.1.slots) (kk : K (.inl (some v)) M sz) : G X pc lv [v] M sz cs ss := by
  obtain ⟨⟨p, l, e, R, s, m, args, below⟩, meth, c, A, Q, g⟩ := X
  obtain ⟨hx, hb, hml, hown, hts, hKS, hAz, hAn, hst9, hlk, hrt, hnm, hR, hex⟩ := hX
  intro H locs ls hz hM hA hS hl
  obtain ⟨hA9, hQ9⟩ := hr9
  dsimp only at hA9 hQ9 hrt hKS hlk
  subst hA9
  subst hQ9
  refine W.widen hc hs (vx_ret ?_)
  have hv2 : v = .null ∨ ∃ a, v = .ref a := by
    cases v <;> first | (simp [isRefV] at hv; done) | exact Or.inl rfl | exact Or.inr ⟨_, rfl⟩
  exact W.aret hx hb (hrt.trans hty) hrt9 hv2 (fun t ht hW => ⟨⟨_, M, rfl, by rw [ht, hz]; exact kk, by rw [ht]; exact hM, hA⟩, hS.F ht⟩) hS.2.2 h.1 hlk
theorem g_vret {M0 : hM} {sz0 : Nat} {K : hK} (hX : Cok X d) (hr9 : Ret X d M0 sz0 K) (h : At d pc .return_ 1 n) (hty : d.2.2.2.1 = none) (hc : cs ≤ d.2.2.2.2.1.cells) (hs : ss ≤ d.2.2.2.2.1.slots) (kk : K (.inl none) M sz) : G X pc lv [] M sz cs ss := by
  obtain ⟨⟨p, l, e, R, s, m, args, below⟩, meth, c, A, Q, g⟩ := X
  obtain ⟨hx, hb, hml, hown, hts, hKS, hAz, hAn, hst9, hlk, hrt, hnm, hR, hex⟩ := hX
  intro H locs ls hz hM hA hS hl
  obtain ⟨hA9, hQ9⟩ := hr9
  dsimp only at hA9 hQ9 hrt hKS hlk
  subst hA9
  subst hQ9
  refine W.widen hc hs (vx_ret ?_)
  exact W.vret hx hb (hrt.trans hty) (fun t ht hW => ⟨⟨_, M, rfl, by rw [ht, hz]; exact kk, by rw [ht]; exact hM, hA⟩, hS.F ht⟩) hS.2.2 h.1 hlk
theorem gx_out {E : String} {M0 : hM} {sz0 : Nat} {K : hK} (hX : Cok X d) (hr9 : Ret X d M0 sz0 K) (hh : d.2.2.2.2.2 = []) (hc : cs ≤ d.2.2.2.2.1.cells) (hs : ss ≤ d.2.2.2.2.1.slots) (kk : K (.inr E) M sz) : GX X pc lv rest M sz cs ss E := by
  obtain ⟨⟨p, l, e, R, s, m, args, below⟩, meth, c, A, Q, g⟩ := X
  obtain ⟨hx, hb, hml, hown, hts, hKS, hAz, hAn, hst9, hlk, hrt, hnm, hR, hex⟩ := hX
  intro H locs ls q9 ce hz hM hA hS hl hce hcv hcl
  obtain ⟨hA9, hQ9⟩ := hr9
  dsimp only at hA9 hQ9 hrt hKS hlk hex
  subst hA9
  subst hQ9
  refine vx_out (fun x h9 => ?_) hlk hce hcv hcl (fun t ht hW => ⟨⟨M, by rw [ht, hz]; exact kk, by rw [ht]; exact hM, hA⟩, hS.F ht⟩) hS.2.2 hc hs
  rw [hex, hh] at h9
  cases h9
/-- caught by the k-th row of the table; the rows ahead name other classes -/
theorem gx_catch {E : String} (hX : Cok X d) (pre : List (Nat × Nat × Nat × Nat)) (x : Nat × Nat × Nat × Nat) (suf : List (Nat × Nat × Nat × Nat)) (hh : d.2.2.2.2.2 = pre ++ x :: suf) (hpre : ∀ z ∈ pre, z.2.2.2 ≠ 0 ∧ ∃ (i : Nat) (nm : String), lw_tbl[i]? = some (Cond.classLink d.1.cls z.2.2.2 nm) ∧ (E, nm) ∈ nc9) (hx9 : covers ⟨x.1, x.2.1, x.2.2.1, x.2.2.2⟩ pc = true) (h0 : x.2.2.2 ≠ 0) (hl9 : ∃ i j : Nat, lw_tbl[i]? = some (Cond.classLink d.1.cls x.2.2.2 E) ∧ lw_tbl[j]? = some (Cond.castable E E)) (kk : ∀ q : Nat, G X x.2.2.1 lv [.ref q] M sz cs ss) : GX X pc lv rest M sz cs ss E := by
  obtain ⟨⟨p, l, e, R, s, m, args, below⟩, meth, c, A, Q, g⟩ := X
  obtain ⟨hx, hb, hml, hown, hts, hKS, hAz, hAn, hst9, hlk, hrt, hnm, hR, hex⟩ := hX
  intro H locs ls q9 ce hz hM hA hS hl hce hcv hcl
  obtain ⟨i, j, e1, e2⟩ := hl9
  obtain ⟨-, -, -, -, -, -, -, -, hnc, -⟩ := hKS
  refine vx_catch hown (tableOf pre) ⟨x.1, x.2.1, x.2.2.1, x.2.2.2⟩ (tableOf suf) ?_ (fun z hz9 => ?_) hx9 h0 (hts.at i e1 rfl) (hts.at j e2 rfl) hce hcv hcl (kk q9 H locs ls hz hM hA hS hl)
  · rw [show c.exceptionTable.toList = tableOf d.2.2.2.2.2 from hex, hh]
    unfold tableOf
    rw [List.map_append]
    rfl
  · obtain ⟨z0, hz0, rfl⟩ := List.mem_map.mp hz9
    obtain ⟨h1, k, nm, h2, h3⟩ := hpre z0 hz0
    exact Or.inr ⟨h1, nm, hts.at k h2 rfl, hnc (E, nm) h3⟩
def AtT (d : hD) (pc : Nat) (E : String) : Prop := ∃ (ik ic is_ i1 i2 : Nat) (text : String) (names : List String) (wide : Bool),
  decode d.2.1 pc = .ok (.new ik, 3) ∧ decode d.2.1 (pc + 3) = .ok (.dup, 1) ∧ (if wide = true then decode d.2.1 (pc + 4) = .ok (.ldc_w is_, 3) ∧ decode d.2.1 (pc + 7) = .ok (.invokespecial ic, 3) ∧ decode d.2.1 (pc + 10) = .ok (.athrow, 1) else decode d.2.1 (pc + 4) = .ok (.ldc is_, 2) ∧ decode d.2.1 (pc + 6) = .ok (.invokespecial ic, 3) ∧ decode d.2.1 (pc + 9) = .ok (.athrow, 1)) ∧
  Bundle.fit E = true ∧ (∀ nm ∈ names, Bundle.fit nm = true) ∧ lw_tbl[i1]? = some (Cond.classLink d.1.cls ik E) ∧ lw_tbl[i2]? = some (Cond.initialized E) ∧ (d.1.cls, is_, text) ∈ strs9 ∧ (∀ w ∈ vx_atS d.1.cls ic E names, w ∈ lw_tbl ∧ tw w = true) ∧ (∀ w ∈ Cond.classLink d.1.cls ik E :: Cond.initialized E :: vx_atS d.1.cls ic E names, vx_ot w = true) ∧
  names.length + 3 < d.2.2.2.2.1.frames ∧ 13 * (names.length + 1) + 43 ≤ d.2.2.2.2.1.locals ∧ d.2.2.2.2.2 = []
theorem g_throw {E : String} {M0 : hM} {sz0 : Nat} {K : hK} (hX : Cok X d) (hr9 : Ret X d M0 sz0 K) (h : AtT d pc E) (hc : cs + 1 ≤ d.2.2.2.2.1.cells) (hs : ss + 6 ≤ d.2.2.2.2.1.slots) (kk : ∀ sz', sz ≤ sz' → K (.inr E) M sz') : G X pc lv [] M sz cs ss := by
  obtain ⟨⟨p, l, e, R, s, m, args, below⟩, meth, c, A, Q, g⟩ := X
  obtain ⟨hx, hb, hml, hown, hts, hKS, hAz, hAn, hst9, hlk, hrt, hnm, hR, hex⟩ := hX
  intro H locs ls hz hM hA hS hl
  obtain ⟨hA9, hQ9⟩ := hr9
  dsimp only at hA9 hQ9 hrt hlk hex hR hst9
  subst hA9
  subst hQ9
  subst hR
  obtain ⟨ik, ic, is_, i1, i2, text, names, wide, d0, d3, dd, hf1, hf2, e1, e2, hstr, hat, hgood, hfr, hlo, hh⟩ := h
  obtain ⟨-, -, -, -, -, ⟨hU, hN⟩, hss, -⟩ := hKS
  obtain ⟨sa, hsa⟩ := hss _ hstr
  have hout : ∀ (x : ExceptionTableEntry) (z : Nat), x ∈ c.exceptionTable.toList → covers x z = false := fun x z h9 => by
    rw [hex, hh] at h9
    cases h9
  have hxx : ∀ t : State, s.vm.Alike t.vm → H.size ≤ t.heap.size → (∀ q : Nat, q < H.size → t.heap[q]? = H[q]?) → XC9 g M0 sz0 K E s t := fun t _ h1 h2 =>
    ⟨⟨M, kk _ (by rw [← hz]; exact h1), hM.kept (fun a x h9 => h2 a (hM.lt h9)), hA⟩, ⟨Nat.le_trans hS.1 h1, fun q h3 h4 => (h2 q (Nat.lt_of_lt_of_le h3 hS.1)).trans (hS.2.1 q h3 h4)⟩⟩
  cases wide with
  | true =>
    rw [if_pos rfl] at dd
    exact vx_throwSW hx hb hst9 hown hf1 hf2 (hts.at i1 e1 rfl) (hts.at i2 e2 rfl) hsa (fun w hw => hts w (hat w hw).1 (hat w hw).2) hgood (hU.narrow hAz) (hN.narrow hAz) hS hl.1 d0 d3 dd.1 dd.2.1 dd.2.2 (fun x h9 => hout x _ h9) hfr (by simpa using hlo) hc hs hlk hxx hS.2.2 hc hs
  | false =>
    rw [if_neg (by decide)] at dd
    exact vx_throwS hx hb hst9 hown hf1 hf2 (hts.at i1 e1 rfl) (hts.at i2 e2 rfl) hsa (fun w hw => hts w (hat w hw).1 (hat w hw).2) hgood (hU.narrow hAz) (hN.narrow hAz) hS hl.1 d0 d3 dd.1 dd.2.1 dd.2.2 (fun x h9 => hout x _ h9) hfr (by simpa using hlo) hc hs hlk hxx hS.2.2 hc hs
end R3
end
section
/-! ints by their values -/
abbrev iZ (z : Int) : Int32 := Int32.ofInt z
def inR (z : Int) : Prop := -2147483648 ≤ z ∧ z ≤ 2147483647
theorem zt {z : Int} (h : inR z) : (iZ z).toInt = z := by
  unfold inR at h
  rw [Int32.toInt_ofInt]
  have hs : (Int32.size : Int) = 4294967296 := rfl
  exact Int.bmod_eq_of_le (by omega) (by omega)
theorem z_rng (x : Int32) : inR x.toInt := by
  have h1 := x.toInt_lt
  have h2 := x.le_toInt
  unfold inR
  omega
theorem z_of (x : Int32) : ∃ z : Int, inR z ∧ x = iZ z := ⟨x.toInt, z_rng x, (Int32.ofInt_toInt x).symm⟩
theorem z_add (a b : Int) : iZ a + iZ b = iZ (a + b) := (Int32.ofInt_add a b).symm
theorem z_sub (a b : Int) : iZ a - iZ b = iZ (a - b) := (Int32.ofInt_sub a b).symm
theorem z_mul (a b : Int) : iZ a * iZ b = iZ (a * b) := (Int32.ofInt_mul a b).symm
theorem z_lt {a b : Int} (ha : inR a) (hb : inR b) : iZ a < iZ b ↔ a < b := by rw [Int32.lt_iff_toInt_lt, zt ha, zt hb]
theorem z_le {a b : Int} (ha : inR a) (hb : inR b) : iZ a ≤ iZ b ↔ a ≤ b := by rw [Int32.le_iff_toInt_le, zt ha, zt hb]
theorem z_eq {a b : Int} (ha : inR a) (hb : inR b) : iZ a = iZ b ↔ a = b := by rw [← Int32.toInt_inj, zt ha, zt hb]
theorem z_0 : (0 : Int32) = iZ 0 := by decide
theorem inR0 : inR 0 := by unfold inR; omega
theorem z_div {a b : Int} (ha : inR a) (hb : inR b) (h : 0 ≤ a) (h2 : 0 < b) : iZ a / iZ b = iZ (a / b) := by
  have h3 : 0 ≤ a / b := Int.ediv_nonneg h (Int.le_of_lt h2)
  have h4 : a / b ≤ a := Int.ediv_le_self b h
  have hr : inR (a / b) := by unfold inR at *; omega
  rw [← Int32.toInt_inj, Int32.toInt_div, zt ha, zt hb, zt hr, Int.tdiv_eq_ediv_of_nonneg h]
  unfold inR at hr
  exact Int.bmod_eq_of_le (by omega) (by omega)
theorem z_rem {a b : Int} (ha : inR a) (hb : inR b) (h : 0 ≤ a) (h2 : 0 < b) : iZ a - iZ a / iZ b * iZ b = iZ (a % b) := by
  have h3 : 0 ≤ a % b := Int.emod_nonneg a (by omega)
  have h4 : a % b < b := Int.emod_lt_of_pos a h2
  have hr : inR (a % b) := by unfold inR at *; omega
  rw [z_div ha hb h h2, z_mul, z_sub]
  congr 1
  have := Int.mul_ediv_add_emod a b
  rw [Int.mul_comm] at this
  omega
theorem z_cl {a : Int} (ha : inR a) : (iZ a).toNatClampNeg = a.toNat := by
  show (iZ a).toInt.toNat = a.toNat
  rw [zt ha]
theorem z_in {a : Int} {len : Nat} (h0 : 0 ≤ a) (h1 : a < len) (hl : len < 100000) : vp_in (iZ a) len := by
  have ha : inR a := by unfold inR; omega
  refine vp_in_iff.mpr ?_
  rw [zt ha]
  exact ⟨h0, h1⟩
theorem z_n (n : Nat) : Int32.ofNat n = iZ (n : Int) := rfl
def bZ (c : Prop) [Decidable c] : Int := if c then 1 else 0
theorem bZ_t {c : Prop} [Decidable c] (h : c) : bZ c = 1 := if_pos h
theorem bZ_f {c : Prop} [Decidable c] (h : ¬ c) : bZ c = 0 := if_neg h
theorem bZ_r (c : Prop) [Decidable c] : inR (bZ c) := by unfold bZ inR; split <;> omega
theorem bZ_01 (c : Prop) [Decidable c] : bZ c = 0 ∨ bZ c = 1 := by unfold bZ; split <;> simp
theorem bZ_iff {a b : Prop} [Decidable a] [Decidable b] (h : a ↔ b) : bZ a = bZ b := by
  unfold bZ
  by_cases hb : b
  · rw [if_pos hb, if_pos (h.mpr hb)]
  · rw [if_neg hb, if_neg (fun ha => hb (h.mp ha))]
theorem z_band (a b : Prop) [Decidable a] [Decidable b] : iZ (bZ a) &&& iZ (bZ b) = iZ (bZ (a ∧ b)) := by
  by_cases ha : a <;> by_cases hb : b <;> simp [bZ, ha, hb] <;> decide
theorem z_bor (a b : Prop) [Decidable a] [Decidable b] : iZ (bZ a) ||| iZ (bZ b) = iZ (bZ (a ∨ b)) := by
  by_cases ha : a <;> by_cases hb : b <;> simp [bZ, ha, hb] <;> decide
theorem nar_b (c : Prop) [Decidable c] : narrow .boolean (.int (iZ (bZ c))) = .int (iZ (bZ c)) := by
  by_cases h : c <;> simp [bZ, h] <;> rfl
theorem fit_b (c : Prop) [Decidable c] : fits .boolean (.int (iZ (bZ c))) = true := by
  by_cases h : c <;> simp [bZ, h] <;> rfl
theorem nar_01 {z : Int} (h : z = 0 ∨ z = 1) : narrow .boolean (.int (iZ z)) = .int (iZ z) := by
  rcases h with rfl | rfl <;> rfl
theorem fit_01 {z : Int} (h : z = 0 ∨ z = 1) : fits .boolean (.int (iZ z)) = true := by
  rcases h with rfl | rfl <;> rfl
theorem vn_01 {z : Int} (h : z = 0 ∨ z = 1) : vp_nar .boolean (iZ z) = iZ z := by
  rcases h with rfl | rfl <;> rfl
section R4
variable {X : hX} {d : hD} {pc n t i a9 : Nat} {lv st : List Value} {M : hM} {sz cs ss : Nat} {a b : Int}
theorem z_iadd (hX : Cok X d) (h : At d pc .iadd 1 n) (k : G X n lv (.int (iZ (a + b)) :: st) M sz cs ss) : G X pc lv (.int (iZ b) :: .int (iZ a) :: st) M sz cs ss := g_iadd hX h (by rw [z_add]; exact k)
theorem z_isub (hX : Cok X d) (h : At d pc .isub 1 n) (k : G X n lv (.int (iZ (a - b)) :: st) M sz cs ss) : G X pc lv (.int (iZ b) :: .int (iZ a) :: st) M sz cs ss := g_isub hX h (by rw [z_sub]; exact k)
theorem z_imul (hX : Cok X d) (h : At d pc .imul 1 n) (k : G X n lv (.int (iZ (a * b)) :: st) M sz cs ss) : G X pc lv (.int (iZ b) :: .int (iZ a) :: st) M sz cs ss := g_imul hX h (by rw [z_mul]; exact k)
theorem z_idiv (hX : Cok X d) (h : At d pc .idiv 1 n) (ha : inR a) (hb : inR b) (h0 : 0 ≤ a) (h2 : 0 < b) (k : G X n lv (.int (iZ (a / b)) :: st) M sz cs ss) : G X pc lv (.int (iZ b) :: .int (iZ a) :: st) M sz cs ss := g_idiv hX h (fun e => by rw [z_0, z_eq hb inR0] at e; omega) (by rw [z_div ha hb h0 h2]; exact k)
theorem z_irem (hX : Cok X d) (h : At d pc .irem 1 n) (ha : inR a) (hb : inR b) (h0 : 0 ≤ a) (h2 : 0 < b) (k : G X n lv (.int (iZ (a % b)) :: st) M sz cs ss) : G X pc lv (.int (iZ b) :: .int (iZ a) :: st) M sz cs ss := g_irem hX h (fun e => by rw [z_0, z_eq hb inR0] at e; omega) (by rw [z_rem ha hb h0 h2]; exact k)
theorem z_iinc (hX : Cok X d) (h : AtInc d pc i (iZ b) n) (hv : lv[i]? = some (.int (iZ a))) (k : G X n (lv.set i (.int (iZ (a + b)))) st M sz cs ss) : G X pc lv st M sz cs ss := g_iinc hX h hv (by rw [z_add]; exact k)
theorem z_iband {p q : Prop} [Decidable p] [Decidable q] (hX : Cok X d) (h : At d pc .iand 1 n) (k : G X n lv (.int (iZ (bZ (p ∧ q))) :: st) M sz cs ss) : G X pc lv (.int (iZ (bZ q)) :: .int (iZ (bZ p)) :: st) M sz cs ss := g_iand hX h (by rw [z_band]; exact k)
theorem z_ibor {p q : Prop} [Decidable p] [Decidable q] (hX : Cok X d) (h : At d pc .ior 1 n) (k : G X n lv (.int (iZ (bZ (p ∨ q))) :: st) M sz cs ss) : G X pc lv (.int (iZ (bZ q)) :: .int (iZ (bZ p)) :: st) M sz cs ss := g_ior hX h (by rw [z_bor]; exact k)
theorem z_icmp_eq (hX : Cok X d) (h : AtJ d pc (.if_icmp .eq) n t) (ha : inR a) (hb : inR b) (kt : a = b → G X t lv st M sz cs ss) (kf : a ≠ b → G X n lv st M sz cs ss) : G X pc lv (.int (iZ b) :: .int (iZ a) :: st) M sz cs ss := g_icmp_eq hX h (fun q => kt ((z_eq ha hb).mp q)) (fun q => kf (fun e => q ((z_eq ha hb).mpr e)))
theorem z_if_eq (hX : Cok X d) (h : AtJ d pc (.ifCond .eq) n t) (ha : inR a) (kt : a = 0 → G X t lv st M sz cs ss) (kf : a ≠ 0 → G X n lv st M sz cs ss) : G X pc lv (.int (iZ a) :: st) M sz cs ss := g_if_eq hX h (fun q => by rw [z_0] at q; exact kt ((z_eq ha inR0).mp q)) (fun q => by rw [z_0] at q; exact kf (fun e => q ((z_eq ha inR0).mpr e)))
theorem z_icmp_ne (hX : Cok X d) (h : AtJ d pc (.if_icmp .ne) n t) (ha : inR a) (hb : inR b) (kt : a ≠ b → G X t lv st M sz cs ss) (kf : a = b → G X n lv st M sz cs ss) : G X pc lv (.int (iZ b) :: .int (iZ a) :: st) M sz cs ss := g_icmp_ne hX h (fun q => kt (fun e => q ((z_eq ha hb).mpr e))) (fun q => kf ((z_eq ha hb).mp q))
theorem z_if_ne (hX : Cok X d) (h : AtJ d pc (.ifCond .ne) n t) (ha : inR a) (kt : a ≠ 0 → G X t lv st M sz cs ss) (kf : a = 0 → G X n lv st M sz cs ss) : G X pc lv (.int (iZ a) :: st) M sz cs ss := g_if_ne hX h (fun q => by rw [z_0] at q; exact kt (fun e => q ((z_eq ha inR0).mpr e))) (fun q => by rw [z_0] at q; exact kf ((z_eq ha inR0).mp q))
theorem z_icmp_lt (hX : Cok X d) (h : AtJ d pc (.if_icmp .lt) n t) (ha : inR a) (hb : inR b) (kt : a < b → G X t lv st M sz cs ss) (kf : b ≤ a → G X n lv st M sz cs ss) : G X pc lv (.int (iZ b) :: .int (iZ a) :: st) M sz cs ss := g_icmp_lt hX h (fun q => kt ((z_lt ha hb).mp q)) (fun q => kf (by rw [z_lt ha hb] at q; omega))
theorem z_if_lt (hX : Cok X d) (h : AtJ d pc (.ifCond .lt) n t) (ha : inR a) (kt : a < 0 → G X t lv st M sz cs ss) (kf : 0 ≤ a → G X n lv st M sz cs ss) : G X pc lv (.int (iZ a) :: st) M sz cs ss := g_if_lt hX h (fun q => by rw [z_0] at q; exact kt ((z_lt ha inR0).mp q)) (fun q => by rw [z_0] at q; exact kf (by rw [z_lt ha inR0] at q; omega))
theorem z_icmp_ge (hX : Cok X d) (h : AtJ d pc (.if_icmp .ge) n t) (ha : inR a) (hb : inR b) (kt : b ≤ a → G X t lv st M sz cs ss) (kf : a < b → G X n lv st M sz cs ss) : G X pc lv (.int (iZ b) :: .int (iZ a) :: st) M sz cs ss := g_icmp_ge hX h (fun q => kt ((z_le hb ha).mp q)) (fun q => kf (by rw [z_le hb ha] at q; omega))
theorem z_if_ge (hX : Cok X d) (h : AtJ d pc (.ifCond .ge) n t) (ha : inR a) (kt : 0 ≤ a → G X t lv st M sz cs ss) (kf : a < 0 → G X n lv st M sz cs ss) : G X pc lv (.int (iZ a) :: st) M sz cs ss := g_if_ge hX h (fun q => by rw [z_0] at q; exact kt ((z_le inR0 ha).mp q)) (fun q => by rw [z_0] at q; exact kf (by rw [z_le inR0 ha] at q; omega))
theorem z_icmp_gt (hX : Cok X d) (h : AtJ d pc (.if_icmp .gt) n t) (ha : inR a) (hb : inR b) (kt : b < a → G X t lv st M sz cs ss) (kf : a ≤ b → G X n lv st M sz cs ss) : G X pc lv (.int (iZ b) :: .int (iZ a) :: st) M sz cs ss := g_icmp_gt hX h (fun q => kt ((z_lt hb ha).mp q)) (fun q => kf (by rw [z_lt hb ha] at q; omega))
theorem z_if_gt (hX : Cok X d) (h : AtJ d pc (.ifCond .gt) n t) (ha : inR a) (kt : 0 < a → G X t lv st M sz cs ss) (kf : a ≤ 0 → G X n lv st M sz cs ss) : G X pc lv (.int (iZ a) :: st) M sz cs ss := g_if_gt hX h (fun q => by rw [z_0] at q; exact kt ((z_lt inR0 ha).mp q)) (fun q => by rw [z_0] at q; exact kf (by rw [z_lt inR0 ha] at q; omega))
theorem z_icmp_le (hX : Cok X d) (h : AtJ d pc (.if_icmp .le) n t) (ha : inR a) (hb : inR b) (kt : a ≤ b → G X t lv st M sz cs ss) (kf : b < a → G X n lv st M sz cs ss) : G X pc lv (.int (iZ b) :: .int (iZ a) :: st) M sz cs ss := g_icmp_le hX h (fun q => kt ((z_le ha hb).mp q)) (fun q => kf (by rw [z_le ha hb] at q; omega))
theorem z_if_le (hX : Cok X d) (h : AtJ d pc (.ifCond .le) n t) (ha : inR a) (kt : a ≤ 0 → G X t lv st M sz cs ss) (kf : 0 < a → G X n lv st M sz cs ss) : G X pc lv (.int (iZ a) :: st) M sz cs ss := g_if_le hX h (fun q => by rw [z_0] at q; exact kt ((z_le ha inR0).mp q)) (fun q => by rw [z_0] at q; exact kf (by rw [z_le ha inR0] at q; omega))
theorem z_ifb_ne {c : Prop} [Decidable c] (hX : Cok X d) (h : AtJ d pc (.ifCond .ne) n t) (kt : c → G X t lv st M sz cs ss) (kf : ¬ c → G X n lv st M sz cs ss) : G X pc lv (.int (iZ (bZ c)) :: st) M sz cs ss := by
  by_cases hc : c
  · exact z_if_ne hX h (bZ_r c) (fun _ => kt hc) (fun q => by rw [bZ_t hc] at q; omega)
  · exact z_if_ne hX h (bZ_r c) (fun q => absurd (bZ_f hc) q) (fun _ => kf hc)
theorem z_ifb_eq {c : Prop} [Decidable c] (hX : Cok X d) (h : AtJ d pc (.ifCond .eq) n t) (kt : ¬ c → G X t lv st M sz cs ss) (kf : c → G X n lv st M sz cs ss) : G X pc lv (.int (iZ (bZ c)) :: st) M sz cs ss := by
  by_cases hc : c
  · exact z_if_eq hX h (bZ_r c) (fun q => by rw [bZ_t hc] at q; omega) (fun _ => kf hc)
  · exact z_if_eq hX h (bZ_r c) (fun _ => kt hc) (fun q => absurd (bZ_f hc) q)
theorem z_iald {len : Nat} {f : Nat → Int32} (hX : Cok X d) (h : At d pc .iaload 1 n) (hm : M a9 = some (.inr (0, len, .inl f))) (h0 : 0 ≤ a) (h1 : a < len) (hl : len < 100000) (hv : f a.toNat = iZ b) (kk : G X n lv (.int (iZ b) :: st) M sz cs ss) : G X pc lv (.int (iZ a) :: .ref a9 :: st) M sz cs ss := by
  refine g_iald hX h hm (z_in h0 h1 hl) ?_
  rw [z_cl (by unfold inR; omega), hv]
  exact kk
theorem z_zald {len : Nat} {f : Nat → Int32} (hX : Cok X d) (h : At d pc .baload 1 n) (hm : M a9 = some (.inr (1, len, .inl f))) (h0 : 0 ≤ a) (h1 : a < len) (hl : len < 100000) (hv : f a.toNat = iZ b) (kk : G X n lv (.int (iZ b) :: st) M sz cs ss) : G X pc lv (.int (iZ a) :: .ref a9 :: st) M sz cs ss := by
  refine g_zald hX h hm (z_in h0 h1 hl) ?_
  rw [z_cl (by unfold inR; omega), hv]
  exact kk
theorem z_aald {len : Nat} {f : Nat → Option Nat} {r : Option Nat} (hX : Cok X d) (h : At d pc .aaload 1 n) (hm : M a9 = some (.inr (3, len, .inr (.inr f)))) (h0 : 0 ≤ a) (h1 : a < len) (hl : len < 100000) (hv : f a.toNat = r) (kk : G X n lv (va_rf r :: st) M sz cs ss) : G X pc lv (.int (iZ a) :: .ref a9 :: st) M sz cs ss := by
  refine g_aald hX h hm (z_in h0 h1 hl) ?_
  rw [z_cl (by unfold inR; omega), hv]
  exact kk
theorem z_iast {len : Nat} {f : Nat → Int32} (hX : Cok X d) (h : At d pc .iastore 1 n) (hm : M a9 = some (.inr (0, len, .inl f))) (h0 : 0 ≤ a) (h1 : a < len) (hl : len < 100000) (kk : G X n lv st (hup M a9 (.inr (0, len, .inl (upd f a.toNat (iZ b))))) sz cs ss) : G X pc lv (.int (iZ b) :: .int (iZ a) :: .ref a9 :: st) M sz cs ss := by
  refine g_iast hX h hm (z_in h0 h1 hl) ?_
  rw [z_cl (by unfold inR; omega)]
  exact kk
theorem z_zast {len : Nat} {f : Nat → Int32} (hX : Cok X d) (h : At d pc .bastore 1 n) (hm : M a9 = some (.inr (1, len, .inl f))) (h0 : 0 ≤ a) (h1 : a < len) (hl : len < 100000) (hb : b = 0 ∨ b = 1) (kk : G X n lv st (hup M a9 (.inr (1, len, .inl (upd f a.toNat (iZ b))))) sz cs ss) : G X pc lv (.int (iZ b) :: .int (iZ a) :: .ref a9 :: st) M sz cs ss := by
  refine g_zast hX h hm (z_in h0 h1 hl) ?_
  rw [z_cl (by unfold inR; omega), vn_01 hb]
  exact kk
theorem z_alen {x : Nat × ((Nat → Int32) ⊕ ((Nat → Int64) ⊕ (Nat → Option Nat)))} {k9 : Nat} (hX : Cok X d) (h : At d pc .arraylength 1 n) (hm : M a9 = some (.inr (k9, x))) (hk9 : k9 < 4) (kk : G X n lv (.int (iZ (x.1 : Int)) :: st) M sz cs ss) : G X pc lv (.ref a9 :: st) M sz cs ss := g_alen hX h hm hk9 kk
def fMz (k : Nat) : Int := ([0, 31, 59, 90, 120, 151, 181, 212, 243, 273, 304, 334] : List Int).getD k 0
theorem fM_z (k : Nat) : fM k = iZ (fMz k) := by
  rcases Nat.lt_or_ge k 12 with h | h
  · revert k
    decide
  · unfold fM fMz
    rw [List.getD_eq_getElem?_getD, List.getD_eq_getElem?_getD, List.getElem?_eq_none (by simpa using h), List.getElem?_eq_none (by simpa using h)]
    rfl
theorem z_ialdM (hX : Cok X d) (h : At d pc .iaload 1 n) (h0 : 0 ≤ a) (h1 : a < 12) (kk : G X n lv (.int (iZ (fMz a.toNat)) :: st) M sz cs ss) : G X pc lv (.int (iZ a) :: .ref X.2.2.2.2.2.2.2.2.1 :: st) M sz cs ss := by
  refine g_ialdM hX h (z_in h0 h1 (by decide)) ?_
  rw [z_cl (by unfold inR; omega), fM_z]
  exact kk
end R4
end
section
/-! the methods: name, code, locals, answer, room, handlers -/
def mX0_isLeap : hD := (yX0_isLeap, cX0_isLeap, 1, (some .boolean), { frames := 0, cells := 0, slots := 0, locals := 0 }, [])
def mX0_yearLength : hD := (yX0_yearLength, cX0_yearLength, 1, (some .int), { frames := 1, cells := 0, slots := 0, locals := 20 }, [])
def mX0_monthLength : hD := (yX0_monthLength, cX0_monthLength, 2, (some .int), { frames := 1, cells := 0, slots := 0, locals := 20 }, [])
def mX0_dayOfYear : hD := (yX0_dayOfYear, cX0_dayOfYear, 5, (some .int), { frames := 1, cells := 0, slots := 0, locals := 20 }, [])
def mX0_monthAndDay : hD := (yX0_monthAndDay, cX0_monthAndDay, 3, (some .int), { frames := 2, cells := 0, slots := 0, locals := 44 }, [])
def mX0_dayNumber : hD := (yX0_dayNumber, cX0_dayNumber, 4, (some .int), { frames := 0, cells := 0, slots := 0, locals := 0 }, [])
def mX0_dayOfWeek : hD := (yX0_dayOfWeek, cX0_dayOfWeek, 2, (some .int), { frames := 1, cells := 0, slots := 0, locals := 23 }, [])
def mX0_easterAsDayOfMarch : hD := (yX0_easterAsDayOfMarch, cX0_easterAsDayOfMarch, 8, (some .int), { frames := 0, cells := 0, slots := 0, locals := 0 }, [])
def mX0_easterByRests : hD := (yX0_easterByRests, cX0_easterByRests, 9, (some .int), { frames := 0, cells := 0, slots := 0, locals := 0 }, [])
def mX1_init : hD := (yX1_init, cX1_init, 5, none, { frames := 2, cells := 2, slots := 4, locals := 43 }, [])
def mX1_ownDay : hD := (yX1_ownDay, cX1_ownDay, 2, (some .int), { frames := 2, cells := 0, slots := 0, locals := 44 }, [])
def mX2_init : hD := (yX2_init, cX2_init, 1, none, { frames := 1, cells := 1, slots := 3, locals := 23 }, [])
def mX2_themeIn : hD := (yX2_themeIn, cX2_themeIn, 2, (some .int), { frames := 0, cells := 0, slots := 0, locals := 0 }, [])
def mX2_replace : hD := (yX2_replace, cX2_replace, 4, (some .int), { frames := 1, cells := 0, slots := 0, locals := 21 }, [])
def mX3_init : hD := (yX3_init, cX3_init, 2, none, { frames := 1, cells := 0, slots := 0, locals := 12 }, [])
def mX3_setAllowed : hD := (yX3_setAllowed, cX3_setAllowed, 3, (some .boolean), { frames := 0, cells := 0, slots := 0, locals := 0 }, [])
def mX3_isFreeIn : hD := (yX3_isFreeIn, cX3_isFreeIn, 2, (some .boolean), { frames := 0, cells := 0, slots := 0, locals := 0 }, [])
def mX4_init : hD := (yX4_init, cX4_init, 1, none, { frames := 1, cells := 2, slots := 16, locals := 12 }, [])
def mX4_append : hD := (yX4_append, cX4_append, 3, none, { frames := 0, cells := 0, slots := 0, locals := 0 }, [])
def mX4_lengthAt : hD := (yX4_lengthAt, cX4_lengthAt, 2, (some .int), { frames := 0, cells := 0, slots := 0, locals := 0 }, [])
def mX4_marksAt : hD := (yX4_marksAt, cX4_marksAt, 2, (some .int), { frames := 0, cells := 0, slots := 0, locals := 0 }, [])
def mX4_hasMetreOf : hD := (yX4_hasMetreOf, cX4_hasMetreOf, 2, (some .boolean), { frames := 2, cells := 0, slots := 0, locals := 44 }, [])
def mX4_hasMetreFrom : hD := (yX4_hasMetreFrom, cX4_hasMetreFrom, 4, (some .boolean), { frames := 1, cells := 0, slots := 0, locals := 21 }, [])
def mX5_init : hD := (yX5_init, cX5_init, 6, none, { frames := 1, cells := 0, slots := 0, locals := 12 }, [])
def mX6_init : hD := (yX6_init, cX6_init, 4, none, { frames := 2, cells := 4, slots := 21, locals := 33 }, [])
def mX6_hasTheme : hD := (yX6_hasTheme, cX6_hasTheme, 2, (some .boolean), { frames := 0, cells := 0, slots := 0, locals := 0 }, [])
def mX7_init : hD := (yX7_init, cX7_init, 5, none, { frames := 2, cells := 4, slots := 21, locals := 33 }, [])
def mX8_init : hD := (yX8_init, cX8_init, 1, none, { frames := 1, cells := 2, slots := 386, locals := 12 }, [])
def mX8_layOut : hD := (yX8_layOut, cX8_layOut, 6, none, { frames := 4, cells := 0, slots := 0, locals := 90 }, [])
def mX8_put : hD := (yX8_put, cX8_put, 6, none, { frames := 3, cells := 0, slots := 0, locals := 65 }, [])
def mX8_isOpen : hD := (yX8_isOpen, cX8_isOpen, 4, (some .boolean), { frames := 1, cells := 0, slots := 0, locals := 21 }, [])
def mX8_isSunday : hD := (yX8_isSunday, cX8_isSunday, 2, (some .boolean), { frames := 0, cells := 0, slots := 0, locals := 0 }, [])
def mX8_keptOn : hD := (yX8_keptOn, cX8_keptOn, 3, (some .int), { frames := 1, cells := 0, slots := 0, locals := 21 }, [])
def mX8_dayOfFeast : hD := (yX8_dayOfFeast, cX8_dayOfFeast, 2, (some .int), { frames := 0, cells := 0, slots := 0, locals := 0 }, [])
def mX9_init : hD := (yX9_init, cX9_init, 1, none, { frames := 4, cells := 9, slots := 407, locals := 72 }, [])
def mX9_text : hD := (yX9_text, cX9_text, 3, (some .int), { frames := 8, cells := 9, slots := 243, locals := 171 }, [])
def mX9_line : hD := (yX9_line, cX9_line, 4, (some .int), { frames := 8, cells := 4, slots := 24, locals := 126 }, [])
def mX9_tune : hD := (yX9_tune, cX9_tune, 4, (some .int), { frames := 8, cells := 10, slots := 250, locals := 171 }, [])
def mX9_phrase : hD := (yX9_phrase, cX9_phrase, 4, (some .int), { frames := 8, cells := 4, slots := 24, locals := 126 }, [])
def mX9_fits : hD := (yX9_fits, cX9_fits, 3, (some .int), { frames := 8, cells := 2, slots := 12, locals := 124 }, [])
def mX9_clashes : hD := (yX9_clashes, cX9_clashes, 5, (some .int), { frames := 8, cells := 3, slots := 18, locals := 124 }, [])
def mX9_best : hD := (yX9_best, cX9_best, 3, (some .int), { frames := 8, cells := 1, slots := 6, locals := 124 }, [])
def mX9_alike : hD := (yX9_alike, cX9_alike, 5, (some .int), { frames := 8, cells := 1, slots := 6, locals := 124 }, [])
def mX9_metres : hD := (yX9_metres, cX9_metres, 3, (some .int), { frames := 4, cells := 0, slots := 0, locals := 87 }, [])
def mX9_allowText : hD := (yX9_allowText, cX9_allowText, 3, (some .boolean), { frames := 8, cells := 1, slots := 6, locals := 124 }, [])
def mX9_allowTune : hD := (yX9_allowTune, cX9_allowTune, 3, (some .boolean), { frames := 8, cells := 1, slots := 6, locals := 124 }, [])
def mX9_shift : hD := (yX9_shift, cX9_shift, 7, (some .int), { frames := 8, cells := 3, slots := 18, locals := 124 }, [])
def mX9_easter : hD := (yX9_easter, cX9_easter, 3, (some .int), { frames := 7, cells := 1, slots := 6, locals := 104 }, [])
def mX9_easterAnew : hD := (yX9_easterAnew, cX9_easterAnew, 2, (some .int), { frames := 7, cells := 1, slots := 6, locals := 104 }, [])
def mX9_weekday : hD := (yX9_weekday, cX9_weekday, 4, (some .int), { frames := 8, cells := 3, slots := 18, locals := 126 }, [])
def mX9_feast : hD := (yX9_feast, cX9_feast, 5, (some .int), { frames := 9, cells := 9, slots := 239, locals := 192 }, [])
def mX9_moving : hD := (yX9_moving, cX9_moving, 4, (some .int), { frames := 9, cells := 7, slots := 227, locals := 192 }, [])
def mX9_sundays : hD := (yX9_sundays, cX9_sundays, 3, (some .int), { frames := 7, cells := 1, slots := 6, locals := 104 }, [])
def mX9_reading : hD := (yX9_reading, cX9_reading, 5, (some .int), { frames := 8, cells := 3, slots := 18, locals := 124 }, [])
def mX9_kept : hD := (yX9_kept, cX9_kept, 4, (some .int), { frames := 8, cells := 3, slots := 18, locals := 126 }, [])
def mX9_when : hD := (yX9_when, cX9_when, 4, (some .int), { frames := 7, cells := 2, slots := 12, locals := 115 }, [])
def mX9_whenAnew : hD := (yX9_whenAnew, cX9_whenAnew, 6, (some .int), { frames := 7, cells := 2, slots := 12, locals := 115 }, [])
def mX9_theme : hD := (yX9_theme, cX9_theme, 4, (some .int), { frames := 8, cells := 3, slots := 18, locals := 139 }, [])
def mX9_why : hD := (yX9_why, cX9_why, 8, (some .int), { frames := 8, cells := 5, slots := 30, locals := 139 }, [])
def mX9_sing : hD := (yX9_sing, cX9_sing, 9, (some .int), { frames := 8, cells := 8, slots := 241, locals := 171 }, [])
def mX9_service : hD := (yX9_service, cX9_service, 4, (some .int), { frames := 7, cells := 2, slots := 12, locals := 103 }, [])
def mX9_sung : hD := (yX9_sung, cX9_sung, 2, (some .int), { frames := 8, cells := 1, slots := 6, locals := 124 }, [])
def mX9_requireRange : hD := (yX9_requireRange, cX9_requireRange, 3, none, { frames := 6, cells := 1, slots := 6, locals := 82 }, [])
def mX9_requireDay : hD := (yX9_requireDay, cX9_requireDay, 3, none, { frames := 7, cells := 3, slots := 18, locals := 104 }, [])
def mX9_requireIndex : hD := (yX9_requireIndex, cX9_requireIndex, 2, none, { frames := 6, cells := 1, slots := 6, locals := 82 }, [])
def mX9_textAt : hD := (yX9_textAt, cX9_textAt, 2, (some (.object "Hymnwright$Text")), { frames := 7, cells := 1, slots := 6, locals := 103 }, [])
def mX9_tuneAt : hD := (yX9_tuneAt, cX9_tuneAt, 2, (some (.object "Hymnwright$Tune")), { frames := 7, cells := 1, slots := 6, locals := 103 }, [])
def mX9_feastAt : hD := (yX9_feastAt, cX9_feastAt, 2, (some (.object "Hymnwright$Feast")), { frames := 7, cells := 1, slots := 6, locals := 103 }, [])
def mX9_addRow : hD := (yX9_addRow, cX9_addRow, 3, (some .int), { frames := 7, cells := 3, slots := 18, locals := 104 }, [])
def mX9_addFeast : hD := (yX9_addFeast, cX9_addFeast, 2, (some .int), { frames := 8, cells := 2, slots := 206, locals := 171 }, [])
def mX9_timesThrough : hD := (yX9_timesThrough, cX9_timesThrough, 5, (some .int), { frames := 2, cells := 0, slots := 0, locals := 44 }, [])
def mX9_countClashes : hD := (yX9_countClashes, cX9_countClashes, 7, (some .int), { frames := 1, cells := 0, slots := 0, locals := 21 }, [])
def mX9_bestTune : hD := (yX9_bestTune, cX9_bestTune, 10, (some (.object "Hymnwright$Tune")), { frames := 3, cells := 0, slots := 0, locals := 68 }, [])
def mX9_isFirstOfItsMetre : hD := (yX9_isFirstOfItsMetre, cX9_isFirstOfItsMetre, 3, (some .boolean), { frames := 3, cells := 0, slots := 0, locals := 65 }, [])
def mX9_themeOf : hD := (yX9_themeOf, cX9_themeOf, 5, (some .int), { frames := 5, cells := 0, slots := 0, locals := 115 }, [])
def mX9_reasonAgainst : hD := (yX9_reasonAgainst, cX9_reasonAgainst, 5, (some .int), { frames := 4, cells := 0, slots := 0, locals := 97 }, [])
def mX9_wasSungLately : hD := (yX9_wasSungLately, cX9_wasSungLately, 6, (some .boolean), { frames := 3, cells := 0, slots := 0, locals := 64 }, [])
def mX9_chooseText : hD := (yX9_chooseText, cX9_chooseText, 13, (some (.object "Hymnwright$Text")), { frames := 5, cells := 0, slots := 0, locals := 121 }, [])
def mX9_countServices : hD := (yX9_countServices, cX9_countServices, 4, (some .int), { frames := 3, cells := 0, slots := 0, locals := 64 }, [])
def mX9_isBehindLatestService : hD := (yX9_isBehindLatestService, cX9_isBehindLatestService, 2, (some .boolean), { frames := 3, cells := 0, slots := 0, locals := 64 }, [])
def mX10_init : hD := (yX10_init, cX10_init, 2, none, { frames := 1, cells := 25, slots := 1281, locals := 12 }, [])
def mX10_thrown : hD := (yX10_thrown, cX10_thrown, 1, (some .int), { frames := 0, cells := 0, slots := 0, locals := 0 }, [])
def mX10_isIn : hD := (yX10_isIn, cX10_isIn, 3, (some .boolean), { frames := 0, cells := 0, slots := 0, locals := 0 }, [])
def mX10_isDeath : hD := (yX10_isDeath, cX10_isDeath, 1, (some .boolean), { frames := 1, cells := 0, slots := 0, locals := 22 }, [])
def mX10_isText : hD := (yX10_isText, cX10_isText, 2, (some .boolean), { frames := 1, cells := 0, slots := 0, locals := 22 }, [])
def mX10_isTune : hD := (yX10_isTune, cX10_isTune, 2, (some .boolean), { frames := 1, cells := 0, slots := 0, locals := 22 }, [])
def mX10_text : hD := (yX10_text, cX10_text, 3, (some .int), { frames := 2, cells := 0, slots := 0, locals := 42 }, [])
def mX10_isLine : hD := (yX10_isLine, cX10_isLine, 2, (some .boolean), { frames := 1, cells := 0, slots := 0, locals := 22 }, [])
def mX10_line : hD := (yX10_line, cX10_line, 4, (some .int), { frames := 2, cells := 0, slots := 0, locals := 43 }, [])
def mX10_tune : hD := (yX10_tune, cX10_tune, 4, (some .int), { frames := 2, cells := 0, slots := 0, locals := 42 }, [])
def mX10_phrase : hD := (yX10_phrase, cX10_phrase, 4, (some .int), { frames := 2, cells := 0, slots := 0, locals := 43 }, [])
def mX10_fit : hD := (yX10_fit, cX10_fit, 7, (some .int), { frames := 0, cells := 0, slots := 0, locals := 0 }, [])
def mX10_fits : hD := (yX10_fits, cX10_fits, 3, (some .int), { frames := 2, cells := 0, slots := 0, locals := 43 }, [])
def mX10_clash : hD := (yX10_clash, cX10_clash, 7, (some .int), { frames := 0, cells := 0, slots := 0, locals := 0 }, [])
def mX10_clashes : hD := (yX10_clashes, cX10_clashes, 3, (some .int), { frames := 2, cells := 0, slots := 0, locals := 43 }, [])
def mX10_isTuneFree : hD := (yX10_isTuneFree, cX10_isTuneFree, 3, (some .boolean), { frames := 0, cells := 0, slots := 0, locals := 0 }, [])
def mX10_bestOf : hD := (yX10_bestOf, cX10_bestOf, 7, (some .int), { frames := 1, cells := 0, slots := 0, locals := 26 }, [])
def mX10_best : hD := (yX10_best, cX10_best, 2, (some .int), { frames := 2, cells := 0, slots := 0, locals := 52 }, [])
def mX10_areAlike : hD := (yX10_areAlike, cX10_areAlike, 5, (some .boolean), { frames := 0, cells := 0, slots := 0, locals := 0 }, [])
def mX10_alike : hD := (yX10_alike, cX10_alike, 4, (some .int), { frames := 2, cells := 0, slots := 0, locals := 43 }, [])
def mX10_metres : hD := (yX10_metres, cX10_metres, 5, (some .int), { frames := 1, cells := 0, slots := 0, locals := 24 }, [])
def mX10_allowText : hD := (yX10_allowText, cX10_allowText, 4, (some .boolean), { frames := 2, cells := 0, slots := 0, locals := 43 }, [])
def mX10_allowTune : hD := (yX10_allowTune, cX10_allowTune, 4, (some .boolean), { frames := 2, cells := 0, slots := 0, locals := 43 }, [])
def mX10_shift : hD := (yX10_shift, cX10_shift, 6, (some .int), { frames := 2, cells := 0, slots := 0, locals := 43 }, [])
def mX10_isYear : hD := (yX10_isYear, cX10_isYear, 1, (some .boolean), { frames := 1, cells := 0, slots := 0, locals := 22 }, [])
def mX10_isLong : hD := (yX10_isLong, cX10_isLong, 1, (some .boolean), { frames := 0, cells := 0, slots := 0, locals := 0 }, [])
def mX10_daysOf : hD := (yX10_daysOf, cX10_daysOf, 2, (some .int), { frames := 1, cells := 0, slots := 0, locals := 20 }, [])
def mX10_isDay : hD := (yX10_isDay, cX10_isDay, 3, (some .boolean), { frames := 2, cells := 0, slots := 0, locals := 42 }, [])
def mX10_placeOf : hD := (yX10_placeOf, cX10_placeOf, 5, (some .int), { frames := 2, cells := 0, slots := 0, locals := 41 }, [])
def mX10_dateOf : hD := (yX10_dateOf, cX10_dateOf, 4, (some .int), { frames := 2, cells := 0, slots := 0, locals := 41 }, [])
def mX10_lengthOf : hD := (yX10_lengthOf, cX10_lengthOf, 1, (some .int), { frames := 1, cells := 0, slots := 0, locals := 20 }, [])
def mX10_before : hD := (yX10_before, cX10_before, 2, (some .int), { frames := 0, cells := 0, slots := 0, locals := 0 }, [])
def mX10_weekdayOf : hD := (yX10_weekdayOf, cX10_weekdayOf, 2, (some .int), { frames := 1, cells := 0, slots := 0, locals := 21 }, [])
def mX10_easterOf : hD := (yX10_easterOf, cX10_easterOf, 8, (some .int), { frames := 0, cells := 0, slots := 0, locals := 0 }, [])
def mX10_tellsEaster : hD := (yX10_tellsEaster, cX10_tellsEaster, 2, (some .int), { frames := 2, cells := 0, slots := 0, locals := 42 }, [])
def mX10_easter : hD := (yX10_easter, cX10_easter, 2, (some .int), { frames := 3, cells := 0, slots := 0, locals := 63 }, [])
def mX10_easterAnew : hD := (yX10_easterAnew, cX10_easterAnew, 2, (some .int), { frames := 3, cells := 0, slots := 0, locals := 63 }, [])
def mX10_weekday : hD := (yX10_weekday, cX10_weekday, 4, (some .int), { frames := 3, cells := 0, slots := 0, locals := 65 }, [])
def mX10_isRank : hD := (yX10_isRank, cX10_isRank, 1, (some .boolean), { frames := 1, cells := 0, slots := 0, locals := 22 }, [])
def mX10_adds : hD := (yX10_adds, cX10_adds, 6, (some .int), { frames := 0, cells := 0, slots := 0, locals := 0 }, [])
def mX10_feast : hD := (yX10_feast, cX10_feast, 5, (some .int), { frames := 3, cells := 0, slots := 0, locals := 64 }, [])
def mX10_moving : hD := (yX10_moving, cX10_moving, 4, (some .int), { frames := 2, cells := 0, slots := 0, locals := 42 }, [])
def mX10_sundays : hD := (yX10_sundays, cX10_sundays, 3, (some .int), { frames := 1, cells := 0, slots := 0, locals := 22 }, [])
def mX10_readingsFrom : hD := (yX10_readingsFrom, cX10_readingsFrom, 2, (some .int), { frames := 1, cells := 0, slots := 0, locals := 22 }, [])
def mX10_reading : hD := (yX10_reading, cX10_reading, 6, (some .int), { frames := 2, cells := 0, slots := 0, locals := 43 }, [])
def mX10_ownDay : hD := (yX10_ownDay, cX10_ownDay, 4, (some .int), { frames := 3, cells := 0, slots := 0, locals := 65 }, [])
def mX10_isOpen : hD := (yX10_isOpen, cX10_isOpen, 4, (some .boolean), { frames := 2, cells := 0, slots := 0, locals := 42 }, [])
def mX10_puts : hD := (yX10_puts, cX10_puts, 6, none, { frames := 4, cells := 0, slots := 0, locals := 88 }, [])
def mX10_laysYear : hD := (yX10_laysYear, cX10_laysYear, 4, none, { frames := 5, cells := 0, slots := 0, locals := 113 }, [])
def mX10_keptOn : hD := (yX10_keptOn, cX10_keptOn, 3, (some .int), { frames := 6, cells := 0, slots := 0, locals := 136 }, [])
def mX10_kept : hD := (yX10_kept, cX10_kept, 4, (some .int), { frames := 7, cells := 0, slots := 0, locals := 158 }, [])
def mX10_tellsWhen : hD := (yX10_tellsWhen, cX10_tellsWhen, 3, (some .int), { frames := 6, cells := 0, slots := 0, locals := 136 }, [])
def mX10_when : hD := (yX10_when, cX10_when, 3, (some .int), { frames := 7, cells := 0, slots := 0, locals := 158 }, [])
def mX10_whenAnew : hD := (yX10_whenAnew, cX10_whenAnew, 3, (some .int), { frames := 7, cells := 0, slots := 0, locals := 158 }, [])
def mX10_themeOn : hD := (yX10_themeOn, cX10_themeOn, 4, (some .int), { frames := 7, cells := 0, slots := 0, locals := 158 }, [])
def mX10_theme : hD := (yX10_theme, cX10_theme, 4, (some .int), { frames := 8, cells := 0, slots := 0, locals := 181 }, [])
def mX10_wasLately : hD := (yX10_wasLately, cX10_wasLately, 7, (some .boolean), { frames := 1, cells := 0, slots := 0, locals := 22 }, [])
def mX10_reason : hD := (yX10_reason, cX10_reason, 5, (some .int), { frames := 2, cells := 0, slots := 0, locals := 52 }, [])
def mX10_why : hD := (yX10_why, cX10_why, 7, (some .int), { frames := 8, cells := 0, slots := 0, locals := 181 }, [])
def mX10_times : hD := (yX10_times, cX10_times, 4, (some .int), { frames := 0, cells := 0, slots := 0, locals := 0 }, [])
def mX10_hymn : hD := (yX10_hymn, cX10_hymn, 10, (some .int), { frames := 3, cells := 0, slots := 0, locals := 76 }, [])
def mX10_isLater : hD := (yX10_isLater, cX10_isLater, 3, (some .boolean), { frames := 0, cells := 0, slots := 0, locals := 0 }, [])
def mX10_sing : hD := (yX10_sing, cX10_sing, 7, (some .int), { frames := 8, cells := 0, slots := 0, locals := 181 }, [])
def mX10_service : hD := (yX10_service, cX10_service, 5, (some .int), { frames := 3, cells := 0, slots := 0, locals := 64 }, [])
def mX10_sung : hD := (yX10_sung, cX10_sung, 2, (some .int), { frames := 2, cells := 0, slots := 0, locals := 43 }, [])
def mJ6_bitCount_0f7a4 : hD := (yJ6_bitCount_0f7a4, cJ6_bitCount_0f7a4, 1, (some .int), { frames := 0, cells := 0, slots := 0, locals := 0 }, [])
def mJ9_max_7cf53 : hD := (yJ9_max_7cf53, cJ9_max_7cf53, 2, (some .int), { frames := 0, cells := 0, slots := 0, locals := 0 }, [])
def mJ9_min_7cf53 : hD := (yJ9_min_7cf53, cJ9_min_7cf53, 2, (some .int), { frames := 0, cells := 0, slots := 0, locals := 0 }, [])
def mJxa1e45_init_da8c8 : hD := (yJxa1e45_init_da8c8, cJxa1e45_init_da8c8, 1, none, { frames := 1, cells := 0, slots := 0, locals := 12 }, [])
def mJxc12de_init_da8c8 : hD := (yJxc12de_init_da8c8, cJxc12de_init_da8c8, 1, none, { frames := 2, cells := 0, slots := 0, locals := 32 }, [])
def mJx4a65c_init_da8c8 : hD := (yJx4a65c_init_da8c8, cJx4a65c_init_da8c8, 1, none, { frames := 3, cells := 0, slots := 0, locals := 52 }, [])
def mJx4a65c_grow_92f84 : hD := (yJx4a65c_grow_92f84, cJx4a65c_grow_92f84, 4, (some (.array (.object "java/lang/Object"))), { frames := 4, cells := 1, slots := 200, locals := 84 }, [])
def mJx4a65c_grow_d5877 : hD := (yJx4a65c_grow_d5877, cJx4a65c_grow_d5877, 1, (some (.array (.object "java/lang/Object"))), { frames := 5, cells := 1, slots := 200, locals := 107 }, [])
def mJx4a65c_size_8abf5 : hD := (yJx4a65c_size_8abf5, cJx4a65c_size_8abf5, 1, (some .int), { frames := 0, cells := 0, slots := 0, locals := 0 }, [])
def mJx4a65c_isEmpty_aae02 : hD := (yJx4a65c_isEmpty_aae02, cJx4a65c_isEmpty_aae02, 1, (some .boolean), { frames := 0, cells := 0, slots := 0, locals := 0 }, [])
def mJx4a65c_elementData_915e3 : hD := (yJx4a65c_elementData_915e3, cJx4a65c_elementData_915e3, 2, (some (.object "java/lang/Object")), { frames := 0, cells := 0, slots := 0, locals := 0 }, [])
def mJx4a65c_get_915e3 : hD := (yJx4a65c_get_915e3, cJx4a65c_get_915e3, 2, (some (.object "java/lang/Object")), { frames := 2, cells := 0, slots := 0, locals := 43 }, [])
def mJx4a65c_add_72be8 : hD := (yJx4a65c_add_72be8, cJx4a65c_add_72be8, 4, none, { frames := 6, cells := 1, slots := 200, locals := 127 }, [])
def mJx4a65c_add_9ea2d : hD := (yJx4a65c_add_9ea2d, cJx4a65c_add_9ea2d, 2, (some .boolean), { frames := 7, cells := 1, slots := 200, locals := 150 }, [])
def mJ7_fill_53178 : hD := (yJ7_fill_53178, cJ7_fill_53178, 4, none, { frames := 0, cells := 0, slots := 0, locals := 0 }, [])
def mJ7_copyOf_1904c : hD := (yJ7_copyOf_1904c, cJ7_copyOf_1904c, 2, (some (.array (.object "java/lang/Object"))), { frames := 3, cells := 1, slots := 200, locals := 63 }, [])
def mJ7_copyOf_6403c : hD := (yJ7_copyOf_6403c, cJ7_copyOf_6403c, 4, (some (.array (.object "java/lang/Object"))), { frames := 2, cells := 1, slots := 200, locals := 40 }, [])
def mJ15_checkIndex_7cf53 : hD := (yJ15_checkIndex_7cf53, cJ15_checkIndex_7cf53, 2, (some .int), { frames := 1, cells := 0, slots := 0, locals := 22 }, [])
def mJ8_newLength_cabcc : hD := (yJ8_newLength_cabcc, cJ8_newLength_cabcc, 4, (some .int), { frames := 1, cells := 0, slots := 0, locals := 22 }, [])
def mJ8_hugeLength_7cf53 : hD := (yJ8_hugeLength_7cf53, cJ8_hugeLength_7cf53, 3, (some .int), { frames := 0, cells := 0, slots := 0, locals := 0 }, [])
def mJ3_checkIndex_8e157 : hD := (yJ3_checkIndex_8e157, cJ3_checkIndex_8e157, 3, (some .int), { frames := 0, cells := 0, slots := 0, locals := 0 }, [])
def mL_text : hD := (yL_text, cL_text, 5, (some .int), { frames := 9, cells := 9, slots := 243, locals := 193 }, [(0, 10, 13, 13), (0, 10, 17, 15)])
def mL_line : hD := (yL_line, cL_line, 6, (some .int), { frames := 9, cells := 4, slots := 24, locals := 149 }, [(0, 12, 15, 21), (0, 12, 19, 13), (0, 12, 23, 15)])
def mL_tune : hD := (yL_tune, cL_tune, 6, (some .int), { frames := 9, cells := 10, slots := 250, locals := 194 }, [(0, 12, 15, 13), (0, 12, 19, 15)])
def mL_phrase : hD := (yL_phrase, cL_phrase, 6, (some .int), { frames := 9, cells := 4, slots := 24, locals := 149 }, [(0, 12, 15, 21), (0, 12, 19, 13), (0, 12, 23, 15)])
def mL_fits : hD := (yL_fits, cL_fits, 5, (some .int), { frames := 9, cells := 2, slots := 12, locals := 146 }, [(0, 10, 13, 21)])
def mL_clashes : hD := (yL_clashes, cL_clashes, 5, (some .int), { frames := 9, cells := 3, slots := 18, locals := 148 }, [(0, 10, 13, 21), (0, 10, 17, 15)])
def mL_best : hD := (yL_best, cL_best, 4, (some .int), { frames := 9, cells := 1, slots := 6, locals := 146 }, [(0, 9, 12, 21)])
def mL_alike : hD := (yL_alike, cL_alike, 4, (some .int), { frames := 9, cells := 1, slots := 6, locals := 148 }, [(0, 9, 12, 21)])
def mL_allowText : hD := (yL_allowText, cL_allowText, 5, (some .int), { frames := 9, cells := 1, slots := 6, locals := 146 }, [(0, 17, 20, 21)])
def mL_allowTune : hD := (yL_allowTune, cL_allowTune, 5, (some .int), { frames := 9, cells := 1, slots := 6, locals := 146 }, [(0, 17, 20, 21)])
def mL_shift : hD := (yL_shift, cL_shift, 6, (some .int), { frames := 9, cells := 3, slots := 18, locals := 150 }, [(0, 12, 15, 21), (0, 12, 19, 13)])
def mL_easter : hD := (yL_easter, cL_easter, 4, (some .int), { frames := 8, cells := 1, slots := 6, locals := 126 }, [(0, 9, 12, 13)])
def mL_easterAnew : hD := (yL_easterAnew, cL_easterAnew, 4, (some .int), { frames := 8, cells := 1, slots := 6, locals := 125 }, [(0, 9, 12, 13)])
def mL_weekday : hD := (yL_weekday, cL_weekday, 6, (some .int), { frames := 9, cells := 3, slots := 18, locals := 149 }, [(0, 12, 15, 13)])
def mL_feast : hD := (yL_feast, cL_feast, 7, (some .int), { frames := 10, cells := 9, slots := 239, locals := 216 }, [(0, 14, 17, 13), (0, 14, 21, 15)])
def mL_moving : hD := (yL_moving, cL_moving, 6, (some .int), { frames := 10, cells := 7, slots := 227, locals := 215 }, [(0, 12, 15, 13), (0, 12, 19, 15)])
def mL_sundays : hD := (yL_sundays, cL_sundays, 4, (some .int), { frames := 8, cells := 1, slots := 6, locals := 126 }, [(0, 9, 12, 13)])
def mL_reading : hD := (yL_reading, cL_reading, 6, (some .int), { frames := 9, cells := 3, slots := 18, locals := 148 }, [(0, 12, 15, 21), (0, 12, 19, 13)])
def mL_kept : hD := (yL_kept, cL_kept, 6, (some .int), { frames := 9, cells := 3, slots := 18, locals := 149 }, [(0, 12, 15, 13)])
def mL_when : hD := (yL_when, cL_when, 5, (some .int), { frames := 8, cells := 2, slots := 12, locals := 138 }, [(0, 10, 13, 21), (0, 10, 17, 13)])
def mL_whenAnew : hD := (yL_whenAnew, cL_whenAnew, 5, (some .int), { frames := 8, cells := 2, slots := 12, locals := 140 }, [(0, 10, 13, 21), (0, 10, 17, 13)])
def mL_theme : hD := (yL_theme, cL_theme, 6, (some .int), { frames := 9, cells := 3, slots := 18, locals := 162 }, [(0, 12, 15, 13)])
def mL_why : hD := (yL_why, cL_why, 7, (some .int), { frames := 9, cells := 5, slots := 30, locals := 166 }, [(0, 14, 17, 21), (0, 14, 21, 13), (0, 14, 25, 15)])
def mL_sing : hD := (yL_sing, cL_sing, 6, (some .int), { frames := 9, cells := 8, slots := 241, locals := 199 }, [(0, 12, 15, 13), (0, 12, 19, 15)])
def mL_service : hD := (yL_service, cL_service, 5, (some .int), { frames := 8, cells := 2, slots := 12, locals := 126 }, [(0, 10, 13, 21), (0, 10, 17, 13)])
def mL_sung : hD := (yL_sung, cL_sung, 4, (some .int), { frames := 9, cells := 1, slots := 6, locals := 145 }, [(0, 9, 12, 21)])
def mL_law : hD := (yL_law, cL_law, 7, some .boolean, room_1, [])
end
section
/-! what stands at each pc (printed) -/
theorem dX0_isLeap_0 : AtI mX0_isLeap 0 0 1 := Or.inr ⟨0, by decide +kernel, rfl, rfl⟩
theorem dX0_isLeap_1 : AtK mX0_isLeap 1 (iZ 4) 2 := Or.inl ⟨4, by decide +kernel, by decide, rfl⟩
theorem dX0_isLeap_2 : At mX0_isLeap 2 .irem 1 3 := ⟨by decide +kernel, rfl⟩
theorem dX0_isLeap_3 : AtJ mX0_isLeap 3 (.ifCond .ne) 6 13 := ⟨10, by decide +kernel, rfl, by decide⟩
theorem dX0_isLeap_6 : AtI mX0_isLeap 6 0 7 := Or.inr ⟨0, by decide +kernel, rfl, rfl⟩
theorem dX0_isLeap_7 : AtK mX0_isLeap 7 (iZ 100) 9 := Or.inr (Or.inl ⟨100, by decide +kernel, by decide, rfl⟩)
theorem dX0_isLeap_9 : At mX0_isLeap 9 .irem 1 10 := ⟨by decide +kernel, rfl⟩
theorem dX0_isLeap_10 : AtJ mX0_isLeap 10 (.ifCond .ne) 13 21 := ⟨11, by decide +kernel, rfl, by decide⟩
theorem dX0_isLeap_13 : AtI mX0_isLeap 13 0 14 := Or.inr ⟨0, by decide +kernel, rfl, rfl⟩
theorem dX0_isLeap_14 : AtK mX0_isLeap 14 (iZ 400) 17 := Or.inr (Or.inr (Or.inl ⟨400, by decide +kernel, by decide, rfl⟩))
theorem dX0_isLeap_17 : At mX0_isLeap 17 .irem 1 18 := ⟨by decide +kernel, rfl⟩
theorem dX0_isLeap_18 : AtJ mX0_isLeap 18 (.ifCond .ne) 21 25 := ⟨7, by decide +kernel, rfl, by decide⟩
theorem dX0_isLeap_21 : AtK mX0_isLeap 21 (iZ 1) 22 := Or.inl ⟨1, by decide +kernel, by decide, rfl⟩
theorem dX0_isLeap_22 : AtG mX0_isLeap 22 26 := ⟨4, by decide +kernel, by decide⟩
theorem dX0_isLeap_25 : AtK mX0_isLeap 25 (iZ 0) 26 := Or.inl ⟨0, by decide +kernel, by decide, rfl⟩
theorem dX0_isLeap_26 : At mX0_isLeap 26 .ireturn 1 27 := ⟨by decide +kernel, rfl⟩
theorem dX0_yearLength_0 : AtI mX0_yearLength 0 0 1 := Or.inr ⟨0, by decide +kernel, rfl, rfl⟩
theorem dX0_yearLength_1 : AtS mX0_yearLength 1 mX0_isLeap 1 4 := ⟨9, 625, 626, by decide +kernel, rfl, by decide +kernel, by decide +kernel, rfl, ⟨⟨627, by decide +kernel⟩, ⟨80, by decide +kernel⟩, ⟨by decide, by decide⟩, by decide +kernel, by decide, by decide⟩⟩
theorem dX0_yearLength_4 : AtJ mX0_yearLength 4 (.ifCond .eq) 7 13 := ⟨9, by decide +kernel, rfl, by decide⟩
theorem dX0_yearLength_7 : AtK mX0_yearLength 7 (iZ 366) 10 := Or.inr (Or.inr (Or.inl ⟨366, by decide +kernel, by decide, rfl⟩))
theorem dX0_yearLength_10 : AtG mX0_yearLength 10 16 := ⟨6, by decide +kernel, by decide⟩
theorem dX0_yearLength_13 : AtK mX0_yearLength 13 (iZ 365) 16 := Or.inr (Or.inr (Or.inl ⟨365, by decide +kernel, by decide, rfl⟩))
theorem dX0_yearLength_16 : At mX0_yearLength 16 .ireturn 1 17 := ⟨by decide +kernel, rfl⟩
theorem dX0_monthLength_0 : AtI mX0_monthLength 0 1 1 := Or.inr ⟨1, by decide +kernel, rfl, rfl⟩
theorem dX0_monthLength_1 : AtK mX0_monthLength 1 (iZ 2) 2 := Or.inl ⟨2, by decide +kernel, by decide, rfl⟩
theorem dX0_monthLength_2 : AtJ mX0_monthLength 2 (.if_icmp .ne) 5 20 := ⟨18, by decide +kernel, rfl, by decide⟩
theorem dX0_monthLength_5 : AtI mX0_monthLength 5 0 6 := Or.inr ⟨0, by decide +kernel, rfl, rfl⟩
theorem dX0_monthLength_6 : AtS mX0_monthLength 6 mX0_isLeap 1 9 := ⟨9, 625, 626, by decide +kernel, rfl, by decide +kernel, by decide +kernel, rfl, ⟨⟨627, by decide +kernel⟩, ⟨80, by decide +kernel⟩, ⟨by decide, by decide⟩, by decide +kernel, by decide, by decide⟩⟩
theorem dX0_monthLength_9 : AtJ mX0_monthLength 9 (.ifCond .eq) 12 17 := ⟨8, by decide +kernel, rfl, by decide⟩
theorem dX0_monthLength_12 : AtK mX0_monthLength 12 (iZ 29) 14 := Or.inr (Or.inl ⟨29, by decide +kernel, by decide, rfl⟩)
theorem dX0_monthLength_14 : AtG mX0_monthLength 14 19 := ⟨5, by decide +kernel, by decide⟩
theorem dX0_monthLength_17 : AtK mX0_monthLength 17 (iZ 28) 19 := Or.inr (Or.inl ⟨28, by decide +kernel, by decide, rfl⟩)
theorem dX0_monthLength_19 : At mX0_monthLength 19 .ireturn 1 20 := ⟨by decide +kernel, rfl⟩
theorem dX0_monthLength_20 : AtI mX0_monthLength 20 1 21 := Or.inr ⟨1, by decide +kernel, rfl, rfl⟩
theorem dX0_monthLength_21 : AtK mX0_monthLength 21 (iZ 4) 22 := Or.inl ⟨4, by decide +kernel, by decide, rfl⟩
theorem dX0_monthLength_22 : AtJ mX0_monthLength 22 (.if_icmp .eq) 25 43 := ⟨21, by decide +kernel, rfl, by decide⟩
theorem dX0_monthLength_25 : AtI mX0_monthLength 25 1 26 := Or.inr ⟨1, by decide +kernel, rfl, rfl⟩
theorem dX0_monthLength_26 : AtK mX0_monthLength 26 (iZ 6) 28 := Or.inr (Or.inl ⟨6, by decide +kernel, by decide, rfl⟩)
theorem dX0_monthLength_28 : AtJ mX0_monthLength 28 (.if_icmp .eq) 31 43 := ⟨15, by decide +kernel, rfl, by decide⟩
theorem dX0_monthLength_31 : AtI mX0_monthLength 31 1 32 := Or.inr ⟨1, by decide +kernel, rfl, rfl⟩
theorem dX0_monthLength_32 : AtK mX0_monthLength 32 (iZ 9) 34 := Or.inr (Or.inl ⟨9, by decide +kernel, by decide, rfl⟩)
theorem dX0_monthLength_34 : AtJ mX0_monthLength 34 (.if_icmp .eq) 37 43 := ⟨9, by decide +kernel, rfl, by decide⟩
theorem dX0_monthLength_37 : AtI mX0_monthLength 37 1 38 := Or.inr ⟨1, by decide +kernel, rfl, rfl⟩
theorem dX0_monthLength_38 : AtK mX0_monthLength 38 (iZ 11) 40 := Or.inr (Or.inl ⟨11, by decide +kernel, by decide, rfl⟩)
theorem dX0_monthLength_40 : AtJ mX0_monthLength 40 (.if_icmp .ne) 43 48 := ⟨8, by decide +kernel, rfl, by decide⟩
theorem dX0_monthLength_43 : AtK mX0_monthLength 43 (iZ 30) 45 := Or.inr (Or.inl ⟨30, by decide +kernel, by decide, rfl⟩)
theorem dX0_monthLength_45 : AtG mX0_monthLength 45 50 := ⟨5, by decide +kernel, by decide⟩
theorem dX0_monthLength_48 : AtK mX0_monthLength 48 (iZ 31) 50 := Or.inr (Or.inl ⟨31, by decide +kernel, by decide, rfl⟩)
theorem dX0_monthLength_50 : At mX0_monthLength 50 .ireturn 1 51 := ⟨by decide +kernel, rfl⟩
theorem dX0_dayOfYear_0 : AtI mX0_dayOfYear 0 1 1 := Or.inr ⟨1, by decide +kernel, rfl, rfl⟩
theorem dX0_dayOfYear_1 : AtK mX0_dayOfYear 1 (iZ 1) 2 := Or.inl ⟨1, by decide +kernel, by decide, rfl⟩
theorem dX0_dayOfYear_2 : AtJ mX0_dayOfYear 2 (.if_icmp .lt) 5 23 := ⟨21, by decide +kernel, rfl, by decide⟩
theorem dX0_dayOfYear_5 : AtI mX0_dayOfYear 5 1 6 := Or.inr ⟨1, by decide +kernel, rfl, rfl⟩
theorem dX0_dayOfYear_6 : AtGS mX0_dayOfYear 6 "Hymnwright$Days" "AHEAD_OF_MONTH" "[I" 9 := ⟨15, 631, by decide +kernel, rfl, by decide +kernel⟩
theorem dX0_dayOfYear_9 : At mX0_dayOfYear 9 .arraylength 1 10 := ⟨by decide +kernel, rfl⟩
theorem dX0_dayOfYear_10 : AtJ mX0_dayOfYear 10 (.if_icmp .gt) 13 23 := ⟨13, by decide +kernel, rfl, by decide⟩
theorem dX0_dayOfYear_13 : AtGS mX0_dayOfYear 13 "Hymnwright$Days" "AHEAD_OF_MONTH" "[I" 16 := ⟨15, 631, by decide +kernel, rfl, by decide +kernel⟩
theorem dX0_dayOfYear_16 : AtI mX0_dayOfYear 16 1 17 := Or.inr ⟨1, by decide +kernel, rfl, rfl⟩
theorem dX0_dayOfYear_17 : AtK mX0_dayOfYear 17 (iZ 1) 18 := Or.inl ⟨1, by decide +kernel, by decide, rfl⟩
theorem dX0_dayOfYear_18 : At mX0_dayOfYear 18 .isub 1 19 := ⟨by decide +kernel, rfl⟩
theorem dX0_dayOfYear_19 : At mX0_dayOfYear 19 .iaload 1 20 := ⟨by decide +kernel, rfl⟩
theorem dX0_dayOfYear_20 : AtG mX0_dayOfYear 20 24 := ⟨4, by decide +kernel, by decide⟩
theorem dX0_dayOfYear_23 : AtK mX0_dayOfYear 23 (iZ 0) 24 := Or.inl ⟨0, by decide +kernel, by decide, rfl⟩
theorem dX0_dayOfYear_24 : AtSI mX0_dayOfYear 24 3 25 := ⟨Or.inr ⟨3, by decide +kernel, rfl, rfl⟩, by decide⟩
theorem dX0_dayOfYear_25 : AtI mX0_dayOfYear 25 1 26 := Or.inr ⟨1, by decide +kernel, rfl, rfl⟩
theorem dX0_dayOfYear_26 : AtK mX0_dayOfYear 26 (iZ 2) 27 := Or.inl ⟨2, by decide +kernel, by decide, rfl⟩
theorem dX0_dayOfYear_27 : AtJ mX0_dayOfYear 27 (.if_icmp .le) 30 41 := ⟨14, by decide +kernel, rfl, by decide⟩
theorem dX0_dayOfYear_30 : AtI mX0_dayOfYear 30 0 31 := Or.inr ⟨0, by decide +kernel, rfl, rfl⟩
theorem dX0_dayOfYear_31 : AtS mX0_dayOfYear 31 mX0_isLeap 1 34 := ⟨9, 625, 626, by decide +kernel, rfl, by decide +kernel, by decide +kernel, rfl, ⟨⟨627, by decide +kernel⟩, ⟨80, by decide +kernel⟩, ⟨by decide, by decide⟩, by decide +kernel, by decide, by decide⟩⟩
theorem dX0_dayOfYear_34 : AtJ mX0_dayOfYear 34 (.ifCond .eq) 37 41 := ⟨7, by decide +kernel, rfl, by decide⟩
theorem dX0_dayOfYear_37 : AtK mX0_dayOfYear 37 (iZ 1) 38 := Or.inl ⟨1, by decide +kernel, by decide, rfl⟩
theorem dX0_dayOfYear_38 : AtG mX0_dayOfYear 38 42 := ⟨4, by decide +kernel, by decide⟩
theorem dX0_dayOfYear_41 : AtK mX0_dayOfYear 41 (iZ 0) 42 := Or.inl ⟨0, by decide +kernel, by decide, rfl⟩
theorem dX0_dayOfYear_42 : AtSI mX0_dayOfYear 42 4 44 := ⟨Or.inl ⟨by decide +kernel, rfl⟩, by decide⟩
theorem dX0_dayOfYear_44 : AtI mX0_dayOfYear 44 3 45 := Or.inr ⟨3, by decide +kernel, rfl, rfl⟩
theorem dX0_dayOfYear_45 : AtI mX0_dayOfYear 45 4 47 := Or.inl ⟨by decide +kernel, rfl⟩
theorem dX0_dayOfYear_47 : At mX0_dayOfYear 47 .iadd 1 48 := ⟨by decide +kernel, rfl⟩
theorem dX0_dayOfYear_48 : AtI mX0_dayOfYear 48 2 49 := Or.inr ⟨2, by decide +kernel, rfl, rfl⟩
theorem dX0_dayOfYear_49 : At mX0_dayOfYear 49 .iadd 1 50 := ⟨by decide +kernel, rfl⟩
theorem dX0_dayOfYear_50 : AtK mX0_dayOfYear 50 (iZ 1) 51 := Or.inl ⟨1, by decide +kernel, by decide, rfl⟩
theorem dX0_dayOfYear_51 : At mX0_dayOfYear 51 .isub 1 52 := ⟨by decide +kernel, rfl⟩
theorem dX0_dayOfYear_52 : At mX0_dayOfYear 52 .ireturn 1 53 := ⟨by decide +kernel, rfl⟩
theorem dX0_monthAndDay_0 : AtK mX0_monthAndDay 0 (iZ 1) 1 := Or.inl ⟨1, by decide +kernel, by decide, rfl⟩
theorem dX0_monthAndDay_1 : AtSI mX0_monthAndDay 1 2 2 := ⟨Or.inr ⟨2, by decide +kernel, rfl, rfl⟩, by decide⟩
theorem dX0_monthAndDay_2 : AtI mX0_monthAndDay 2 2 3 := Or.inr ⟨2, by decide +kernel, rfl, rfl⟩
theorem dX0_monthAndDay_3 : AtK mX0_monthAndDay 3 (iZ 12) 5 := Or.inr (Or.inl ⟨12, by decide +kernel, by decide, rfl⟩)
theorem dX0_monthAndDay_5 : AtJ mX0_monthAndDay 5 (.if_icmp .ge) 8 26 := ⟨21, by decide +kernel, rfl, by decide⟩
theorem dX0_monthAndDay_8 : AtI mX0_monthAndDay 8 1 9 := Or.inr ⟨1, by decide +kernel, rfl, rfl⟩
theorem dX0_monthAndDay_9 : AtI mX0_monthAndDay 9 0 10 := Or.inr ⟨0, by decide +kernel, rfl, rfl⟩
theorem dX0_monthAndDay_10 : AtI mX0_monthAndDay 10 2 11 := Or.inr ⟨2, by decide +kernel, rfl, rfl⟩
theorem dX0_monthAndDay_11 : AtK mX0_monthAndDay 11 (iZ 1) 12 := Or.inl ⟨1, by decide +kernel, by decide, rfl⟩
theorem dX0_monthAndDay_12 : At mX0_monthAndDay 12 .iadd 1 13 := ⟨by decide +kernel, rfl⟩
theorem dX0_monthAndDay_13 : AtK mX0_monthAndDay 13 (iZ 1) 14 := Or.inl ⟨1, by decide +kernel, by decide, rfl⟩
theorem dX0_monthAndDay_14 : AtS mX0_monthAndDay 14 mX0_dayOfYear 3 17 := ⟨19, 768, 629, by decide +kernel, rfl, by decide +kernel, by decide +kernel, rfl, ⟨⟨630, by decide +kernel⟩, ⟨80, by decide +kernel⟩, ⟨by decide, by decide⟩, by decide +kernel, by decide, by decide⟩⟩
theorem dX0_monthAndDay_17 : AtJ mX0_monthAndDay 17 (.if_icmp .lt) 20 26 := ⟨9, by decide +kernel, rfl, by decide⟩
theorem dX0_monthAndDay_20 : AtInc mX0_monthAndDay 20 2 (iZ 1) 23 := ⟨1, by decide +kernel, by decide, rfl, by decide⟩
theorem dX0_monthAndDay_23 : AtG mX0_monthAndDay 23 2 := ⟨(-21), by decide +kernel, by decide⟩
theorem dX0_monthAndDay_26 : AtK mX0_monthAndDay 26 (iZ 100) 28 := Or.inr (Or.inl ⟨100, by decide +kernel, by decide, rfl⟩)
theorem dX0_monthAndDay_28 : AtI mX0_monthAndDay 28 2 29 := Or.inr ⟨2, by decide +kernel, rfl, rfl⟩
theorem dX0_monthAndDay_29 : At mX0_monthAndDay 29 .imul 1 30 := ⟨by decide +kernel, rfl⟩
theorem dX0_monthAndDay_30 : AtI mX0_monthAndDay 30 1 31 := Or.inr ⟨1, by decide +kernel, rfl, rfl⟩
theorem dX0_monthAndDay_31 : At mX0_monthAndDay 31 .iadd 1 32 := ⟨by decide +kernel, rfl⟩
theorem dX0_monthAndDay_32 : AtI mX0_monthAndDay 32 0 33 := Or.inr ⟨0, by decide +kernel, rfl, rfl⟩
theorem dX0_monthAndDay_33 : AtI mX0_monthAndDay 33 2 34 := Or.inr ⟨2, by decide +kernel, rfl, rfl⟩
theorem dX0_monthAndDay_34 : AtK mX0_monthAndDay 34 (iZ 1) 35 := Or.inl ⟨1, by decide +kernel, by decide, rfl⟩
theorem dX0_monthAndDay_35 : AtS mX0_monthAndDay 35 mX0_dayOfYear 3 38 := ⟨19, 768, 629, by decide +kernel, rfl, by decide +kernel, by decide +kernel, rfl, ⟨⟨630, by decide +kernel⟩, ⟨80, by decide +kernel⟩, ⟨by decide, by decide⟩, by decide +kernel, by decide, by decide⟩⟩
theorem dX0_monthAndDay_38 : At mX0_monthAndDay 38 .isub 1 39 := ⟨by decide +kernel, rfl⟩
theorem dX0_monthAndDay_39 : AtK mX0_monthAndDay 39 (iZ 1) 40 := Or.inl ⟨1, by decide +kernel, by decide, rfl⟩
theorem dX0_monthAndDay_40 : At mX0_monthAndDay 40 .iadd 1 41 := ⟨by decide +kernel, rfl⟩
theorem dX0_monthAndDay_41 : At mX0_monthAndDay 41 .ireturn 1 42 := ⟨by decide +kernel, rfl⟩
theorem dX0_dayNumber_0 : AtI mX0_dayNumber 0 0 1 := Or.inr ⟨0, by decide +kernel, rfl, rfl⟩
theorem dX0_dayNumber_1 : AtK mX0_dayNumber 1 (iZ 1600) 4 := Or.inr (Or.inr (Or.inl ⟨1600, by decide +kernel, by decide, rfl⟩))
theorem dX0_dayNumber_4 : At mX0_dayNumber 4 .isub 1 5 := ⟨by decide +kernel, rfl⟩
theorem dX0_dayNumber_5 : AtSI mX0_dayNumber 5 2 6 := ⟨Or.inr ⟨2, by decide +kernel, rfl, rfl⟩, by decide⟩
theorem dX0_dayNumber_6 : AtI mX0_dayNumber 6 2 7 := Or.inr ⟨2, by decide +kernel, rfl, rfl⟩
theorem dX0_dayNumber_7 : AtK mX0_dayNumber 7 (iZ 3) 8 := Or.inl ⟨3, by decide +kernel, by decide, rfl⟩
theorem dX0_dayNumber_8 : At mX0_dayNumber 8 .iadd 1 9 := ⟨by decide +kernel, rfl⟩
theorem dX0_dayNumber_9 : AtK mX0_dayNumber 9 (iZ 4) 10 := Or.inl ⟨4, by decide +kernel, by decide, rfl⟩
theorem dX0_dayNumber_10 : At mX0_dayNumber 10 .idiv 1 11 := ⟨by decide +kernel, rfl⟩
theorem dX0_dayNumber_11 : AtI mX0_dayNumber 11 2 12 := Or.inr ⟨2, by decide +kernel, rfl, rfl⟩
theorem dX0_dayNumber_12 : AtK mX0_dayNumber 12 (iZ 99) 14 := Or.inr (Or.inl ⟨99, by decide +kernel, by decide, rfl⟩)
theorem dX0_dayNumber_14 : At mX0_dayNumber 14 .iadd 1 15 := ⟨by decide +kernel, rfl⟩
theorem dX0_dayNumber_15 : AtK mX0_dayNumber 15 (iZ 100) 17 := Or.inr (Or.inl ⟨100, by decide +kernel, by decide, rfl⟩)
theorem dX0_dayNumber_17 : At mX0_dayNumber 17 .idiv 1 18 := ⟨by decide +kernel, rfl⟩
theorem dX0_dayNumber_18 : At mX0_dayNumber 18 .isub 1 19 := ⟨by decide +kernel, rfl⟩
theorem dX0_dayNumber_19 : AtI mX0_dayNumber 19 2 20 := Or.inr ⟨2, by decide +kernel, rfl, rfl⟩
theorem dX0_dayNumber_20 : AtK mX0_dayNumber 20 (iZ 399) 23 := Or.inr (Or.inr (Or.inl ⟨399, by decide +kernel, by decide, rfl⟩))
theorem dX0_dayNumber_23 : At mX0_dayNumber 23 .iadd 1 24 := ⟨by decide +kernel, rfl⟩
theorem dX0_dayNumber_24 : AtK mX0_dayNumber 24 (iZ 400) 27 := Or.inr (Or.inr (Or.inl ⟨400, by decide +kernel, by decide, rfl⟩))
theorem dX0_dayNumber_27 : At mX0_dayNumber 27 .idiv 1 28 := ⟨by decide +kernel, rfl⟩
theorem dX0_dayNumber_28 : At mX0_dayNumber 28 .iadd 1 29 := ⟨by decide +kernel, rfl⟩
theorem dX0_dayNumber_29 : AtSI mX0_dayNumber 29 3 30 := ⟨Or.inr ⟨3, by decide +kernel, rfl, rfl⟩, by decide⟩
theorem dX0_dayNumber_30 : AtK mX0_dayNumber 30 (iZ 365) 33 := Or.inr (Or.inr (Or.inl ⟨365, by decide +kernel, by decide, rfl⟩))
theorem dX0_dayNumber_33 : AtI mX0_dayNumber 33 2 34 := Or.inr ⟨2, by decide +kernel, rfl, rfl⟩
theorem dX0_dayNumber_34 : At mX0_dayNumber 34 .imul 1 35 := ⟨by decide +kernel, rfl⟩
theorem dX0_dayNumber_35 : AtI mX0_dayNumber 35 3 36 := Or.inr ⟨3, by decide +kernel, rfl, rfl⟩
theorem dX0_dayNumber_36 : At mX0_dayNumber 36 .iadd 1 37 := ⟨by decide +kernel, rfl⟩
theorem dX0_dayNumber_37 : AtI mX0_dayNumber 37 1 38 := Or.inr ⟨1, by decide +kernel, rfl, rfl⟩
theorem dX0_dayNumber_38 : At mX0_dayNumber 38 .iadd 1 39 := ⟨by decide +kernel, rfl⟩
theorem dX0_dayNumber_39 : At mX0_dayNumber 39 .ireturn 1 40 := ⟨by decide +kernel, rfl⟩
theorem dX0_dayOfWeek_0 : AtI mX0_dayOfWeek 0 0 1 := Or.inr ⟨0, by decide +kernel, rfl, rfl⟩
theorem dX0_dayOfWeek_1 : AtI mX0_dayOfWeek 1 1 2 := Or.inr ⟨1, by decide +kernel, rfl, rfl⟩
theorem dX0_dayOfWeek_2 : AtS mX0_dayOfWeek 2 mX0_dayNumber 2 5 := ⟨23, 636, 637, by decide +kernel, rfl, by decide +kernel, by decide +kernel, rfl, ⟨⟨638, by decide +kernel⟩, ⟨80, by decide +kernel⟩, ⟨by decide, by decide⟩, by decide +kernel, by decide, by decide⟩⟩
theorem dX0_dayOfWeek_5 : AtK mX0_dayOfWeek 5 (iZ 6) 7 := Or.inr (Or.inl ⟨6, by decide +kernel, by decide, rfl⟩)
theorem dX0_dayOfWeek_7 : At mX0_dayOfWeek 7 .iadd 1 8 := ⟨by decide +kernel, rfl⟩
theorem dX0_dayOfWeek_8 : AtK mX0_dayOfWeek 8 (iZ 7) 10 := Or.inr (Or.inl ⟨7, by decide +kernel, by decide, rfl⟩)
theorem dX0_dayOfWeek_10 : At mX0_dayOfWeek 10 .irem 1 11 := ⟨by decide +kernel, rfl⟩
theorem dX0_dayOfWeek_11 : At mX0_dayOfWeek 11 .ireturn 1 12 := ⟨by decide +kernel, rfl⟩
theorem dX0_easterAsDayOfMarch_0 : AtI mX0_easterAsDayOfMarch 0 0 1 := Or.inr ⟨0, by decide +kernel, rfl, rfl⟩
theorem dX0_easterAsDayOfMarch_1 : AtK mX0_easterAsDayOfMarch 1 (iZ 19) 3 := Or.inr (Or.inl ⟨19, by decide +kernel, by decide, rfl⟩)
theorem dX0_easterAsDayOfMarch_3 : At mX0_easterAsDayOfMarch 3 .irem 1 4 := ⟨by decide +kernel, rfl⟩
theorem dX0_easterAsDayOfMarch_4 : AtK mX0_easterAsDayOfMarch 4 (iZ 1) 5 := Or.inl ⟨1, by decide +kernel, by decide, rfl⟩
theorem dX0_easterAsDayOfMarch_5 : At mX0_easterAsDayOfMarch 5 .iadd 1 6 := ⟨by decide +kernel, rfl⟩
theorem dX0_easterAsDayOfMarch_6 : AtSI mX0_easterAsDayOfMarch 6 1 7 := ⟨Or.inr ⟨1, by decide +kernel, rfl, rfl⟩, by decide⟩
theorem dX0_easterAsDayOfMarch_7 : AtI mX0_easterAsDayOfMarch 7 0 8 := Or.inr ⟨0, by decide +kernel, rfl, rfl⟩
theorem dX0_easterAsDayOfMarch_8 : AtK mX0_easterAsDayOfMarch 8 (iZ 100) 10 := Or.inr (Or.inl ⟨100, by decide +kernel, by decide, rfl⟩)
theorem dX0_easterAsDayOfMarch_10 : At mX0_easterAsDayOfMarch 10 .idiv 1 11 := ⟨by decide +kernel, rfl⟩
theorem dX0_easterAsDayOfMarch_11 : AtK mX0_easterAsDayOfMarch 11 (iZ 1) 12 := Or.inl ⟨1, by decide +kernel, by decide, rfl⟩
theorem dX0_easterAsDayOfMarch_12 : At mX0_easterAsDayOfMarch 12 .iadd 1 13 := ⟨by decide +kernel, rfl⟩
theorem dX0_easterAsDayOfMarch_13 : AtSI mX0_easterAsDayOfMarch 13 2 14 := ⟨Or.inr ⟨2, by decide +kernel, rfl, rfl⟩, by decide⟩
theorem dX0_easterAsDayOfMarch_14 : AtK mX0_easterAsDayOfMarch 14 (iZ 3) 15 := Or.inl ⟨3, by decide +kernel, by decide, rfl⟩
theorem dX0_easterAsDayOfMarch_15 : AtI mX0_easterAsDayOfMarch 15 2 16 := Or.inr ⟨2, by decide +kernel, rfl, rfl⟩
theorem dX0_easterAsDayOfMarch_16 : At mX0_easterAsDayOfMarch 16 .imul 1 17 := ⟨by decide +kernel, rfl⟩
theorem dX0_easterAsDayOfMarch_17 : AtK mX0_easterAsDayOfMarch 17 (iZ 4) 18 := Or.inl ⟨4, by decide +kernel, by decide, rfl⟩
theorem dX0_easterAsDayOfMarch_18 : At mX0_easterAsDayOfMarch 18 .idiv 1 19 := ⟨by decide +kernel, rfl⟩
theorem dX0_easterAsDayOfMarch_19 : AtK mX0_easterAsDayOfMarch 19 (iZ 12) 21 := Or.inr (Or.inl ⟨12, by decide +kernel, by decide, rfl⟩)
theorem dX0_easterAsDayOfMarch_21 : At mX0_easterAsDayOfMarch 21 .isub 1 22 := ⟨by decide +kernel, rfl⟩
theorem dX0_easterAsDayOfMarch_22 : AtSI mX0_easterAsDayOfMarch 22 3 23 := ⟨Or.inr ⟨3, by decide +kernel, rfl, rfl⟩, by decide⟩
theorem dX0_easterAsDayOfMarch_23 : AtK mX0_easterAsDayOfMarch 23 (iZ 8) 25 := Or.inr (Or.inl ⟨8, by decide +kernel, by decide, rfl⟩)
theorem dX0_easterAsDayOfMarch_25 : AtI mX0_easterAsDayOfMarch 25 2 26 := Or.inr ⟨2, by decide +kernel, rfl, rfl⟩
theorem dX0_easterAsDayOfMarch_26 : At mX0_easterAsDayOfMarch 26 .imul 1 27 := ⟨by decide +kernel, rfl⟩
theorem dX0_easterAsDayOfMarch_27 : AtK mX0_easterAsDayOfMarch 27 (iZ 5) 28 := Or.inl ⟨5, by decide +kernel, by decide, rfl⟩
theorem dX0_easterAsDayOfMarch_28 : At mX0_easterAsDayOfMarch 28 .iadd 1 29 := ⟨by decide +kernel, rfl⟩
theorem dX0_easterAsDayOfMarch_29 : AtK mX0_easterAsDayOfMarch 29 (iZ 25) 31 := Or.inr (Or.inl ⟨25, by decide +kernel, by decide, rfl⟩)
theorem dX0_easterAsDayOfMarch_31 : At mX0_easterAsDayOfMarch 31 .idiv 1 32 := ⟨by decide +kernel, rfl⟩
theorem dX0_easterAsDayOfMarch_32 : AtK mX0_easterAsDayOfMarch 32 (iZ 5) 33 := Or.inl ⟨5, by decide +kernel, by decide, rfl⟩
theorem dX0_easterAsDayOfMarch_33 : At mX0_easterAsDayOfMarch 33 .isub 1 34 := ⟨by decide +kernel, rfl⟩
theorem dX0_easterAsDayOfMarch_34 : AtSI mX0_easterAsDayOfMarch 34 4 36 := ⟨Or.inl ⟨by decide +kernel, rfl⟩, by decide⟩
theorem dX0_easterAsDayOfMarch_36 : AtK mX0_easterAsDayOfMarch 36 (iZ 5) 37 := Or.inl ⟨5, by decide +kernel, by decide, rfl⟩
theorem dX0_easterAsDayOfMarch_37 : AtI mX0_easterAsDayOfMarch 37 0 38 := Or.inr ⟨0, by decide +kernel, rfl, rfl⟩
theorem dX0_easterAsDayOfMarch_38 : At mX0_easterAsDayOfMarch 38 .imul 1 39 := ⟨by decide +kernel, rfl⟩
theorem dX0_easterAsDayOfMarch_39 : AtK mX0_easterAsDayOfMarch 39 (iZ 4) 40 := Or.inl ⟨4, by decide +kernel, by decide, rfl⟩
theorem dX0_easterAsDayOfMarch_40 : At mX0_easterAsDayOfMarch 40 .idiv 1 41 := ⟨by decide +kernel, rfl⟩
theorem dX0_easterAsDayOfMarch_41 : AtI mX0_easterAsDayOfMarch 41 3 42 := Or.inr ⟨3, by decide +kernel, rfl, rfl⟩
theorem dX0_easterAsDayOfMarch_42 : At mX0_easterAsDayOfMarch 42 .isub 1 43 := ⟨by decide +kernel, rfl⟩
theorem dX0_easterAsDayOfMarch_43 : AtK mX0_easterAsDayOfMarch 43 (iZ 10) 45 := Or.inr (Or.inl ⟨10, by decide +kernel, by decide, rfl⟩)
theorem dX0_easterAsDayOfMarch_45 : At mX0_easterAsDayOfMarch 45 .isub 1 46 := ⟨by decide +kernel, rfl⟩
theorem dX0_easterAsDayOfMarch_46 : AtSI mX0_easterAsDayOfMarch 46 5 48 := ⟨Or.inl ⟨by decide +kernel, rfl⟩, by decide⟩
theorem dX0_easterAsDayOfMarch_48 : AtK mX0_easterAsDayOfMarch 48 (iZ 11) 50 := Or.inr (Or.inl ⟨11, by decide +kernel, by decide, rfl⟩)
theorem dX0_easterAsDayOfMarch_50 : AtI mX0_easterAsDayOfMarch 50 1 51 := Or.inr ⟨1, by decide +kernel, rfl, rfl⟩
theorem dX0_easterAsDayOfMarch_51 : At mX0_easterAsDayOfMarch 51 .imul 1 52 := ⟨by decide +kernel, rfl⟩
theorem dX0_easterAsDayOfMarch_52 : AtK mX0_easterAsDayOfMarch 52 (iZ 20) 54 := Or.inr (Or.inl ⟨20, by decide +kernel, by decide, rfl⟩)
theorem dX0_easterAsDayOfMarch_54 : At mX0_easterAsDayOfMarch 54 .iadd 1 55 := ⟨by decide +kernel, rfl⟩
theorem dX0_easterAsDayOfMarch_55 : AtI mX0_easterAsDayOfMarch 55 4 57 := Or.inl ⟨by decide +kernel, rfl⟩
theorem dX0_easterAsDayOfMarch_57 : At mX0_easterAsDayOfMarch 57 .iadd 1 58 := ⟨by decide +kernel, rfl⟩
theorem dX0_easterAsDayOfMarch_58 : AtI mX0_easterAsDayOfMarch 58 3 59 := Or.inr ⟨3, by decide +kernel, rfl, rfl⟩
theorem dX0_easterAsDayOfMarch_59 : At mX0_easterAsDayOfMarch 59 .isub 1 60 := ⟨by decide +kernel, rfl⟩
theorem dX0_easterAsDayOfMarch_60 : AtK mX0_easterAsDayOfMarch 60 (iZ 30) 62 := Or.inr (Or.inl ⟨30, by decide +kernel, by decide, rfl⟩)
theorem dX0_easterAsDayOfMarch_62 : At mX0_easterAsDayOfMarch 62 .irem 1 63 := ⟨by decide +kernel, rfl⟩
theorem dX0_easterAsDayOfMarch_63 : AtSI mX0_easterAsDayOfMarch 63 6 65 := ⟨Or.inl ⟨by decide +kernel, rfl⟩, by decide⟩
theorem dX0_easterAsDayOfMarch_65 : AtI mX0_easterAsDayOfMarch 65 6 67 := Or.inl ⟨by decide +kernel, rfl⟩
theorem dX0_easterAsDayOfMarch_67 : AtK mX0_easterAsDayOfMarch 67 (iZ 24) 69 := Or.inr (Or.inl ⟨24, by decide +kernel, by decide, rfl⟩)
theorem dX0_easterAsDayOfMarch_69 : AtJ mX0_easterAsDayOfMarch 69 (.if_icmp .eq) 72 85 := ⟨16, by decide +kernel, rfl, by decide⟩
theorem dX0_easterAsDayOfMarch_72 : AtI mX0_easterAsDayOfMarch 72 6 74 := Or.inl ⟨by decide +kernel, rfl⟩
theorem dX0_easterAsDayOfMarch_74 : AtK mX0_easterAsDayOfMarch 74 (iZ 25) 76 := Or.inr (Or.inl ⟨25, by decide +kernel, by decide, rfl⟩)
theorem dX0_easterAsDayOfMarch_76 : AtJ mX0_easterAsDayOfMarch 76 (.if_icmp .ne) 79 88 := ⟨12, by decide +kernel, rfl, by decide⟩
theorem dX0_easterAsDayOfMarch_79 : AtI mX0_easterAsDayOfMarch 79 1 80 := Or.inr ⟨1, by decide +kernel, rfl, rfl⟩
theorem dX0_easterAsDayOfMarch_80 : AtK mX0_easterAsDayOfMarch 80 (iZ 11) 82 := Or.inr (Or.inl ⟨11, by decide +kernel, by decide, rfl⟩)
theorem dX0_easterAsDayOfMarch_82 : AtJ mX0_easterAsDayOfMarch 82 (.if_icmp .le) 85 88 := ⟨6, by decide +kernel, rfl, by decide⟩
theorem dX0_easterAsDayOfMarch_85 : AtInc mX0_easterAsDayOfMarch 85 6 (iZ 1) 88 := ⟨1, by decide +kernel, by decide, rfl, by decide⟩
theorem dX0_easterAsDayOfMarch_88 : AtK mX0_easterAsDayOfMarch 88 (iZ 44) 90 := Or.inr (Or.inl ⟨44, by decide +kernel, by decide, rfl⟩)
theorem dX0_easterAsDayOfMarch_90 : AtI mX0_easterAsDayOfMarch 90 6 92 := Or.inl ⟨by decide +kernel, rfl⟩
theorem dX0_easterAsDayOfMarch_92 : At mX0_easterAsDayOfMarch 92 .isub 1 93 := ⟨by decide +kernel, rfl⟩
theorem dX0_easterAsDayOfMarch_93 : AtSI mX0_easterAsDayOfMarch 93 7 95 := ⟨Or.inl ⟨by decide +kernel, rfl⟩, by decide⟩
theorem dX0_easterAsDayOfMarch_95 : AtI mX0_easterAsDayOfMarch 95 7 97 := Or.inl ⟨by decide +kernel, rfl⟩
theorem dX0_easterAsDayOfMarch_97 : AtK mX0_easterAsDayOfMarch 97 (iZ 21) 99 := Or.inr (Or.inl ⟨21, by decide +kernel, by decide, rfl⟩)
theorem dX0_easterAsDayOfMarch_99 : AtJ mX0_easterAsDayOfMarch 99 (.if_icmp .ge) 102 105 := ⟨6, by decide +kernel, rfl, by decide⟩
theorem dX0_easterAsDayOfMarch_102 : AtInc mX0_easterAsDayOfMarch 102 7 (iZ 30) 105 := ⟨30, by decide +kernel, by decide, rfl, by decide⟩
theorem dX0_easterAsDayOfMarch_105 : AtI mX0_easterAsDayOfMarch 105 7 107 := Or.inl ⟨by decide +kernel, rfl⟩
theorem dX0_easterAsDayOfMarch_107 : AtK mX0_easterAsDayOfMarch 107 (iZ 7) 109 := Or.inr (Or.inl ⟨7, by decide +kernel, by decide, rfl⟩)
theorem dX0_easterAsDayOfMarch_109 : At mX0_easterAsDayOfMarch 109 .iadd 1 110 := ⟨by decide +kernel, rfl⟩
theorem dX0_easterAsDayOfMarch_110 : AtI mX0_easterAsDayOfMarch 110 5 112 := Or.inl ⟨by decide +kernel, rfl⟩
theorem dX0_easterAsDayOfMarch_112 : AtI mX0_easterAsDayOfMarch 112 7 114 := Or.inl ⟨by decide +kernel, rfl⟩
theorem dX0_easterAsDayOfMarch_114 : At mX0_easterAsDayOfMarch 114 .iadd 1 115 := ⟨by decide +kernel, rfl⟩
theorem dX0_easterAsDayOfMarch_115 : AtK mX0_easterAsDayOfMarch 115 (iZ 7) 117 := Or.inr (Or.inl ⟨7, by decide +kernel, by decide, rfl⟩)
theorem dX0_easterAsDayOfMarch_117 : At mX0_easterAsDayOfMarch 117 .irem 1 118 := ⟨by decide +kernel, rfl⟩
theorem dX0_easterAsDayOfMarch_118 : At mX0_easterAsDayOfMarch 118 .isub 1 119 := ⟨by decide +kernel, rfl⟩
theorem dX0_easterAsDayOfMarch_119 : At mX0_easterAsDayOfMarch 119 .ireturn 1 120 := ⟨by decide +kernel, rfl⟩
theorem dX0_easterByRests_0 : AtI mX0_easterByRests 0 0 1 := Or.inr ⟨0, by decide +kernel, rfl, rfl⟩
theorem dX0_easterByRests_1 : AtK mX0_easterByRests 1 (iZ 19) 3 := Or.inr (Or.inl ⟨19, by decide +kernel, by decide, rfl⟩)
theorem dX0_easterByRests_3 : At mX0_easterByRests 3 .irem 1 4 := ⟨by decide +kernel, rfl⟩
theorem dX0_easterByRests_4 : AtSI mX0_easterByRests 4 1 5 := ⟨Or.inr ⟨1, by decide +kernel, rfl, rfl⟩, by decide⟩
theorem dX0_easterByRests_5 : AtI mX0_easterByRests 5 0 6 := Or.inr ⟨0, by decide +kernel, rfl, rfl⟩
theorem dX0_easterByRests_6 : AtK mX0_easterByRests 6 (iZ 100) 8 := Or.inr (Or.inl ⟨100, by decide +kernel, by decide, rfl⟩)
theorem dX0_easterByRests_8 : At mX0_easterByRests 8 .idiv 1 9 := ⟨by decide +kernel, rfl⟩
theorem dX0_easterByRests_9 : AtSI mX0_easterByRests 9 2 10 := ⟨Or.inr ⟨2, by decide +kernel, rfl, rfl⟩, by decide⟩
theorem dX0_easterByRests_10 : AtI mX0_easterByRests 10 0 11 := Or.inr ⟨0, by decide +kernel, rfl, rfl⟩
theorem dX0_easterByRests_11 : AtK mX0_easterByRests 11 (iZ 100) 13 := Or.inr (Or.inl ⟨100, by decide +kernel, by decide, rfl⟩)
theorem dX0_easterByRests_13 : At mX0_easterByRests 13 .irem 1 14 := ⟨by decide +kernel, rfl⟩
theorem dX0_easterByRests_14 : AtSI mX0_easterByRests 14 3 15 := ⟨Or.inr ⟨3, by decide +kernel, rfl, rfl⟩, by decide⟩
theorem dX0_easterByRests_15 : AtI mX0_easterByRests 15 2 16 := Or.inr ⟨2, by decide +kernel, rfl, rfl⟩
theorem dX0_easterByRests_16 : AtI mX0_easterByRests 16 2 17 := Or.inr ⟨2, by decide +kernel, rfl, rfl⟩
theorem dX0_easterByRests_17 : AtK mX0_easterByRests 17 (iZ 8) 19 := Or.inr (Or.inl ⟨8, by decide +kernel, by decide, rfl⟩)
theorem dX0_easterByRests_19 : At mX0_easterByRests 19 .iadd 1 20 := ⟨by decide +kernel, rfl⟩
theorem dX0_easterByRests_20 : AtK mX0_easterByRests 20 (iZ 25) 22 := Or.inr (Or.inl ⟨25, by decide +kernel, by decide, rfl⟩)
theorem dX0_easterByRests_22 : At mX0_easterByRests 22 .idiv 1 23 := ⟨by decide +kernel, rfl⟩
theorem dX0_easterByRests_23 : At mX0_easterByRests 23 .isub 1 24 := ⟨by decide +kernel, rfl⟩
theorem dX0_easterByRests_24 : AtK mX0_easterByRests 24 (iZ 1) 25 := Or.inl ⟨1, by decide +kernel, by decide, rfl⟩
theorem dX0_easterByRests_25 : At mX0_easterByRests 25 .iadd 1 26 := ⟨by decide +kernel, rfl⟩
theorem dX0_easterByRests_26 : AtK mX0_easterByRests 26 (iZ 3) 27 := Or.inl ⟨3, by decide +kernel, by decide, rfl⟩
theorem dX0_easterByRests_27 : At mX0_easterByRests 27 .idiv 1 28 := ⟨by decide +kernel, rfl⟩
theorem dX0_easterByRests_28 : AtSI mX0_easterByRests 28 4 30 := ⟨Or.inl ⟨by decide +kernel, rfl⟩, by decide⟩
theorem dX0_easterByRests_30 : AtK mX0_easterByRests 30 (iZ 19) 32 := Or.inr (Or.inl ⟨19, by decide +kernel, by decide, rfl⟩)
theorem dX0_easterByRests_32 : AtI mX0_easterByRests 32 1 33 := Or.inr ⟨1, by decide +kernel, rfl, rfl⟩
theorem dX0_easterByRests_33 : At mX0_easterByRests 33 .imul 1 34 := ⟨by decide +kernel, rfl⟩
theorem dX0_easterByRests_34 : AtI mX0_easterByRests 34 2 35 := Or.inr ⟨2, by decide +kernel, rfl, rfl⟩
theorem dX0_easterByRests_35 : At mX0_easterByRests 35 .iadd 1 36 := ⟨by decide +kernel, rfl⟩
theorem dX0_easterByRests_36 : AtI mX0_easterByRests 36 2 37 := Or.inr ⟨2, by decide +kernel, rfl, rfl⟩
theorem dX0_easterByRests_37 : AtK mX0_easterByRests 37 (iZ 4) 38 := Or.inl ⟨4, by decide +kernel, by decide, rfl⟩
theorem dX0_easterByRests_38 : At mX0_easterByRests 38 .idiv 1 39 := ⟨by decide +kernel, rfl⟩
theorem dX0_easterByRests_39 : At mX0_easterByRests 39 .isub 1 40 := ⟨by decide +kernel, rfl⟩
theorem dX0_easterByRests_40 : AtI mX0_easterByRests 40 4 42 := Or.inl ⟨by decide +kernel, rfl⟩
theorem dX0_easterByRests_42 : At mX0_easterByRests 42 .isub 1 43 := ⟨by decide +kernel, rfl⟩
theorem dX0_easterByRests_43 : AtK mX0_easterByRests 43 (iZ 15) 45 := Or.inr (Or.inl ⟨15, by decide +kernel, by decide, rfl⟩)
theorem dX0_easterByRests_45 : At mX0_easterByRests 45 .iadd 1 46 := ⟨by decide +kernel, rfl⟩
theorem dX0_easterByRests_46 : AtK mX0_easterByRests 46 (iZ 30) 48 := Or.inr (Or.inl ⟨30, by decide +kernel, by decide, rfl⟩)
theorem dX0_easterByRests_48 : At mX0_easterByRests 48 .irem 1 49 := ⟨by decide +kernel, rfl⟩
theorem dX0_easterByRests_49 : AtSI mX0_easterByRests 49 5 51 := ⟨Or.inl ⟨by decide +kernel, rfl⟩, by decide⟩
theorem dX0_easterByRests_51 : AtK mX0_easterByRests 51 (iZ 32) 53 := Or.inr (Or.inl ⟨32, by decide +kernel, by decide, rfl⟩)
theorem dX0_easterByRests_53 : AtK mX0_easterByRests 53 (iZ 2) 54 := Or.inl ⟨2, by decide +kernel, by decide, rfl⟩
theorem dX0_easterByRests_54 : AtI mX0_easterByRests 54 2 55 := Or.inr ⟨2, by decide +kernel, rfl, rfl⟩
theorem dX0_easterByRests_55 : AtK mX0_easterByRests 55 (iZ 4) 56 := Or.inl ⟨4, by decide +kernel, by decide, rfl⟩
theorem dX0_easterByRests_56 : At mX0_easterByRests 56 .irem 1 57 := ⟨by decide +kernel, rfl⟩
theorem dX0_easterByRests_57 : At mX0_easterByRests 57 .imul 1 58 := ⟨by decide +kernel, rfl⟩
theorem dX0_easterByRests_58 : At mX0_easterByRests 58 .iadd 1 59 := ⟨by decide +kernel, rfl⟩
theorem dX0_easterByRests_59 : AtK mX0_easterByRests 59 (iZ 2) 60 := Or.inl ⟨2, by decide +kernel, by decide, rfl⟩
theorem dX0_easterByRests_60 : AtI mX0_easterByRests 60 3 61 := Or.inr ⟨3, by decide +kernel, rfl, rfl⟩
theorem dX0_easterByRests_61 : AtK mX0_easterByRests 61 (iZ 4) 62 := Or.inl ⟨4, by decide +kernel, by decide, rfl⟩
theorem dX0_easterByRests_62 : At mX0_easterByRests 62 .idiv 1 63 := ⟨by decide +kernel, rfl⟩
theorem dX0_easterByRests_63 : At mX0_easterByRests 63 .imul 1 64 := ⟨by decide +kernel, rfl⟩
theorem dX0_easterByRests_64 : At mX0_easterByRests 64 .iadd 1 65 := ⟨by decide +kernel, rfl⟩
theorem dX0_easterByRests_65 : AtI mX0_easterByRests 65 5 67 := Or.inl ⟨by decide +kernel, rfl⟩
theorem dX0_easterByRests_67 : At mX0_easterByRests 67 .isub 1 68 := ⟨by decide +kernel, rfl⟩
theorem dX0_easterByRests_68 : AtI mX0_easterByRests 68 3 69 := Or.inr ⟨3, by decide +kernel, rfl, rfl⟩
theorem dX0_easterByRests_69 : AtK mX0_easterByRests 69 (iZ 4) 70 := Or.inl ⟨4, by decide +kernel, by decide, rfl⟩
theorem dX0_easterByRests_70 : At mX0_easterByRests 70 .irem 1 71 := ⟨by decide +kernel, rfl⟩
theorem dX0_easterByRests_71 : At mX0_easterByRests 71 .isub 1 72 := ⟨by decide +kernel, rfl⟩
theorem dX0_easterByRests_72 : AtK mX0_easterByRests 72 (iZ 7) 74 := Or.inr (Or.inl ⟨7, by decide +kernel, by decide, rfl⟩)
theorem dX0_easterByRests_74 : At mX0_easterByRests 74 .irem 1 75 := ⟨by decide +kernel, rfl⟩
theorem dX0_easterByRests_75 : AtSI mX0_easterByRests 75 6 77 := ⟨Or.inl ⟨by decide +kernel, rfl⟩, by decide⟩
theorem dX0_easterByRests_77 : AtI mX0_easterByRests 77 1 78 := Or.inr ⟨1, by decide +kernel, rfl, rfl⟩
theorem dX0_easterByRests_78 : AtK mX0_easterByRests 78 (iZ 11) 80 := Or.inr (Or.inl ⟨11, by decide +kernel, by decide, rfl⟩)
theorem dX0_easterByRests_80 : AtI mX0_easterByRests 80 5 82 := Or.inl ⟨by decide +kernel, rfl⟩
theorem dX0_easterByRests_82 : At mX0_easterByRests 82 .imul 1 83 := ⟨by decide +kernel, rfl⟩
theorem dX0_easterByRests_83 : At mX0_easterByRests 83 .iadd 1 84 := ⟨by decide +kernel, rfl⟩
theorem dX0_easterByRests_84 : AtK mX0_easterByRests 84 (iZ 22) 86 := Or.inr (Or.inl ⟨22, by decide +kernel, by decide, rfl⟩)
theorem dX0_easterByRests_86 : AtI mX0_easterByRests 86 6 88 := Or.inl ⟨by decide +kernel, rfl⟩
theorem dX0_easterByRests_88 : At mX0_easterByRests 88 .imul 1 89 := ⟨by decide +kernel, rfl⟩
theorem dX0_easterByRests_89 : At mX0_easterByRests 89 .iadd 1 90 := ⟨by decide +kernel, rfl⟩
theorem dX0_easterByRests_90 : AtK mX0_easterByRests 90 (iZ 451) 93 := Or.inr (Or.inr (Or.inl ⟨451, by decide +kernel, by decide, rfl⟩))
theorem dX0_easterByRests_93 : At mX0_easterByRests 93 .idiv 1 94 := ⟨by decide +kernel, rfl⟩
theorem dX0_easterByRests_94 : AtSI mX0_easterByRests 94 7 96 := ⟨Or.inl ⟨by decide +kernel, rfl⟩, by decide⟩
theorem dX0_easterByRests_96 : AtI mX0_easterByRests 96 5 98 := Or.inl ⟨by decide +kernel, rfl⟩
theorem dX0_easterByRests_98 : AtI mX0_easterByRests 98 6 100 := Or.inl ⟨by decide +kernel, rfl⟩
theorem dX0_easterByRests_100 : At mX0_easterByRests 100 .iadd 1 101 := ⟨by decide +kernel, rfl⟩
theorem dX0_easterByRests_101 : AtK mX0_easterByRests 101 (iZ 7) 103 := Or.inr (Or.inl ⟨7, by decide +kernel, by decide, rfl⟩)
theorem dX0_easterByRests_103 : AtI mX0_easterByRests 103 7 105 := Or.inl ⟨by decide +kernel, rfl⟩
theorem dX0_easterByRests_105 : At mX0_easterByRests 105 .imul 1 106 := ⟨by decide +kernel, rfl⟩
theorem dX0_easterByRests_106 : At mX0_easterByRests 106 .isub 1 107 := ⟨by decide +kernel, rfl⟩
theorem dX0_easterByRests_107 : AtK mX0_easterByRests 107 (iZ 114) 109 := Or.inr (Or.inl ⟨114, by decide +kernel, by decide, rfl⟩)
theorem dX0_easterByRests_109 : At mX0_easterByRests 109 .iadd 1 110 := ⟨by decide +kernel, rfl⟩
theorem dX0_easterByRests_110 : AtSI mX0_easterByRests 110 8 112 := ⟨Or.inl ⟨by decide +kernel, rfl⟩, by decide⟩
theorem dX0_easterByRests_112 : AtK mX0_easterByRests 112 (iZ 100) 114 := Or.inr (Or.inl ⟨100, by decide +kernel, by decide, rfl⟩)
theorem dX0_easterByRests_114 : AtI mX0_easterByRests 114 8 116 := Or.inl ⟨by decide +kernel, rfl⟩
theorem dX0_easterByRests_116 : AtK mX0_easterByRests 116 (iZ 31) 118 := Or.inr (Or.inl ⟨31, by decide +kernel, by decide, rfl⟩)
theorem dX0_easterByRests_118 : At mX0_easterByRests 118 .idiv 1 119 := ⟨by decide +kernel, rfl⟩
theorem dX0_easterByRests_119 : At mX0_easterByRests 119 .imul 1 120 := ⟨by decide +kernel, rfl⟩
theorem dX0_easterByRests_120 : AtI mX0_easterByRests 120 8 122 := Or.inl ⟨by decide +kernel, rfl⟩
theorem dX0_easterByRests_122 : AtK mX0_easterByRests 122 (iZ 31) 124 := Or.inr (Or.inl ⟨31, by decide +kernel, by decide, rfl⟩)
theorem dX0_easterByRests_124 : At mX0_easterByRests 124 .irem 1 125 := ⟨by decide +kernel, rfl⟩
theorem dX0_easterByRests_125 : At mX0_easterByRests 125 .iadd 1 126 := ⟨by decide +kernel, rfl⟩
theorem dX0_easterByRests_126 : AtK mX0_easterByRests 126 (iZ 1) 127 := Or.inl ⟨1, by decide +kernel, by decide, rfl⟩
theorem dX0_easterByRests_127 : At mX0_easterByRests 127 .iadd 1 128 := ⟨by decide +kernel, rfl⟩
theorem dX0_easterByRests_128 : At mX0_easterByRests 128 .ireturn 1 129 := ⟨by decide +kernel, rfl⟩
theorem dJ6_bitCount_0f7a4_0 : AtI mJ6_bitCount_0f7a4 0 0 1 := Or.inr ⟨0, by decide +kernel, rfl, rfl⟩
theorem dJ6_bitCount_0f7a4_1 : AtI mJ6_bitCount_0f7a4 1 0 2 := Or.inr ⟨0, by decide +kernel, rfl, rfl⟩
theorem dJ6_bitCount_0f7a4_2 : AtK mJ6_bitCount_0f7a4 2 (iZ 1) 3 := Or.inl ⟨1, by decide +kernel, by decide, rfl⟩
theorem dJ6_bitCount_0f7a4_3 : At mJ6_bitCount_0f7a4 3 .iushr 1 4 := ⟨by decide +kernel, rfl⟩
theorem dJ6_bitCount_0f7a4_4 : AtK mJ6_bitCount_0f7a4 4 (iZ 1431655765) 7 := Or.inr (Or.inr (Or.inr (Or.inr ⟨265, 541, by decide +kernel, by decide +kernel, rfl⟩)))
theorem dJ6_bitCount_0f7a4_7 : At mJ6_bitCount_0f7a4 7 .iand 1 8 := ⟨by decide +kernel, rfl⟩
theorem dJ6_bitCount_0f7a4_8 : At mJ6_bitCount_0f7a4 8 .isub 1 9 := ⟨by decide +kernel, rfl⟩
theorem dJ6_bitCount_0f7a4_9 : AtSI mJ6_bitCount_0f7a4 9 0 10 := ⟨Or.inr ⟨0, by decide +kernel, rfl, rfl⟩, by decide⟩
theorem dJ6_bitCount_0f7a4_10 : AtI mJ6_bitCount_0f7a4 10 0 11 := Or.inr ⟨0, by decide +kernel, rfl, rfl⟩
theorem dJ6_bitCount_0f7a4_11 : AtK mJ6_bitCount_0f7a4 11 (iZ 858993459) 14 := Or.inr (Or.inr (Or.inr (Or.inr ⟨266, 542, by decide +kernel, by decide +kernel, rfl⟩)))
theorem dJ6_bitCount_0f7a4_14 : At mJ6_bitCount_0f7a4 14 .iand 1 15 := ⟨by decide +kernel, rfl⟩
theorem dJ6_bitCount_0f7a4_15 : AtI mJ6_bitCount_0f7a4 15 0 16 := Or.inr ⟨0, by decide +kernel, rfl, rfl⟩
theorem dJ6_bitCount_0f7a4_16 : AtK mJ6_bitCount_0f7a4 16 (iZ 2) 17 := Or.inl ⟨2, by decide +kernel, by decide, rfl⟩
theorem dJ6_bitCount_0f7a4_17 : At mJ6_bitCount_0f7a4 17 .iushr 1 18 := ⟨by decide +kernel, rfl⟩
theorem dJ6_bitCount_0f7a4_18 : AtK mJ6_bitCount_0f7a4 18 (iZ 858993459) 21 := Or.inr (Or.inr (Or.inr (Or.inr ⟨266, 542, by decide +kernel, by decide +kernel, rfl⟩)))
theorem dJ6_bitCount_0f7a4_21 : At mJ6_bitCount_0f7a4 21 .iand 1 22 := ⟨by decide +kernel, rfl⟩
theorem dJ6_bitCount_0f7a4_22 : At mJ6_bitCount_0f7a4 22 .iadd 1 23 := ⟨by decide +kernel, rfl⟩
theorem dJ6_bitCount_0f7a4_23 : AtSI mJ6_bitCount_0f7a4 23 0 24 := ⟨Or.inr ⟨0, by decide +kernel, rfl, rfl⟩, by decide⟩
theorem dJ6_bitCount_0f7a4_24 : AtI mJ6_bitCount_0f7a4 24 0 25 := Or.inr ⟨0, by decide +kernel, rfl, rfl⟩
theorem dJ6_bitCount_0f7a4_25 : AtI mJ6_bitCount_0f7a4 25 0 26 := Or.inr ⟨0, by decide +kernel, rfl, rfl⟩
theorem dJ6_bitCount_0f7a4_26 : AtK mJ6_bitCount_0f7a4 26 (iZ 4) 27 := Or.inl ⟨4, by decide +kernel, by decide, rfl⟩
theorem dJ6_bitCount_0f7a4_27 : At mJ6_bitCount_0f7a4 27 .iushr 1 28 := ⟨by decide +kernel, rfl⟩
theorem dJ6_bitCount_0f7a4_28 : At mJ6_bitCount_0f7a4 28 .iadd 1 29 := ⟨by decide +kernel, rfl⟩
theorem dJ6_bitCount_0f7a4_29 : AtK mJ6_bitCount_0f7a4 29 (iZ 252645135) 32 := Or.inr (Or.inr (Or.inr (Or.inr ⟨267, 543, by decide +kernel, by decide +kernel, rfl⟩)))
theorem dJ6_bitCount_0f7a4_32 : At mJ6_bitCount_0f7a4 32 .iand 1 33 := ⟨by decide +kernel, rfl⟩
theorem dJ6_bitCount_0f7a4_33 : AtSI mJ6_bitCount_0f7a4 33 0 34 := ⟨Or.inr ⟨0, by decide +kernel, rfl, rfl⟩, by decide⟩
theorem dJ6_bitCount_0f7a4_34 : AtI mJ6_bitCount_0f7a4 34 0 35 := Or.inr ⟨0, by decide +kernel, rfl, rfl⟩
theorem dJ6_bitCount_0f7a4_35 : AtI mJ6_bitCount_0f7a4 35 0 36 := Or.inr ⟨0, by decide +kernel, rfl, rfl⟩
theorem dJ6_bitCount_0f7a4_36 : AtK mJ6_bitCount_0f7a4 36 (iZ 8) 38 := Or.inr (Or.inl ⟨8, by decide +kernel, by decide, rfl⟩)
theorem dJ6_bitCount_0f7a4_38 : At mJ6_bitCount_0f7a4 38 .iushr 1 39 := ⟨by decide +kernel, rfl⟩
theorem dJ6_bitCount_0f7a4_39 : At mJ6_bitCount_0f7a4 39 .iadd 1 40 := ⟨by decide +kernel, rfl⟩
theorem dJ6_bitCount_0f7a4_40 : AtSI mJ6_bitCount_0f7a4 40 0 41 := ⟨Or.inr ⟨0, by decide +kernel, rfl, rfl⟩, by decide⟩
theorem dJ6_bitCount_0f7a4_41 : AtI mJ6_bitCount_0f7a4 41 0 42 := Or.inr ⟨0, by decide +kernel, rfl, rfl⟩
theorem dJ6_bitCount_0f7a4_42 : AtI mJ6_bitCount_0f7a4 42 0 43 := Or.inr ⟨0, by decide +kernel, rfl, rfl⟩
theorem dJ6_bitCount_0f7a4_43 : AtK mJ6_bitCount_0f7a4 43 (iZ 16) 45 := Or.inr (Or.inl ⟨16, by decide +kernel, by decide, rfl⟩)
theorem dJ6_bitCount_0f7a4_45 : At mJ6_bitCount_0f7a4 45 .iushr 1 46 := ⟨by decide +kernel, rfl⟩
theorem dJ6_bitCount_0f7a4_46 : At mJ6_bitCount_0f7a4 46 .iadd 1 47 := ⟨by decide +kernel, rfl⟩
theorem dJ6_bitCount_0f7a4_47 : AtSI mJ6_bitCount_0f7a4 47 0 48 := ⟨Or.inr ⟨0, by decide +kernel, rfl, rfl⟩, by decide⟩
theorem dJ6_bitCount_0f7a4_48 : AtI mJ6_bitCount_0f7a4 48 0 49 := Or.inr ⟨0, by decide +kernel, rfl, rfl⟩
theorem dJ6_bitCount_0f7a4_49 : AtK mJ6_bitCount_0f7a4 49 (iZ 63) 51 := Or.inr (Or.inl ⟨63, by decide +kernel, by decide, rfl⟩)
theorem dJ6_bitCount_0f7a4_51 : At mJ6_bitCount_0f7a4 51 .iand 1 52 := ⟨by decide +kernel, rfl⟩
theorem dJ6_bitCount_0f7a4_52 : At mJ6_bitCount_0f7a4 52 .ireturn 1 53 := ⟨by decide +kernel, rfl⟩
theorem dJ9_max_7cf53_0 : AtI mJ9_max_7cf53 0 0 1 := Or.inr ⟨0, by decide +kernel, rfl, rfl⟩
theorem dJ9_max_7cf53_1 : AtI mJ9_max_7cf53 1 1 2 := Or.inr ⟨1, by decide +kernel, rfl, rfl⟩
theorem dJ9_max_7cf53_2 : AtJ mJ9_max_7cf53 2 (.if_icmp .lt) 5 9 := ⟨7, by decide +kernel, rfl, by decide⟩
theorem dJ9_max_7cf53_5 : AtI mJ9_max_7cf53 5 0 6 := Or.inr ⟨0, by decide +kernel, rfl, rfl⟩
theorem dJ9_max_7cf53_6 : AtG mJ9_max_7cf53 6 10 := ⟨4, by decide +kernel, by decide⟩
theorem dJ9_max_7cf53_9 : AtI mJ9_max_7cf53 9 1 10 := Or.inr ⟨1, by decide +kernel, rfl, rfl⟩
theorem dJ9_max_7cf53_10 : At mJ9_max_7cf53 10 .ireturn 1 11 := ⟨by decide +kernel, rfl⟩
theorem dJ9_min_7cf53_0 : AtI mJ9_min_7cf53 0 0 1 := Or.inr ⟨0, by decide +kernel, rfl, rfl⟩
theorem dJ9_min_7cf53_1 : AtI mJ9_min_7cf53 1 1 2 := Or.inr ⟨1, by decide +kernel, rfl, rfl⟩
theorem dJ9_min_7cf53_2 : AtJ mJ9_min_7cf53 2 (.if_icmp .gt) 5 9 := ⟨7, by decide +kernel, rfl, by decide⟩
theorem dJ9_min_7cf53_5 : AtI mJ9_min_7cf53 5 0 6 := Or.inr ⟨0, by decide +kernel, rfl, rfl⟩
theorem dJ9_min_7cf53_6 : AtG mJ9_min_7cf53 6 10 := ⟨4, by decide +kernel, by decide⟩
theorem dJ9_min_7cf53_9 : AtI mJ9_min_7cf53 9 1 10 := Or.inr ⟨1, by decide +kernel, rfl, rfl⟩
theorem dJ9_min_7cf53_10 : At mJ9_min_7cf53 10 .ireturn 1 11 := ⟨by decide +kernel, rfl⟩
theorem dJxa1e45_init_da8c8_0 : AtA mJxa1e45_init_da8c8 0 0 1 := Or.inr ⟨0, by decide +kernel, rfl, rfl⟩
theorem dJxa1e45_init_da8c8_1 : AtO mJxa1e45_init_da8c8 1 4 := ⟨1, 102, 89, 90, by decide +kernel, rfl, by decide +kernel, by decide +kernel, by decide +kernel, by decide, by decide⟩
theorem dJxa1e45_init_da8c8_4 : At mJxa1e45_init_da8c8 4 .return_ 1 5 := ⟨by decide +kernel, rfl⟩
theorem dJxc12de_init_da8c8_0 : AtA mJxc12de_init_da8c8 0 0 1 := Or.inr ⟨0, by decide +kernel, rfl, rfl⟩
theorem dJxc12de_init_da8c8_1 : AtNI mJxc12de_init_da8c8 1 mJxa1e45_init_da8c8 0 4 := ⟨1, 99, 100, by decide +kernel, rfl, by decide +kernel, by decide +kernel, rfl, rfl, rfl, ⟨⟨101, by decide +kernel⟩, ⟨57, by decide +kernel⟩, ⟨by decide, by decide⟩, by decide +kernel, by decide, by decide⟩⟩
theorem dJxc12de_init_da8c8_4 : AtA mJxc12de_init_da8c8 4 0 5 := Or.inr ⟨0, by decide +kernel, rfl, rfl⟩
theorem dJxc12de_init_da8c8_5 : AtK mJxc12de_init_da8c8 5 (iZ 0) 6 := Or.inl ⟨0, by decide +kernel, by decide, rfl⟩
theorem dJxc12de_init_da8c8_6 : AtP mJxc12de_init_da8c8 6 0 0 (.int) 9 := ⟨7, (RJx4a65c, TJx4a65c, 3), by decide +kernel, rfl, rfl, by decide, Or.inl ⟨107, by decide +kernel⟩, by decide +kernel, Or.inl rfl⟩
theorem dJxc12de_init_da8c8_9 : At mJxc12de_init_da8c8 9 .return_ 1 10 := ⟨by decide +kernel, rfl⟩
theorem dJx4a65c_init_da8c8_0 : AtA mJx4a65c_init_da8c8 0 0 1 := Or.inr ⟨0, by decide +kernel, rfl, rfl⟩
theorem dJx4a65c_init_da8c8_1 : AtNI mJx4a65c_init_da8c8 1 mJxc12de_init_da8c8 0 4 := ⟨1, 96, 97, by decide +kernel, rfl, by decide +kernel, by decide +kernel, rfl, rfl, rfl, ⟨⟨98, by decide +kernel⟩, ⟨58, by decide +kernel⟩, ⟨by decide, by decide⟩, by decide +kernel, by decide, by decide⟩⟩
theorem dJx4a65c_init_da8c8_4 : AtA mJx4a65c_init_da8c8 4 0 5 := Or.inr ⟨0, by decide +kernel, rfl, rfl⟩
theorem dJx4a65c_init_da8c8_5 : AtGS mJx4a65c_init_da8c8 5 "java/util/ArrayList" "DEFAULTCAPACITY_EMPTY_ELEMENTDATA" "[Ljava/lang/Object;" 8 := ⟨39, 103, by decide +kernel, rfl, by decide +kernel⟩
theorem dJx4a65c_init_da8c8_8 : AtP mJx4a65c_init_da8c8 8 0 1 (.array (.object "java/lang/Object")) 11 := ⟨9, (RJx4a65c, TJx4a65c, 3), by decide +kernel, rfl, rfl, by decide, Or.inl ⟨105, by decide +kernel⟩, by decide +kernel, Or.inl rfl⟩
theorem dJx4a65c_init_da8c8_11 : At mJx4a65c_init_da8c8 11 .return_ 1 12 := ⟨by decide +kernel, rfl⟩
theorem dJx4a65c_grow_92f84_0 : AtA mJx4a65c_grow_92f84 0 0 1 := Or.inr ⟨0, by decide +kernel, rfl, rfl⟩
theorem dJx4a65c_grow_92f84_1 : AtF mJx4a65c_grow_92f84 1 0 1 4 := ⟨9, (RJx4a65c, TJx4a65c, 3), by decide +kernel, rfl, rfl, by decide, Or.inl (Or.inl ⟨105, by decide +kernel⟩)⟩
theorem dJx4a65c_grow_92f84_4 : At mJx4a65c_grow_92f84 4 .arraylength 1 5 := ⟨by decide +kernel, rfl⟩
theorem dJx4a65c_grow_92f84_5 : AtSI mJx4a65c_grow_92f84 5 2 6 := ⟨Or.inr ⟨2, by decide +kernel, rfl, rfl⟩, by decide⟩
theorem dJx4a65c_grow_92f84_6 : AtI mJx4a65c_grow_92f84 6 2 7 := Or.inr ⟨2, by decide +kernel, rfl, rfl⟩
theorem dJx4a65c_grow_92f84_7 : AtJ mJx4a65c_grow_92f84 7 (.ifCond .gt) 10 20 := ⟨13, by decide +kernel, rfl, by decide⟩
theorem dJx4a65c_grow_92f84_10 : AtA mJx4a65c_grow_92f84 10 0 11 := Or.inr ⟨0, by decide +kernel, rfl, rfl⟩
theorem dJx4a65c_grow_92f84_11 : AtF mJx4a65c_grow_92f84 11 0 1 14 := ⟨9, (RJx4a65c, TJx4a65c, 3), by decide +kernel, rfl, rfl, by decide, Or.inl (Or.inl ⟨105, by decide +kernel⟩)⟩
theorem dJx4a65c_grow_92f84_14 : AtGS mJx4a65c_grow_92f84 14 "java/util/ArrayList" "DEFAULTCAPACITY_EMPTY_ELEMENTDATA" "[Ljava/lang/Object;" 17 := ⟨39, 103, by decide +kernel, rfl, by decide +kernel⟩
theorem dJx4a65c_grow_92f84_17 : AtJ mJx4a65c_grow_92f84 17 (.if_acmp .eq) 20 45 := ⟨28, by decide +kernel, rfl, by decide⟩
theorem dJx4a65c_grow_92f84_20 : AtI mJx4a65c_grow_92f84 20 2 21 := Or.inr ⟨2, by decide +kernel, rfl, rfl⟩
theorem dJx4a65c_grow_92f84_21 : AtI mJx4a65c_grow_92f84 21 1 22 := Or.inr ⟨1, by decide +kernel, rfl, rfl⟩
theorem dJx4a65c_grow_92f84_22 : AtI mJx4a65c_grow_92f84 22 2 23 := Or.inr ⟨2, by decide +kernel, rfl, rfl⟩
theorem dJx4a65c_grow_92f84_23 : At mJx4a65c_grow_92f84 23 .isub 1 24 := ⟨by decide +kernel, rfl⟩
theorem dJx4a65c_grow_92f84_24 : AtI mJx4a65c_grow_92f84 24 2 25 := Or.inr ⟨2, by decide +kernel, rfl, rfl⟩
theorem dJx4a65c_grow_92f84_25 : AtK mJx4a65c_grow_92f84 25 (iZ 1) 26 := Or.inl ⟨1, by decide +kernel, by decide, rfl⟩
theorem dJx4a65c_grow_92f84_26 : At mJx4a65c_grow_92f84 26 .ishr 1 27 := ⟨by decide +kernel, rfl⟩
theorem dJx4a65c_grow_92f84_27 : AtS mJx4a65c_grow_92f84 27 mJ8_newLength_cabcc 3 30 := ⟨73, 379, 380, by decide +kernel, rfl, by decide +kernel, by decide +kernel, rfl, ⟨⟨381, by decide +kernel⟩, ⟨72, by decide +kernel⟩, ⟨by decide, by decide⟩, by decide +kernel, by decide, by decide⟩⟩
theorem dJx4a65c_grow_92f84_30 : AtSI mJx4a65c_grow_92f84 30 3 31 := ⟨Or.inr ⟨3, by decide +kernel, rfl, rfl⟩, by decide⟩
theorem dJx4a65c_grow_92f84_31 : AtA mJx4a65c_grow_92f84 31 0 32 := Or.inr ⟨0, by decide +kernel, rfl, rfl⟩
theorem dJx4a65c_grow_92f84_32 : AtA mJx4a65c_grow_92f84 32 0 33 := Or.inr ⟨0, by decide +kernel, rfl, rfl⟩
theorem dJx4a65c_grow_92f84_33 : AtF mJx4a65c_grow_92f84 33 0 1 36 := ⟨9, (RJx4a65c, TJx4a65c, 3), by decide +kernel, rfl, rfl, by decide, Or.inl (Or.inl ⟨105, by decide +kernel⟩)⟩
theorem dJx4a65c_grow_92f84_36 : AtI mJx4a65c_grow_92f84 36 3 37 := Or.inr ⟨3, by decide +kernel, rfl, rfl⟩
theorem dJx4a65c_grow_92f84_37 : AtS mJx4a65c_grow_92f84 37 mJ7_copyOf_1904c 2 40 := ⟨66, 389, 390, by decide +kernel, rfl, by decide +kernel, by decide +kernel, rfl, ⟨⟨391, by decide +kernel⟩, ⟨61, by decide +kernel⟩, ⟨by decide, by decide⟩, by decide +kernel, by decide, by decide⟩⟩
theorem dJx4a65c_grow_92f84_40 : At mJx4a65c_grow_92f84 40 .dup_x1 1 41 := ⟨by decide +kernel, rfl⟩
theorem dJx4a65c_grow_92f84_41 : AtP mJx4a65c_grow_92f84 41 0 1 (.array (.object "java/lang/Object")) 44 := ⟨9, (RJx4a65c, TJx4a65c, 3), by decide +kernel, rfl, rfl, by decide, Or.inl ⟨105, by decide +kernel⟩, by decide +kernel, Or.inl rfl⟩
theorem dJx4a65c_grow_92f84_44 : At mJx4a65c_grow_92f84 44 .areturn 1 45 := ⟨by decide +kernel, rfl⟩
theorem dJx4a65c_grow_92f84_45 : AtA mJx4a65c_grow_92f84 45 0 46 := Or.inr ⟨0, by decide +kernel, rfl, rfl⟩
theorem dJx4a65c_grow_92f84_46 : AtK mJx4a65c_grow_92f84 46 (iZ 10) 48 := Or.inr (Or.inl ⟨10, by decide +kernel, by decide, rfl⟩)
theorem dJx4a65c_grow_92f84_48 : AtI mJx4a65c_grow_92f84 48 1 49 := Or.inr ⟨1, by decide +kernel, rfl, rfl⟩
theorem dJx4a65c_grow_92f84_49 : AtS mJx4a65c_grow_92f84 49 mJ9_max_7cf53 2 52 := ⟨79, 422, 383, by decide +kernel, rfl, by decide +kernel, by decide +kernel, rfl, ⟨⟨384, by decide +kernel⟩, ⟨73, by decide +kernel⟩, ⟨by decide, by decide⟩, by decide +kernel, by decide, by decide⟩⟩
theorem dJx4a65c_grow_92f84_52 : AtNQ mJx4a65c_grow_92f84 52 55 := ⟨7, 423, by decide +kernel, rfl, by decide +kernel⟩
theorem dJx4a65c_grow_92f84_55 : At mJx4a65c_grow_92f84 55 .dup_x1 1 56 := ⟨by decide +kernel, rfl⟩
theorem dJx4a65c_grow_92f84_56 : AtP mJx4a65c_grow_92f84 56 0 1 (.array (.object "java/lang/Object")) 59 := ⟨9, (RJx4a65c, TJx4a65c, 3), by decide +kernel, rfl, rfl, by decide, Or.inl ⟨105, by decide +kernel⟩, by decide +kernel, Or.inl rfl⟩
theorem dJx4a65c_grow_92f84_59 : At mJx4a65c_grow_92f84 59 .areturn 1 60 := ⟨by decide +kernel, rfl⟩
theorem dJx4a65c_grow_d5877_0 : AtA mJx4a65c_grow_d5877 0 0 1 := Or.inr ⟨0, by decide +kernel, rfl, rfl⟩
theorem dJx4a65c_grow_d5877_1 : AtA mJx4a65c_grow_d5877 1 0 2 := Or.inr ⟨0, by decide +kernel, rfl, rfl⟩
theorem dJx4a65c_grow_d5877_2 : AtF mJx4a65c_grow_d5877 2 0 2 5 := ⟨48, (RJx4a65c, TJx4a65c, 3), by decide +kernel, rfl, rfl, by decide, Or.inl (Or.inl ⟨106, by decide +kernel⟩)⟩
theorem dJx4a65c_grow_d5877_5 : AtK mJx4a65c_grow_d5877 5 (iZ 1) 6 := Or.inl ⟨1, by decide +kernel, by decide, rfl⟩
theorem dJx4a65c_grow_d5877_6 : At mJx4a65c_grow_d5877 6 .iadd 1 7 := ⟨by decide +kernel, rfl⟩
theorem dJx4a65c_grow_d5877_7 : AtV mJx4a65c_grow_d5877 7 mJx4a65c_grow_92f84 1 0 10 := ⟨69, 375, 377, 7, (RJx4a65c, TJx4a65c, 3), by decide +kernel, rfl, rfl, by decide +kernel, by decide +kernel, by decide +kernel, rfl, ⟨⟨378, by decide +kernel⟩, ⟨59, by decide +kernel⟩, ⟨by decide, by decide⟩, by decide +kernel, by decide, by decide⟩⟩
theorem dJx4a65c_grow_d5877_10 : At mJx4a65c_grow_d5877 10 .areturn 1 11 := ⟨by decide +kernel, rfl⟩
theorem dJx4a65c_size_8abf5_0 : AtA mJx4a65c_size_8abf5 0 0 1 := Or.inr ⟨0, by decide +kernel, rfl, rfl⟩
theorem dJx4a65c_size_8abf5_1 : AtF mJx4a65c_size_8abf5 1 0 2 4 := ⟨48, (RJx4a65c, TJx4a65c, 3), by decide +kernel, rfl, rfl, by decide, Or.inl (Or.inl ⟨106, by decide +kernel⟩)⟩
theorem dJx4a65c_size_8abf5_4 : At mJx4a65c_size_8abf5 4 .ireturn 1 5 := ⟨by decide +kernel, rfl⟩
theorem dJx4a65c_isEmpty_aae02_0 : AtA mJx4a65c_isEmpty_aae02 0 0 1 := Or.inr ⟨0, by decide +kernel, rfl, rfl⟩
theorem dJx4a65c_isEmpty_aae02_1 : AtF mJx4a65c_isEmpty_aae02 1 0 2 4 := ⟨48, (RJx4a65c, TJx4a65c, 3), by decide +kernel, rfl, rfl, by decide, Or.inl (Or.inl ⟨106, by decide +kernel⟩)⟩
theorem dJx4a65c_isEmpty_aae02_4 : AtJ mJx4a65c_isEmpty_aae02 4 (.ifCond .ne) 7 11 := ⟨7, by decide +kernel, rfl, by decide⟩
theorem dJx4a65c_isEmpty_aae02_7 : AtK mJx4a65c_isEmpty_aae02 7 (iZ 1) 8 := Or.inl ⟨1, by decide +kernel, by decide, rfl⟩
theorem dJx4a65c_isEmpty_aae02_8 : AtG mJx4a65c_isEmpty_aae02 8 12 := ⟨4, by decide +kernel, by decide⟩
theorem dJx4a65c_isEmpty_aae02_11 : AtK mJx4a65c_isEmpty_aae02 11 (iZ 0) 12 := Or.inl ⟨0, by decide +kernel, by decide, rfl⟩
theorem dJx4a65c_isEmpty_aae02_12 : At mJx4a65c_isEmpty_aae02 12 .ireturn 1 13 := ⟨by decide +kernel, rfl⟩
theorem dJx4a65c_elementData_915e3_0 : AtA mJx4a65c_elementData_915e3 0 0 1 := Or.inr ⟨0, by decide +kernel, rfl, rfl⟩
theorem dJx4a65c_elementData_915e3_1 : AtF mJx4a65c_elementData_915e3 1 0 1 4 := ⟨9, (RJx4a65c, TJx4a65c, 3), by decide +kernel, rfl, rfl, by decide, Or.inl (Or.inl ⟨105, by decide +kernel⟩)⟩
theorem dJx4a65c_elementData_915e3_4 : AtI mJx4a65c_elementData_915e3 4 1 5 := Or.inr ⟨1, by decide +kernel, rfl, rfl⟩
theorem dJx4a65c_elementData_915e3_5 : At mJx4a65c_elementData_915e3 5 .aaload 1 6 := ⟨by decide +kernel, rfl⟩
theorem dJx4a65c_elementData_915e3_6 : At mJx4a65c_elementData_915e3 6 .areturn 1 7 := ⟨by decide +kernel, rfl⟩
theorem dJx4a65c_get_915e3_0 : AtI mJx4a65c_get_915e3 0 1 1 := Or.inr ⟨1, by decide +kernel, rfl, rfl⟩
theorem dJx4a65c_get_915e3_1 : AtA mJx4a65c_get_915e3 1 0 2 := Or.inr ⟨0, by decide +kernel, rfl, rfl⟩
theorem dJx4a65c_get_915e3_2 : AtF mJx4a65c_get_915e3 2 0 2 5 := ⟨48, (RJx4a65c, TJx4a65c, 3), by decide +kernel, rfl, rfl, by decide, Or.inl (Or.inl ⟨106, by decide +kernel⟩)⟩
theorem dJx4a65c_get_915e3_5 : AtS mJx4a65c_get_915e3 5 mJ15_checkIndex_7cf53 2 8 := ⟨118, 187, 188, by decide +kernel, rfl, by decide +kernel, by decide +kernel, rfl, ⟨⟨189, by decide +kernel⟩, ⟨76, by decide +kernel⟩, ⟨by decide, by decide⟩, by decide +kernel, by decide, by decide⟩⟩
theorem dJx4a65c_get_915e3_8 : At mJx4a65c_get_915e3 8 .pop 1 9 := ⟨by decide +kernel, rfl⟩
theorem dJx4a65c_get_915e3_9 : AtA mJx4a65c_get_915e3 9 0 10 := Or.inr ⟨0, by decide +kernel, rfl, rfl⟩
theorem dJx4a65c_get_915e3_10 : AtI mJx4a65c_get_915e3 10 1 11 := Or.inr ⟨1, by decide +kernel, rfl, rfl⟩
theorem dJx4a65c_get_915e3_11 : AtV mJx4a65c_get_915e3 11 mJx4a65c_elementData_915e3 1 0 14 := ⟨123, 193, 194, 195, (RJx4a65c, TJx4a65c, 3), by decide +kernel, rfl, rfl, by decide +kernel, by decide +kernel, by decide +kernel, rfl, ⟨⟨196, by decide +kernel⟩, ⟨59, by decide +kernel⟩, ⟨by decide, by decide⟩, by decide +kernel, by decide, by decide⟩⟩
theorem dJx4a65c_get_915e3_14 : At mJx4a65c_get_915e3 14 .areturn 1 15 := ⟨by decide +kernel, rfl⟩
theorem dJx4a65c_add_72be8_0 : AtI mJx4a65c_add_72be8 0 3 1 := Or.inr ⟨3, by decide +kernel, rfl, rfl⟩
theorem dJx4a65c_add_72be8_1 : AtA mJx4a65c_add_72be8 1 2 2 := Or.inr ⟨2, by decide +kernel, rfl, rfl⟩
theorem dJx4a65c_add_72be8_2 : At mJx4a65c_add_72be8 2 .arraylength 1 3 := ⟨by decide +kernel, rfl⟩
theorem dJx4a65c_add_72be8_3 : AtJ mJx4a65c_add_72be8 3 (.if_icmp .ne) 6 11 := ⟨8, by decide +kernel, rfl, by decide⟩
theorem dJx4a65c_add_72be8_6 : AtA mJx4a65c_add_72be8 6 0 7 := Or.inr ⟨0, by decide +kernel, rfl, rfl⟩
theorem dJx4a65c_add_72be8_7 : AtV mJx4a65c_add_72be8 7 mJx4a65c_grow_d5877 0 0 10 := ⟨129, 371, 373, 6, (RJx4a65c, TJx4a65c, 3), by decide +kernel, rfl, rfl, by decide +kernel, by decide +kernel, by decide +kernel, rfl, ⟨⟨374, by decide +kernel⟩, ⟨59, by decide +kernel⟩, ⟨by decide, by decide⟩, by decide +kernel, by decide, by decide⟩⟩
theorem dJx4a65c_add_72be8_10 : AtSA mJx4a65c_add_72be8 10 2 11 := ⟨Or.inr ⟨2, by decide +kernel, rfl, rfl⟩, by decide⟩
theorem dJx4a65c_add_72be8_11 : AtA mJx4a65c_add_72be8 11 2 12 := Or.inr ⟨2, by decide +kernel, rfl, rfl⟩
theorem dJx4a65c_add_72be8_12 : AtI mJx4a65c_add_72be8 12 3 13 := Or.inr ⟨3, by decide +kernel, rfl, rfl⟩
theorem dJx4a65c_add_72be8_13 : AtA mJx4a65c_add_72be8 13 1 14 := Or.inr ⟨1, by decide +kernel, rfl, rfl⟩
theorem dJx4a65c_add_72be8_14 : At mJx4a65c_add_72be8 14 .aastore 1 15 := ⟨by decide +kernel, rfl⟩
theorem dJx4a65c_add_72be8_15 : AtA mJx4a65c_add_72be8 15 0 16 := Or.inr ⟨0, by decide +kernel, rfl, rfl⟩
theorem dJx4a65c_add_72be8_16 : AtI mJx4a65c_add_72be8 16 3 17 := Or.inr ⟨3, by decide +kernel, rfl, rfl⟩
theorem dJx4a65c_add_72be8_17 : AtK mJx4a65c_add_72be8 17 (iZ 1) 18 := Or.inl ⟨1, by decide +kernel, by decide, rfl⟩
theorem dJx4a65c_add_72be8_18 : At mJx4a65c_add_72be8 18 .iadd 1 19 := ⟨by decide +kernel, rfl⟩
theorem dJx4a65c_add_72be8_19 : AtP mJx4a65c_add_72be8 19 0 2 (.int) 22 := ⟨48, (RJx4a65c, TJx4a65c, 3), by decide +kernel, rfl, rfl, by decide, Or.inl ⟨106, by decide +kernel⟩, by decide +kernel, Or.inl rfl⟩
theorem dJx4a65c_add_72be8_22 : At mJx4a65c_add_72be8 22 .return_ 1 23 := ⟨by decide +kernel, rfl⟩
theorem dJx4a65c_add_9ea2d_0 : AtA mJx4a65c_add_9ea2d 0 0 1 := Or.inr ⟨0, by decide +kernel, rfl, rfl⟩
theorem dJx4a65c_add_9ea2d_1 : At mJx4a65c_add_9ea2d 1 .dup 1 2 := ⟨by decide +kernel, rfl⟩
theorem dJx4a65c_add_9ea2d_2 : AtF mJx4a65c_add_9ea2d 2 0 0 5 := ⟨63, (RJx4a65c, TJx4a65c, 3), by decide +kernel, rfl, rfl, by decide, Or.inl (Or.inr ⟨108, 109, "java/util/ArrayList", by decide +kernel, by decide +kernel⟩)⟩
theorem dJx4a65c_add_9ea2d_5 : AtK mJx4a65c_add_9ea2d 5 (iZ 1) 6 := Or.inl ⟨1, by decide +kernel, by decide, rfl⟩
theorem dJx4a65c_add_9ea2d_6 : At mJx4a65c_add_9ea2d 6 .iadd 1 7 := ⟨by decide +kernel, rfl⟩
theorem dJx4a65c_add_9ea2d_7 : AtP mJx4a65c_add_9ea2d 7 0 0 (.int) 10 := ⟨63, (RJx4a65c, TJx4a65c, 3), by decide +kernel, rfl, rfl, by decide, Or.inr ⟨108, 109, "java/util/ArrayList", by decide +kernel, by decide +kernel⟩, by decide +kernel, Or.inl rfl⟩
theorem dJx4a65c_add_9ea2d_10 : AtA mJx4a65c_add_9ea2d 10 0 11 := Or.inr ⟨0, by decide +kernel, rfl, rfl⟩
theorem dJx4a65c_add_9ea2d_11 : AtA mJx4a65c_add_9ea2d 11 1 12 := Or.inr ⟨1, by decide +kernel, rfl, rfl⟩
theorem dJx4a65c_add_9ea2d_12 : AtA mJx4a65c_add_9ea2d 12 0 13 := Or.inr ⟨0, by decide +kernel, rfl, rfl⟩
theorem dJx4a65c_add_9ea2d_13 : AtF mJx4a65c_add_9ea2d 13 0 1 16 := ⟨9, (RJx4a65c, TJx4a65c, 3), by decide +kernel, rfl, rfl, by decide, Or.inl (Or.inl ⟨105, by decide +kernel⟩)⟩
theorem dJx4a65c_add_9ea2d_16 : AtA mJx4a65c_add_9ea2d 16 0 17 := Or.inr ⟨0, by decide +kernel, rfl, rfl⟩
theorem dJx4a65c_add_9ea2d_17 : AtF mJx4a65c_add_9ea2d 17 0 2 20 := ⟨48, (RJx4a65c, TJx4a65c, 3), by decide +kernel, rfl, rfl, by decide, Or.inl (Or.inl ⟨106, by decide +kernel⟩)⟩
theorem dJx4a65c_add_9ea2d_20 : AtV mJx4a65c_add_9ea2d 20 mJx4a65c_add_72be8 3 0 23 := ⟨131, 367, 369, 5, (RJx4a65c, TJx4a65c, 3), by decide +kernel, rfl, rfl, by decide +kernel, by decide +kernel, by decide +kernel, rfl, ⟨⟨370, by decide +kernel⟩, ⟨59, by decide +kernel⟩, ⟨by decide, by decide⟩, by decide +kernel, by decide, by decide⟩⟩
theorem dJx4a65c_add_9ea2d_23 : AtK mJx4a65c_add_9ea2d 23 (iZ 1) 24 := Or.inl ⟨1, by decide +kernel, by decide, rfl⟩
theorem dJx4a65c_add_9ea2d_24 : At mJx4a65c_add_9ea2d 24 .ireturn 1 25 := ⟨by decide +kernel, rfl⟩
theorem dJ7_fill_53178_0 : AtK mJ7_fill_53178 0 (iZ 0) 1 := Or.inl ⟨0, by decide +kernel, by decide, rfl⟩
theorem dJ7_fill_53178_1 : AtSI mJ7_fill_53178 1 2 2 := ⟨Or.inr ⟨2, by decide +kernel, rfl, rfl⟩, by decide⟩
theorem dJ7_fill_53178_2 : AtA mJ7_fill_53178 2 0 3 := Or.inr ⟨0, by decide +kernel, rfl, rfl⟩
theorem dJ7_fill_53178_3 : At mJ7_fill_53178 3 .arraylength 1 4 := ⟨by decide +kernel, rfl⟩
theorem dJ7_fill_53178_4 : AtSI mJ7_fill_53178 4 3 5 := ⟨Or.inr ⟨3, by decide +kernel, rfl, rfl⟩, by decide⟩
theorem dJ7_fill_53178_5 : AtI mJ7_fill_53178 5 2 6 := Or.inr ⟨2, by decide +kernel, rfl, rfl⟩
theorem dJ7_fill_53178_6 : AtI mJ7_fill_53178 6 3 7 := Or.inr ⟨3, by decide +kernel, rfl, rfl⟩
theorem dJ7_fill_53178_7 : AtJ mJ7_fill_53178 7 (.if_icmp .ge) 10 20 := ⟨13, by decide +kernel, rfl, by decide⟩
theorem dJ7_fill_53178_10 : AtA mJ7_fill_53178 10 0 11 := Or.inr ⟨0, by decide +kernel, rfl, rfl⟩
theorem dJ7_fill_53178_11 : AtI mJ7_fill_53178 11 2 12 := Or.inr ⟨2, by decide +kernel, rfl, rfl⟩
theorem dJ7_fill_53178_12 : AtI mJ7_fill_53178 12 1 13 := Or.inr ⟨1, by decide +kernel, rfl, rfl⟩
theorem dJ7_fill_53178_13 : At mJ7_fill_53178 13 .iastore 1 14 := ⟨by decide +kernel, rfl⟩
theorem dJ7_fill_53178_14 : AtInc mJ7_fill_53178 14 2 (iZ 1) 17 := ⟨1, by decide +kernel, by decide, rfl, by decide⟩
theorem dJ7_fill_53178_17 : AtG mJ7_fill_53178 17 5 := ⟨(-12), by decide +kernel, by decide⟩
theorem dJ7_fill_53178_20 : At mJ7_fill_53178 20 .return_ 1 21 := ⟨by decide +kernel, rfl⟩
theorem dJ7_copyOf_1904c_0 : AtA mJ7_copyOf_1904c 0 0 1 := Or.inr ⟨0, by decide +kernel, rfl, rfl⟩
theorem dJ7_copyOf_1904c_1 : AtI mJ7_copyOf_1904c 1 1 2 := Or.inr ⟨1, by decide +kernel, rfl, rfl⟩
theorem dJ7_copyOf_1904c_2 : AtA mJ7_copyOf_1904c 2 0 3 := Or.inr ⟨0, by decide +kernel, rfl, rfl⟩
theorem dJ7_copyOf_1904c_6 : AtS mJ7_copyOf_1904c 6 mJ7_copyOf_6403c 3 9 := ⟨300, 410, 411, by decide +kernel, rfl, by decide +kernel, by decide +kernel, rfl, ⟨⟨412, by decide +kernel⟩, ⟨61, by decide +kernel⟩, ⟨by decide, by decide⟩, by decide +kernel, by decide, by decide⟩⟩
theorem dJ7_copyOf_1904c_9 : At mJ7_copyOf_1904c 9 .areturn 1 10 := ⟨by decide +kernel, rfl⟩
theorem dJ7_copyOf_6403c_0 : AtA mJ7_copyOf_6403c 0 2 1 := Or.inr ⟨2, by decide +kernel, rfl, rfl⟩
theorem dJ7_copyOf_6403c_3 : AtJ mJ7_copyOf_6403c 3 (.if_acmp .ne) 6 13 := ⟨10, by decide +kernel, rfl, by decide⟩
theorem dJ7_copyOf_6403c_6 : AtI mJ7_copyOf_6403c 6 1 7 := Or.inr ⟨1, by decide +kernel, rfl, rfl⟩
theorem dJ7_copyOf_6403c_7 : AtNQ mJ7_copyOf_6403c 7 10 := ⟨2, 415, by decide +kernel, rfl, by decide +kernel⟩
theorem dJ7_copyOf_6403c_10 : AtG mJ7_copyOf_6403c 10 24 := ⟨14, by decide +kernel, by decide⟩
theorem dJ7_copyOf_6403c_13 : AtA mJ7_copyOf_6403c 13 2 14 := Or.inr ⟨2, by decide +kernel, rfl, rfl⟩
theorem dJ7_copyOf_6403c_17 : AtI mJ7_copyOf_6403c 17 1 18 := Or.inr ⟨1, by decide +kernel, rfl, rfl⟩
theorem dJ7_copyOf_6403c_24 : AtSA mJ7_copyOf_6403c 24 3 25 := ⟨Or.inr ⟨3, by decide +kernel, rfl, rfl⟩, by decide⟩
theorem dJ7_copyOf_6403c_25 : AtA mJ7_copyOf_6403c 25 0 26 := Or.inr ⟨0, by decide +kernel, rfl, rfl⟩
theorem dJ7_copyOf_6403c_26 : AtK mJ7_copyOf_6403c 26 (iZ 0) 27 := Or.inl ⟨0, by decide +kernel, by decide, rfl⟩
theorem dJ7_copyOf_6403c_27 : AtA mJ7_copyOf_6403c 27 3 28 := Or.inr ⟨3, by decide +kernel, rfl, rfl⟩
theorem dJ7_copyOf_6403c_28 : AtK mJ7_copyOf_6403c 28 (iZ 0) 29 := Or.inl ⟨0, by decide +kernel, by decide, rfl⟩
theorem dJ7_copyOf_6403c_29 : AtA mJ7_copyOf_6403c 29 0 30 := Or.inr ⟨0, by decide +kernel, rfl, rfl⟩
theorem dJ7_copyOf_6403c_30 : At mJ7_copyOf_6403c 30 .arraylength 1 31 := ⟨by decide +kernel, rfl⟩
theorem dJ7_copyOf_6403c_31 : AtI mJ7_copyOf_6403c 31 1 32 := Or.inr ⟨1, by decide +kernel, rfl, rfl⟩
theorem dJ7_copyOf_6403c_32 : AtS mJ7_copyOf_6403c 32 mJ9_min_7cf53 2 35 := ⟨304, 416, 417, by decide +kernel, rfl, by decide +kernel, by decide +kernel, rfl, ⟨⟨418, by decide +kernel⟩, ⟨73, by decide +kernel⟩, ⟨by decide, by decide⟩, by decide +kernel, by decide, by decide⟩⟩
theorem dJ7_copyOf_6403c_38 : AtA mJ7_copyOf_6403c 38 3 39 := Or.inr ⟨3, by decide +kernel, rfl, rfl⟩
theorem dJ7_copyOf_6403c_39 : At mJ7_copyOf_6403c 39 .areturn 1 40 := ⟨by decide +kernel, rfl⟩
theorem dJ15_checkIndex_7cf53_0 : AtI mJ15_checkIndex_7cf53 0 0 1 := Or.inr ⟨0, by decide +kernel, rfl, rfl⟩
theorem dJ15_checkIndex_7cf53_1 : AtI mJ15_checkIndex_7cf53 1 1 2 := Or.inr ⟨1, by decide +kernel, rfl, rfl⟩
theorem dJ15_checkIndex_7cf53_2 : At mJ15_checkIndex_7cf53 2 .aconst_null 1 3 := ⟨by decide +kernel, rfl⟩
theorem dJ15_checkIndex_7cf53_3 : AtS mJ15_checkIndex_7cf53 3 mJ3_checkIndex_8e157 3 6 := ⟨105, 190, 191, by decide +kernel, rfl, by decide +kernel, by decide +kernel, rfl, ⟨⟨192, by decide +kernel⟩, ⟨77, by decide +kernel⟩, ⟨by decide, by decide⟩, by decide +kernel, by decide, by decide⟩⟩
theorem dJ15_checkIndex_7cf53_6 : At mJ15_checkIndex_7cf53 6 .ireturn 1 7 := ⟨by decide +kernel, rfl⟩
theorem dJ8_newLength_cabcc_0 : AtI mJ8_newLength_cabcc 0 0 1 := Or.inr ⟨0, by decide +kernel, rfl, rfl⟩
theorem dJ8_newLength_cabcc_1 : AtI mJ8_newLength_cabcc 1 1 2 := Or.inr ⟨1, by decide +kernel, rfl, rfl⟩
theorem dJ8_newLength_cabcc_2 : AtI mJ8_newLength_cabcc 2 2 3 := Or.inr ⟨2, by decide +kernel, rfl, rfl⟩
theorem dJ8_newLength_cabcc_3 : AtS mJ8_newLength_cabcc 3 mJ9_max_7cf53 2 6 := ⟨194, 382, 383, by decide +kernel, rfl, by decide +kernel, by decide +kernel, rfl, ⟨⟨384, by decide +kernel⟩, ⟨73, by decide +kernel⟩, ⟨by decide, by decide⟩, by decide +kernel, by decide, by decide⟩⟩
theorem dJ8_newLength_cabcc_6 : At mJ8_newLength_cabcc 6 .iadd 1 7 := ⟨by decide +kernel, rfl⟩
theorem dJ8_newLength_cabcc_7 : AtSI mJ8_newLength_cabcc 7 3 8 := ⟨Or.inr ⟨3, by decide +kernel, rfl, rfl⟩, by decide⟩
theorem dJ8_newLength_cabcc_8 : AtK mJ8_newLength_cabcc 8 (iZ 0) 9 := Or.inl ⟨0, by decide +kernel, by decide, rfl⟩
theorem dJ8_newLength_cabcc_9 : AtI mJ8_newLength_cabcc 9 3 10 := Or.inr ⟨3, by decide +kernel, rfl, rfl⟩
theorem dJ8_newLength_cabcc_10 : AtJ mJ8_newLength_cabcc 10 (.if_icmp .ge) 13 21 := ⟨11, by decide +kernel, rfl, by decide⟩
theorem dJ8_newLength_cabcc_13 : AtI mJ8_newLength_cabcc 13 3 14 := Or.inr ⟨3, by decide +kernel, rfl, rfl⟩
theorem dJ8_newLength_cabcc_14 : AtK mJ8_newLength_cabcc 14 (iZ 2147483639) 16 := Or.inr (Or.inr (Or.inr (Or.inl ⟨200, 385, by decide +kernel, by decide +kernel, rfl⟩)))
theorem dJ8_newLength_cabcc_16 : AtJ mJ8_newLength_cabcc 16 (.if_icmp .gt) 19 21 := ⟨5, by decide +kernel, rfl, by decide⟩
theorem dJ8_newLength_cabcc_19 : AtI mJ8_newLength_cabcc 19 3 20 := Or.inr ⟨3, by decide +kernel, rfl, rfl⟩
theorem dJ8_newLength_cabcc_20 : At mJ8_newLength_cabcc 20 .ireturn 1 21 := ⟨by decide +kernel, rfl⟩
theorem dJ8_newLength_cabcc_21 : AtI mJ8_newLength_cabcc 21 0 22 := Or.inr ⟨0, by decide +kernel, rfl, rfl⟩
theorem dJ8_newLength_cabcc_22 : AtI mJ8_newLength_cabcc 22 1 23 := Or.inr ⟨1, by decide +kernel, rfl, rfl⟩
theorem dJ8_newLength_cabcc_23 : AtS mJ8_newLength_cabcc 23 mJ8_hugeLength_7cf53 2 26 := ⟨201, 386, 387, by decide +kernel, rfl, by decide +kernel, by decide +kernel, rfl, ⟨⟨388, by decide +kernel⟩, ⟨72, by decide +kernel⟩, ⟨by decide, by decide⟩, by decide +kernel, by decide, by decide⟩⟩
theorem dJ8_newLength_cabcc_26 : At mJ8_newLength_cabcc 26 .ireturn 1 27 := ⟨by decide +kernel, rfl⟩
theorem dJ3_checkIndex_8e157_0 : AtI mJ3_checkIndex_8e157 0 0 1 := Or.inr ⟨0, by decide +kernel, rfl, rfl⟩
theorem dJ3_checkIndex_8e157_1 : AtJ mJ3_checkIndex_8e157 1 (.ifCond .lt) 4 9 := ⟨8, by decide +kernel, rfl, by decide⟩
theorem dJ3_checkIndex_8e157_4 : AtI mJ3_checkIndex_8e157 4 0 5 := Or.inr ⟨0, by decide +kernel, rfl, rfl⟩
theorem dJ3_checkIndex_8e157_5 : AtI mJ3_checkIndex_8e157 5 1 6 := Or.inr ⟨1, by decide +kernel, rfl, rfl⟩
theorem dJ3_checkIndex_8e157_6 : AtJ mJ3_checkIndex_8e157 6 (.if_icmp .lt) 9 16 := ⟨10, by decide +kernel, rfl, by decide⟩
theorem dJ3_checkIndex_8e157_9 : AtA mJ3_checkIndex_8e157 9 2 10 := Or.inr ⟨2, by decide +kernel, rfl, rfl⟩
theorem dJ3_checkIndex_8e157_10 : AtI mJ3_checkIndex_8e157 10 0 11 := Or.inr ⟨0, by decide +kernel, rfl, rfl⟩
theorem dJ3_checkIndex_8e157_11 : AtI mJ3_checkIndex_8e157 11 1 12 := Or.inr ⟨1, by decide +kernel, rfl, rfl⟩
theorem dJ3_checkIndex_8e157_16 : AtI mJ3_checkIndex_8e157 16 0 17 := Or.inr ⟨0, by decide +kernel, rfl, rfl⟩
theorem dJ3_checkIndex_8e157_17 : At mJ3_checkIndex_8e157 17 .ireturn 1 18 := ⟨by decide +kernel, rfl⟩
end
section
/-! what stands at each pc (printed) -/
theorem dX1_init_0 : AtA mX1_init 0 0 1 := Or.inr ⟨0, by decide +kernel, rfl, rfl⟩
theorem dX1_init_1 : AtO mX1_init 1 4 := ⟨3, 651, 89, 90, by decide +kernel, rfl, by decide +kernel, by decide +kernel, by decide +kernel, by decide, by decide⟩
theorem dX1_init_4 : AtA mX1_init 4 0 5 := Or.inr ⟨0, by decide +kernel, rfl, rfl⟩
theorem dX1_init_5 : AtN mX1_init 5 2 [.null] 8 := ⟨9, 652, 118, 60, (RX2, TX2, 1), by decide +kernel, rfl, rfl, by decide +kernel, by decide +kernel, by decide +kernel, rfl, fun j hj => by rcases (show j = 0 from by have hj : j < 1 := hj; omega) with rfl <;> rfl⟩
theorem dX1_init_8 : At mX1_init 8 .dup 1 9 := ⟨by decide +kernel, rfl⟩
theorem dX1_init_9 : AtNIN mX1_init 9 mX2_init 0 12 := ⟨11, 653, 120, "Hymnwright", by decide +kernel, rfl, by decide +kernel, by decide +kernel, rfl, rfl, rfl, ⟨⟨121, by decide +kernel⟩, ⟨60, by decide +kernel⟩, ⟨by decide, by decide⟩, by decide +kernel, by decide, by decide⟩⟩
theorem dX1_init_12 : AtP mX1_init 12 1 4 (.object "Hymnwright$Readings") 15 := ⟨12, (RX1, TX1, 5), by decide +kernel, rfl, rfl, by decide, Or.inl ⟨660, by decide +kernel⟩, by decide +kernel, Or.inr ⟨rfl, rfl, rfl⟩⟩
theorem dX1_init_15 : AtA mX1_init 15 0 16 := Or.inr ⟨0, by decide +kernel, rfl, rfl⟩
theorem dX1_init_16 : AtI mX1_init 16 1 17 := Or.inr ⟨1, by decide +kernel, rfl, rfl⟩
theorem dX1_init_17 : AtP mX1_init 17 1 0 (.int) 20 := ⟨18, (RX1, TX1, 5), by decide +kernel, rfl, rfl, by decide, Or.inl ⟨654, by decide +kernel⟩, by decide +kernel, Or.inr ⟨rfl, rfl, rfl⟩⟩
theorem dX1_init_20 : AtA mX1_init 20 0 21 := Or.inr ⟨0, by decide +kernel, rfl, rfl⟩
theorem dX1_init_21 : AtI mX1_init 21 2 22 := Or.inr ⟨2, by decide +kernel, rfl, rfl⟩
theorem dX1_init_22 : AtP mX1_init 22 1 1 (.boolean) 25 := ⟨22, (RX1, TX1, 5), by decide +kernel, rfl, rfl, by decide, Or.inl ⟨656, by decide +kernel⟩, by decide +kernel, Or.inr ⟨rfl, rfl, rfl⟩⟩
theorem dX1_init_25 : AtA mX1_init 25 0 26 := Or.inr ⟨0, by decide +kernel, rfl, rfl⟩
theorem dX1_init_26 : AtI mX1_init 26 3 27 := Or.inr ⟨3, by decide +kernel, rfl, rfl⟩
theorem dX1_init_27 : AtP mX1_init 27 1 2 (.int) 30 := ⟨26, (RX1, TX1, 5), by decide +kernel, rfl, rfl, by decide, Or.inl ⟨658, by decide +kernel⟩, by decide +kernel, Or.inr ⟨rfl, rfl, rfl⟩⟩
theorem dX1_init_30 : AtA mX1_init 30 0 31 := Or.inr ⟨0, by decide +kernel, rfl, rfl⟩
theorem dX1_init_31 : AtI mX1_init 31 4 33 := Or.inl ⟨by decide +kernel, rfl⟩
theorem dX1_init_33 : AtP mX1_init 33 1 3 (.int) 36 := ⟨29, (RX1, TX1, 5), by decide +kernel, rfl, rfl, by decide, Or.inl ⟨659, by decide +kernel⟩, by decide +kernel, Or.inr ⟨rfl, rfl, rfl⟩⟩
theorem dX1_init_36 : At mX1_init 36 .return_ 1 37 := ⟨by decide +kernel, rfl⟩
theorem dX1_ownDay_0 : AtA mX1_ownDay 0 0 1 := Or.inr ⟨0, by decide +kernel, rfl, rfl⟩
theorem dX1_ownDay_1 : AtF mX1_ownDay 1 1 2 4 := ⟨26, (RX1, TX1, 5), by decide +kernel, rfl, rfl, by decide, Or.inl (Or.inl ⟨658, by decide +kernel⟩)⟩
theorem dX1_ownDay_4 : AtJ mX1_ownDay 4 (.ifCond .ne) 7 22 := ⟨18, by decide +kernel, rfl, by decide⟩
theorem dX1_ownDay_7 : AtI mX1_ownDay 7 1 8 := Or.inr ⟨1, by decide +kernel, rfl, rfl⟩
theorem dX1_ownDay_8 : AtK mX1_ownDay 8 (iZ 3) 9 := Or.inl ⟨3, by decide +kernel, by decide, rfl⟩
theorem dX1_ownDay_9 : AtI mX1_ownDay 9 1 10 := Or.inr ⟨1, by decide +kernel, rfl, rfl⟩
theorem dX1_ownDay_10 : AtSN mX1_ownDay 10 mX0_easterAsDayOfMarch 1 13 := ⟨32, 735, 600, "Hymnwright", by decide +kernel, rfl, by decide +kernel, by decide +kernel, rfl, ⟨⟨601, by decide +kernel⟩, ⟨80, by decide +kernel⟩, ⟨by decide, by decide⟩, by decide +kernel, by decide, by decide⟩⟩
theorem dX1_ownDay_13 : AtSN mX1_ownDay 13 mX0_dayOfYear 3 16 := ⟨38, 736, 629, "Hymnwright", by decide +kernel, rfl, by decide +kernel, by decide +kernel, rfl, ⟨⟨630, by decide +kernel⟩, ⟨80, by decide +kernel⟩, ⟨by decide, by decide⟩, by decide +kernel, by decide, by decide⟩⟩
theorem dX1_ownDay_16 : AtA mX1_ownDay 16 0 17 := Or.inr ⟨0, by decide +kernel, rfl, rfl⟩
theorem dX1_ownDay_17 : AtF mX1_ownDay 17 1 3 20 := ⟨29, (RX1, TX1, 5), by decide +kernel, rfl, rfl, by decide, Or.inl (Or.inl ⟨659, by decide +kernel⟩)⟩
theorem dX1_ownDay_20 : At mX1_ownDay 20 .iadd 1 21 := ⟨by decide +kernel, rfl⟩
theorem dX1_ownDay_21 : At mX1_ownDay 21 .ireturn 1 22 := ⟨by decide +kernel, rfl⟩
theorem dX1_ownDay_22 : AtA mX1_ownDay 22 0 23 := Or.inr ⟨0, by decide +kernel, rfl, rfl⟩
theorem dX1_ownDay_23 : AtF mX1_ownDay 23 1 3 26 := ⟨29, (RX1, TX1, 5), by decide +kernel, rfl, rfl, by decide, Or.inl (Or.inl ⟨659, by decide +kernel⟩)⟩
theorem dX1_ownDay_26 : AtI mX1_ownDay 26 1 27 := Or.inr ⟨1, by decide +kernel, rfl, rfl⟩
theorem dX1_ownDay_27 : AtA mX1_ownDay 27 0 28 := Or.inr ⟨0, by decide +kernel, rfl, rfl⟩
theorem dX1_ownDay_28 : AtF mX1_ownDay 28 1 2 31 := ⟨26, (RX1, TX1, 5), by decide +kernel, rfl, rfl, by decide, Or.inl (Or.inl ⟨658, by decide +kernel⟩)⟩
theorem dX1_ownDay_31 : AtSN mX1_ownDay 31 mX0_monthLength 2 34 := ⟨42, 737, 623, "Hymnwright", by decide +kernel, rfl, by decide +kernel, by decide +kernel, rfl, ⟨⟨624, by decide +kernel⟩, ⟨80, by decide +kernel⟩, ⟨by decide, by decide⟩, by decide +kernel, by decide, by decide⟩⟩
theorem dX1_ownDay_34 : AtJ mX1_ownDay 34 (.if_icmp .le) 37 42 := ⟨8, by decide +kernel, rfl, by decide⟩
theorem dX1_ownDay_37 : AtK mX1_ownDay 37 (iZ (-100)) 39 := Or.inr (Or.inl ⟨(-100), by decide +kernel, by decide, rfl⟩)
theorem dX1_ownDay_39 : AtG mX1_ownDay 39 54 := ⟨15, by decide +kernel, by decide⟩
theorem dX1_ownDay_42 : AtI mX1_ownDay 42 1 43 := Or.inr ⟨1, by decide +kernel, rfl, rfl⟩
theorem dX1_ownDay_43 : AtA mX1_ownDay 43 0 44 := Or.inr ⟨0, by decide +kernel, rfl, rfl⟩
theorem dX1_ownDay_44 : AtF mX1_ownDay 44 1 2 47 := ⟨26, (RX1, TX1, 5), by decide +kernel, rfl, rfl, by decide, Or.inl (Or.inl ⟨658, by decide +kernel⟩)⟩
theorem dX1_ownDay_47 : AtA mX1_ownDay 47 0 48 := Or.inr ⟨0, by decide +kernel, rfl, rfl⟩
theorem dX1_ownDay_48 : AtF mX1_ownDay 48 1 3 51 := ⟨29, (RX1, TX1, 5), by decide +kernel, rfl, rfl, by decide, Or.inl (Or.inl ⟨659, by decide +kernel⟩)⟩
theorem dX1_ownDay_51 : AtSN mX1_ownDay 51 mX0_dayOfYear 3 54 := ⟨38, 736, 629, "Hymnwright", by decide +kernel, rfl, by decide +kernel, by decide +kernel, rfl, ⟨⟨630, by decide +kernel⟩, ⟨80, by decide +kernel⟩, ⟨by decide, by decide⟩, by decide +kernel, by decide, by decide⟩⟩
theorem dX1_ownDay_54 : At mX1_ownDay 54 .ireturn 1 55 := ⟨by decide +kernel, rfl⟩
theorem dX2_init_0 : AtA mX2_init 0 0 1 := Or.inr ⟨0, by decide +kernel, rfl, rfl⟩
theorem dX2_init_1 : AtO mX2_init 1 4 := ⟨3, 122, 89, 90, by decide +kernel, rfl, by decide +kernel, by decide +kernel, by decide +kernel, by decide, by decide⟩
theorem dX2_init_4 : AtA mX2_init 4 0 5 := Or.inr ⟨0, by decide +kernel, rfl, rfl⟩
theorem dX2_init_5 : AtK mX2_init 5 (iZ 3) 6 := Or.inl ⟨3, by decide +kernel, by decide, rfl⟩
theorem dX2_init_6 : AtNA mX2_init 6 0 8 := ⟨.int, 130, by decide +kernel, rfl, by decide +kernel, by decide, rfl, by decide⟩
theorem dX2_init_8 : AtP mX2_init 8 2 0 (.array .int) 11 := ⟨9, (RX2, TX2, 1), by decide +kernel, rfl, rfl, by decide, Or.inl ⟨126, by decide +kernel⟩, by decide +kernel, Or.inr ⟨rfl, rfl, rfl⟩⟩
theorem dX2_init_11 : AtA mX2_init 11 0 12 := Or.inr ⟨0, by decide +kernel, rfl, rfl⟩
theorem dX2_init_12 : AtF mX2_init 12 2 0 15 := ⟨9, (RX2, TX2, 1), by decide +kernel, rfl, rfl, by decide, Or.inl (Or.inl ⟨126, by decide +kernel⟩)⟩
theorem dX2_init_15 : AtK mX2_init 15 (iZ (-100)) 17 := Or.inr (Or.inl ⟨(-100), by decide +kernel, by decide, rfl⟩)
theorem dX2_init_17 : AtS mX2_init 17 mJ7_fill_53178 2 20 := ⟨15, 123, 124, by decide +kernel, rfl, by decide +kernel, by decide +kernel, rfl, ⟨⟨125, by decide +kernel⟩, ⟨61, by decide +kernel⟩, ⟨by decide, by decide⟩, by decide +kernel, by decide, by decide⟩⟩
theorem dX2_init_20 : At mX2_init 20 .return_ 1 21 := ⟨by decide +kernel, rfl⟩
theorem dX2_themeIn_0 : AtI mX2_themeIn 0 1 1 := Or.inr ⟨1, by decide +kernel, rfl, rfl⟩
theorem dX2_themeIn_1 : AtJ mX2_themeIn 1 (.ifCond .lt) 4 22 := ⟨21, by decide +kernel, rfl, by decide⟩
theorem dX2_themeIn_4 : AtI mX2_themeIn 4 1 5 := Or.inr ⟨1, by decide +kernel, rfl, rfl⟩
theorem dX2_themeIn_5 : AtA mX2_themeIn 5 0 6 := Or.inr ⟨0, by decide +kernel, rfl, rfl⟩
theorem dX2_themeIn_6 : AtF mX2_themeIn 6 2 0 9 := ⟨9, (RX2, TX2, 1), by decide +kernel, rfl, rfl, by decide, Or.inl (Or.inl ⟨126, by decide +kernel⟩)⟩
theorem dX2_themeIn_9 : At mX2_themeIn 9 .arraylength 1 10 := ⟨by decide +kernel, rfl⟩
theorem dX2_themeIn_10 : AtJ mX2_themeIn 10 (.if_icmp .ge) 13 22 := ⟨12, by decide +kernel, rfl, by decide⟩
theorem dX2_themeIn_13 : AtA mX2_themeIn 13 0 14 := Or.inr ⟨0, by decide +kernel, rfl, rfl⟩
theorem dX2_themeIn_14 : AtF mX2_themeIn 14 2 0 17 := ⟨9, (RX2, TX2, 1), by decide +kernel, rfl, rfl, by decide, Or.inl (Or.inl ⟨126, by decide +kernel⟩)⟩
theorem dX2_themeIn_17 : AtI mX2_themeIn 17 1 18 := Or.inr ⟨1, by decide +kernel, rfl, rfl⟩
theorem dX2_themeIn_18 : At mX2_themeIn 18 .iaload 1 19 := ⟨by decide +kernel, rfl⟩
theorem dX2_themeIn_19 : AtG mX2_themeIn 19 24 := ⟨5, by decide +kernel, by decide⟩
theorem dX2_themeIn_22 : AtK mX2_themeIn 22 (iZ (-100)) 24 := Or.inr (Or.inl ⟨(-100), by decide +kernel, by decide, rfl⟩)
theorem dX2_themeIn_24 : At mX2_themeIn 24 .ireturn 1 25 := ⟨by decide +kernel, rfl⟩
theorem dX2_replace_0 : AtA mX2_replace 0 0 1 := Or.inr ⟨0, by decide +kernel, rfl, rfl⟩
theorem dX2_replace_1 : AtI mX2_replace 1 1 2 := Or.inr ⟨1, by decide +kernel, rfl, rfl⟩
theorem dX2_replace_2 : AtV mX2_replace 2 mX2_themeIn 1 2 5 := ⟨21, 707, 709, 18, (RX2, TX2, 1), by decide +kernel, rfl, rfl, by decide +kernel, by decide +kernel, by decide +kernel, rfl, ⟨⟨710, by decide +kernel⟩, ⟨60, by decide +kernel⟩, ⟨by decide, by decide⟩, by decide +kernel, by decide, by decide⟩⟩
theorem dX2_replace_5 : AtSI mX2_replace 5 3 6 := ⟨Or.inr ⟨3, by decide +kernel, rfl, rfl⟩, by decide⟩
theorem dX2_replace_6 : AtI mX2_replace 6 1 7 := Or.inr ⟨1, by decide +kernel, rfl, rfl⟩
theorem dX2_replace_7 : AtJ mX2_replace 7 (.ifCond .lt) 10 26 := ⟨19, by decide +kernel, rfl, by decide⟩
theorem dX2_replace_10 : AtI mX2_replace 10 1 11 := Or.inr ⟨1, by decide +kernel, rfl, rfl⟩
theorem dX2_replace_11 : AtA mX2_replace 11 0 12 := Or.inr ⟨0, by decide +kernel, rfl, rfl⟩
theorem dX2_replace_12 : AtF mX2_replace 12 2 0 15 := ⟨9, (RX2, TX2, 1), by decide +kernel, rfl, rfl, by decide, Or.inl (Or.inl ⟨126, by decide +kernel⟩)⟩
theorem dX2_replace_15 : At mX2_replace 15 .arraylength 1 16 := ⟨by decide +kernel, rfl⟩
theorem dX2_replace_16 : AtJ mX2_replace 16 (.if_icmp .ge) 19 26 := ⟨10, by decide +kernel, rfl, by decide⟩
theorem dX2_replace_19 : AtA mX2_replace 19 0 20 := Or.inr ⟨0, by decide +kernel, rfl, rfl⟩
theorem dX2_replace_20 : AtF mX2_replace 20 2 0 23 := ⟨9, (RX2, TX2, 1), by decide +kernel, rfl, rfl, by decide, Or.inl (Or.inl ⟨126, by decide +kernel⟩)⟩
theorem dX2_replace_23 : AtI mX2_replace 23 1 24 := Or.inr ⟨1, by decide +kernel, rfl, rfl⟩
theorem dX2_replace_24 : AtI mX2_replace 24 2 25 := Or.inr ⟨2, by decide +kernel, rfl, rfl⟩
theorem dX2_replace_25 : At mX2_replace 25 .iastore 1 26 := ⟨by decide +kernel, rfl⟩
theorem dX2_replace_26 : AtI mX2_replace 26 3 27 := Or.inr ⟨3, by decide +kernel, rfl, rfl⟩
theorem dX2_replace_27 : At mX2_replace 27 .ireturn 1 28 := ⟨by decide +kernel, rfl⟩
theorem dX3_init_0 : AtA mX3_init 0 0 1 := Or.inr ⟨0, by decide +kernel, rfl, rfl⟩
theorem dX3_init_1 : AtO mX3_init 1 4 := ⟨3, 339, 89, 90, by decide +kernel, rfl, by decide +kernel, by decide +kernel, by decide +kernel, by decide, by decide⟩
theorem dX3_init_4 : AtA mX3_init 4 0 5 := Or.inr ⟨0, by decide +kernel, rfl, rfl⟩
theorem dX3_init_5 : AtK mX3_init 5 (iZ 0) 6 := Or.inl ⟨0, by decide +kernel, by decide, rfl⟩
theorem dX3_init_6 : AtP mX3_init 6 3 1 (.boolean) 9 := ⟨9, (RX3, TX3, 2), by decide +kernel, rfl, rfl, by decide, Or.inl ⟨341, by decide +kernel⟩, by decide +kernel, Or.inl rfl⟩
theorem dX3_init_9 : AtA mX3_init 9 0 10 := Or.inr ⟨0, by decide +kernel, rfl, rfl⟩
theorem dX3_init_10 : AtI mX3_init 10 1 11 := Or.inr ⟨1, by decide +kernel, rfl, rfl⟩
theorem dX3_init_11 : AtP mX3_init 11 3 0 (.int) 14 := ⟨15, (RX3, TX3, 2), by decide +kernel, rfl, rfl, by decide, Or.inl ⟨340, by decide +kernel⟩, by decide +kernel, Or.inr ⟨rfl, rfl, rfl⟩⟩
theorem dX3_init_14 : At mX3_init 14 .return_ 1 15 := ⟨by decide +kernel, rfl⟩
theorem dX3_setAllowed_0 : AtA mX3_setAllowed 0 0 1 := Or.inr ⟨0, by decide +kernel, rfl, rfl⟩
theorem dX3_setAllowed_1 : AtF mX3_setAllowed 1 3 1 4 := ⟨9, (RX3, TX3, 2), by decide +kernel, rfl, rfl, by decide, Or.inl (Or.inl ⟨341, by decide +kernel⟩)⟩
theorem dX3_setAllowed_4 : AtSI mX3_setAllowed 4 2 5 := ⟨Or.inr ⟨2, by decide +kernel, rfl, rfl⟩, by decide⟩
theorem dX3_setAllowed_5 : AtA mX3_setAllowed 5 0 6 := Or.inr ⟨0, by decide +kernel, rfl, rfl⟩
theorem dX3_setAllowed_6 : AtI mX3_setAllowed 6 1 7 := Or.inr ⟨1, by decide +kernel, rfl, rfl⟩
theorem dX3_setAllowed_7 : AtP mX3_setAllowed 7 3 1 (.boolean) 10 := ⟨9, (RX3, TX3, 2), by decide +kernel, rfl, rfl, by decide, Or.inl ⟨341, by decide +kernel⟩, by decide +kernel, Or.inl rfl⟩
theorem dX3_setAllowed_10 : AtI mX3_setAllowed 10 2 11 := Or.inr ⟨2, by decide +kernel, rfl, rfl⟩
theorem dX3_setAllowed_11 : At mX3_setAllowed 11 .ireturn 1 12 := ⟨by decide +kernel, rfl⟩
theorem dX3_isFreeIn_0 : AtA mX3_isFreeIn 0 0 1 := Or.inr ⟨0, by decide +kernel, rfl, rfl⟩
theorem dX3_isFreeIn_1 : AtF mX3_isFreeIn 1 3 1 4 := ⟨9, (RX3, TX3, 2), by decide +kernel, rfl, rfl, by decide, Or.inl (Or.inl ⟨341, by decide +kernel⟩)⟩
theorem dX3_isFreeIn_4 : AtJ mX3_isFreeIn 4 (.ifCond .ne) 7 18 := ⟨14, by decide +kernel, rfl, by decide⟩
theorem dX3_isFreeIn_7 : AtI mX3_isFreeIn 7 1 8 := Or.inr ⟨1, by decide +kernel, rfl, rfl⟩
theorem dX3_isFreeIn_8 : AtA mX3_isFreeIn 8 0 9 := Or.inr ⟨0, by decide +kernel, rfl, rfl⟩
theorem dX3_isFreeIn_9 : AtF mX3_isFreeIn 9 3 0 12 := ⟨15, (RX3, TX3, 2), by decide +kernel, rfl, rfl, by decide, Or.inl (Or.inl ⟨340, by decide +kernel⟩)⟩
theorem dX3_isFreeIn_12 : At mX3_isFreeIn 12 .isub 1 13 := ⟨by decide +kernel, rfl⟩
theorem dX3_isFreeIn_13 : AtK mX3_isFreeIn 13 (iZ 70) 15 := Or.inr (Or.inl ⟨70, by decide +kernel, by decide, rfl⟩)
theorem dX3_isFreeIn_15 : AtJ mX3_isFreeIn 15 (.if_icmp .le) 18 22 := ⟨7, by decide +kernel, rfl, by decide⟩
theorem dX3_isFreeIn_18 : AtK mX3_isFreeIn 18 (iZ 1) 19 := Or.inl ⟨1, by decide +kernel, by decide, rfl⟩
theorem dX3_isFreeIn_19 : AtG mX3_isFreeIn 19 23 := ⟨4, by decide +kernel, by decide⟩
theorem dX3_isFreeIn_22 : AtK mX3_isFreeIn 22 (iZ 0) 23 := Or.inl ⟨0, by decide +kernel, by decide, rfl⟩
theorem dX3_isFreeIn_23 : At mX3_isFreeIn 23 .ireturn 1 24 := ⟨by decide +kernel, rfl⟩
theorem dX4_init_0 : AtA mX4_init 0 0 1 := Or.inr ⟨0, by decide +kernel, rfl, rfl⟩
theorem dX4_init_1 : AtO mX4_init 1 4 := ⟨3, 322, 89, 90, by decide +kernel, rfl, by decide +kernel, by decide +kernel, by decide +kernel, by decide, by decide⟩
theorem dX4_init_4 : AtA mX4_init 4 0 5 := Or.inr ⟨0, by decide +kernel, rfl, rfl⟩
theorem dX4_init_5 : AtK mX4_init 5 (iZ 8) 7 := Or.inr (Or.inl ⟨8, by decide +kernel, by decide, rfl⟩)
theorem dX4_init_7 : AtNA mX4_init 7 0 9 := ⟨.int, 130, by decide +kernel, rfl, by decide +kernel, by decide, rfl, by decide⟩
theorem dX4_init_9 : AtP mX4_init 9 4 0 (.array .int) 12 := ⟨9, (RX4, TX4, 3), by decide +kernel, rfl, rfl, by decide, Or.inl ⟨323, by decide +kernel⟩, by decide +kernel, Or.inr ⟨rfl, rfl, rfl⟩⟩
theorem dX4_init_12 : AtA mX4_init 12 0 13 := Or.inr ⟨0, by decide +kernel, rfl, rfl⟩
theorem dX4_init_13 : AtK mX4_init 13 (iZ 8) 15 := Or.inr (Or.inl ⟨8, by decide +kernel, by decide, rfl⟩)
theorem dX4_init_15 : AtNA mX4_init 15 0 17 := ⟨.int, 130, by decide +kernel, rfl, by decide +kernel, by decide, rfl, by decide⟩
theorem dX4_init_17 : AtP mX4_init 17 4 1 (.array .int) 20 := ⟨15, (RX4, TX4, 3), by decide +kernel, rfl, rfl, by decide, Or.inl ⟨324, by decide +kernel⟩, by decide +kernel, Or.inr ⟨rfl, rfl, rfl⟩⟩
theorem dX4_init_20 : AtA mX4_init 20 0 21 := Or.inr ⟨0, by decide +kernel, rfl, rfl⟩
theorem dX4_init_21 : AtK mX4_init 21 (iZ 0) 22 := Or.inl ⟨0, by decide +kernel, by decide, rfl⟩
theorem dX4_init_22 : AtP mX4_init 22 4 2 (.int) 25 := ⟨18, (RX4, TX4, 3), by decide +kernel, rfl, rfl, by decide, Or.inl ⟨325, by decide +kernel⟩, by decide +kernel, Or.inl rfl⟩
theorem dX4_init_25 : At mX4_init 25 .return_ 1 26 := ⟨by decide +kernel, rfl⟩
theorem dX4_append_0 : AtA mX4_append 0 0 1 := Or.inr ⟨0, by decide +kernel, rfl, rfl⟩
theorem dX4_append_1 : AtF mX4_append 1 4 2 4 := ⟨18, (RX4, TX4, 3), by decide +kernel, rfl, rfl, by decide, Or.inl (Or.inl ⟨325, by decide +kernel⟩)⟩
theorem dX4_append_4 : AtA mX4_append 4 0 5 := Or.inr ⟨0, by decide +kernel, rfl, rfl⟩
theorem dX4_append_5 : AtF mX4_append 5 4 0 8 := ⟨9, (RX4, TX4, 3), by decide +kernel, rfl, rfl, by decide, Or.inl (Or.inl ⟨323, by decide +kernel⟩)⟩
theorem dX4_append_8 : At mX4_append 8 .arraylength 1 9 := ⟨by decide +kernel, rfl⟩
theorem dX4_append_9 : AtJ mX4_append 9 (.if_icmp .ge) 12 54 := ⟨45, by decide +kernel, rfl, by decide⟩
theorem dX4_append_12 : AtA mX4_append 12 0 13 := Or.inr ⟨0, by decide +kernel, rfl, rfl⟩
theorem dX4_append_13 : AtF mX4_append 13 4 2 16 := ⟨18, (RX4, TX4, 3), by decide +kernel, rfl, rfl, by decide, Or.inl (Or.inl ⟨325, by decide +kernel⟩)⟩
theorem dX4_append_16 : AtA mX4_append 16 0 17 := Or.inr ⟨0, by decide +kernel, rfl, rfl⟩
theorem dX4_append_17 : AtF mX4_append 17 4 1 20 := ⟨15, (RX4, TX4, 3), by decide +kernel, rfl, rfl, by decide, Or.inl (Or.inl ⟨324, by decide +kernel⟩)⟩
theorem dX4_append_20 : At mX4_append 20 .arraylength 1 21 := ⟨by decide +kernel, rfl⟩
theorem dX4_append_21 : AtJ mX4_append 21 (.if_icmp .ge) 24 54 := ⟨33, by decide +kernel, rfl, by decide⟩
theorem dX4_append_24 : AtA mX4_append 24 0 25 := Or.inr ⟨0, by decide +kernel, rfl, rfl⟩
theorem dX4_append_25 : AtF mX4_append 25 4 0 28 := ⟨9, (RX4, TX4, 3), by decide +kernel, rfl, rfl, by decide, Or.inl (Or.inl ⟨323, by decide +kernel⟩)⟩
theorem dX4_append_28 : AtA mX4_append 28 0 29 := Or.inr ⟨0, by decide +kernel, rfl, rfl⟩
theorem dX4_append_29 : AtF mX4_append 29 4 2 32 := ⟨18, (RX4, TX4, 3), by decide +kernel, rfl, rfl, by decide, Or.inl (Or.inl ⟨325, by decide +kernel⟩)⟩
theorem dX4_append_32 : AtI mX4_append 32 1 33 := Or.inr ⟨1, by decide +kernel, rfl, rfl⟩
theorem dX4_append_33 : At mX4_append 33 .iastore 1 34 := ⟨by decide +kernel, rfl⟩
theorem dX4_append_34 : AtA mX4_append 34 0 35 := Or.inr ⟨0, by decide +kernel, rfl, rfl⟩
theorem dX4_append_35 : AtF mX4_append 35 4 1 38 := ⟨15, (RX4, TX4, 3), by decide +kernel, rfl, rfl, by decide, Or.inl (Or.inl ⟨324, by decide +kernel⟩)⟩
theorem dX4_append_38 : AtA mX4_append 38 0 39 := Or.inr ⟨0, by decide +kernel, rfl, rfl⟩
theorem dX4_append_39 : AtF mX4_append 39 4 2 42 := ⟨18, (RX4, TX4, 3), by decide +kernel, rfl, rfl, by decide, Or.inl (Or.inl ⟨325, by decide +kernel⟩)⟩
theorem dX4_append_42 : AtI mX4_append 42 2 43 := Or.inr ⟨2, by decide +kernel, rfl, rfl⟩
theorem dX4_append_43 : At mX4_append 43 .iastore 1 44 := ⟨by decide +kernel, rfl⟩
theorem dX4_append_44 : AtA mX4_append 44 0 45 := Or.inr ⟨0, by decide +kernel, rfl, rfl⟩
theorem dX4_append_45 : At mX4_append 45 .dup 1 46 := ⟨by decide +kernel, rfl⟩
theorem dX4_append_46 : AtF mX4_append 46 4 2 49 := ⟨18, (RX4, TX4, 3), by decide +kernel, rfl, rfl, by decide, Or.inl (Or.inl ⟨325, by decide +kernel⟩)⟩
theorem dX4_append_49 : AtK mX4_append 49 (iZ 1) 50 := Or.inl ⟨1, by decide +kernel, by decide, rfl⟩
theorem dX4_append_50 : At mX4_append 50 .iadd 1 51 := ⟨by decide +kernel, rfl⟩
theorem dX4_append_51 : AtP mX4_append 51 4 2 (.int) 54 := ⟨18, (RX4, TX4, 3), by decide +kernel, rfl, rfl, by decide, Or.inl ⟨325, by decide +kernel⟩, by decide +kernel, Or.inl rfl⟩
theorem dX4_append_54 : At mX4_append 54 .return_ 1 55 := ⟨by decide +kernel, rfl⟩
theorem dX4_lengthAt_0 : AtI mX4_lengthAt 0 1 1 := Or.inr ⟨1, by decide +kernel, rfl, rfl⟩
theorem dX4_lengthAt_1 : AtJ mX4_lengthAt 1 (.ifCond .lt) 4 30 := ⟨29, by decide +kernel, rfl, by decide⟩
theorem dX4_lengthAt_4 : AtI mX4_lengthAt 4 1 5 := Or.inr ⟨1, by decide +kernel, rfl, rfl⟩
theorem dX4_lengthAt_5 : AtA mX4_lengthAt 5 0 6 := Or.inr ⟨0, by decide +kernel, rfl, rfl⟩
theorem dX4_lengthAt_6 : AtF mX4_lengthAt 6 4 2 9 := ⟨18, (RX4, TX4, 3), by decide +kernel, rfl, rfl, by decide, Or.inl (Or.inl ⟨325, by decide +kernel⟩)⟩
theorem dX4_lengthAt_9 : AtJ mX4_lengthAt 9 (.if_icmp .ge) 12 30 := ⟨21, by decide +kernel, rfl, by decide⟩
theorem dX4_lengthAt_12 : AtI mX4_lengthAt 12 1 13 := Or.inr ⟨1, by decide +kernel, rfl, rfl⟩
theorem dX4_lengthAt_13 : AtA mX4_lengthAt 13 0 14 := Or.inr ⟨0, by decide +kernel, rfl, rfl⟩
theorem dX4_lengthAt_14 : AtF mX4_lengthAt 14 4 0 17 := ⟨9, (RX4, TX4, 3), by decide +kernel, rfl, rfl, by decide, Or.inl (Or.inl ⟨323, by decide +kernel⟩)⟩
theorem dX4_lengthAt_17 : At mX4_lengthAt 17 .arraylength 1 18 := ⟨by decide +kernel, rfl⟩
theorem dX4_lengthAt_18 : AtJ mX4_lengthAt 18 (.if_icmp .ge) 21 30 := ⟨12, by decide +kernel, rfl, by decide⟩
theorem dX4_lengthAt_21 : AtA mX4_lengthAt 21 0 22 := Or.inr ⟨0, by decide +kernel, rfl, rfl⟩
theorem dX4_lengthAt_22 : AtF mX4_lengthAt 22 4 0 25 := ⟨9, (RX4, TX4, 3), by decide +kernel, rfl, rfl, by decide, Or.inl (Or.inl ⟨323, by decide +kernel⟩)⟩
theorem dX4_lengthAt_25 : AtI mX4_lengthAt 25 1 26 := Or.inr ⟨1, by decide +kernel, rfl, rfl⟩
theorem dX4_lengthAt_26 : At mX4_lengthAt 26 .iaload 1 27 := ⟨by decide +kernel, rfl⟩
theorem dX4_lengthAt_27 : AtG mX4_lengthAt 27 31 := ⟨4, by decide +kernel, by decide⟩
theorem dX4_lengthAt_30 : AtK mX4_lengthAt 30 (iZ 0) 31 := Or.inl ⟨0, by decide +kernel, by decide, rfl⟩
theorem dX4_lengthAt_31 : At mX4_lengthAt 31 .ireturn 1 32 := ⟨by decide +kernel, rfl⟩
theorem dX4_marksAt_0 : AtI mX4_marksAt 0 1 1 := Or.inr ⟨1, by decide +kernel, rfl, rfl⟩
theorem dX4_marksAt_1 : AtJ mX4_marksAt 1 (.ifCond .lt) 4 30 := ⟨29, by decide +kernel, rfl, by decide⟩
theorem dX4_marksAt_4 : AtI mX4_marksAt 4 1 5 := Or.inr ⟨1, by decide +kernel, rfl, rfl⟩
theorem dX4_marksAt_5 : AtA mX4_marksAt 5 0 6 := Or.inr ⟨0, by decide +kernel, rfl, rfl⟩
theorem dX4_marksAt_6 : AtF mX4_marksAt 6 4 2 9 := ⟨18, (RX4, TX4, 3), by decide +kernel, rfl, rfl, by decide, Or.inl (Or.inl ⟨325, by decide +kernel⟩)⟩
theorem dX4_marksAt_9 : AtJ mX4_marksAt 9 (.if_icmp .ge) 12 30 := ⟨21, by decide +kernel, rfl, by decide⟩
theorem dX4_marksAt_12 : AtI mX4_marksAt 12 1 13 := Or.inr ⟨1, by decide +kernel, rfl, rfl⟩
theorem dX4_marksAt_13 : AtA mX4_marksAt 13 0 14 := Or.inr ⟨0, by decide +kernel, rfl, rfl⟩
theorem dX4_marksAt_14 : AtF mX4_marksAt 14 4 1 17 := ⟨15, (RX4, TX4, 3), by decide +kernel, rfl, rfl, by decide, Or.inl (Or.inl ⟨324, by decide +kernel⟩)⟩
theorem dX4_marksAt_17 : At mX4_marksAt 17 .arraylength 1 18 := ⟨by decide +kernel, rfl⟩
theorem dX4_marksAt_18 : AtJ mX4_marksAt 18 (.if_icmp .ge) 21 30 := ⟨12, by decide +kernel, rfl, by decide⟩
theorem dX4_marksAt_21 : AtA mX4_marksAt 21 0 22 := Or.inr ⟨0, by decide +kernel, rfl, rfl⟩
theorem dX4_marksAt_22 : AtF mX4_marksAt 22 4 1 25 := ⟨15, (RX4, TX4, 3), by decide +kernel, rfl, rfl, by decide, Or.inl (Or.inl ⟨324, by decide +kernel⟩)⟩
theorem dX4_marksAt_25 : AtI mX4_marksAt 25 1 26 := Or.inr ⟨1, by decide +kernel, rfl, rfl⟩
theorem dX4_marksAt_26 : At mX4_marksAt 26 .iaload 1 27 := ⟨by decide +kernel, rfl⟩
theorem dX4_marksAt_27 : AtG mX4_marksAt 27 31 := ⟨4, by decide +kernel, by decide⟩
theorem dX4_marksAt_30 : AtK mX4_marksAt 30 (iZ 0) 31 := Or.inl ⟨0, by decide +kernel, by decide, rfl⟩
theorem dX4_marksAt_31 : At mX4_marksAt 31 .ireturn 1 32 := ⟨by decide +kernel, rfl⟩
theorem dX4_hasMetreOf_0 : AtA mX4_hasMetreOf 0 0 1 := Or.inr ⟨0, by decide +kernel, rfl, rfl⟩
theorem dX4_hasMetreOf_1 : AtF mX4_hasMetreOf 1 4 2 4 := ⟨18, (RX4, TX4, 3), by decide +kernel, rfl, rfl, by decide, Or.inl (Or.inl ⟨325, by decide +kernel⟩)⟩
theorem dX4_hasMetreOf_4 : AtA mX4_hasMetreOf 4 1 5 := Or.inr ⟨1, by decide +kernel, rfl, rfl⟩
theorem dX4_hasMetreOf_5 : AtF mX4_hasMetreOf 5 4 2 8 := ⟨18, (RX4, TX4, 3), by decide +kernel, rfl, rfl, by decide, Or.inl (Or.inl ⟨325, by decide +kernel⟩)⟩
theorem dX4_hasMetreOf_8 : AtJ mX4_hasMetreOf 8 (.if_icmp .ne) 11 24 := ⟨16, by decide +kernel, rfl, by decide⟩
theorem dX4_hasMetreOf_11 : AtA mX4_hasMetreOf 11 0 12 := Or.inr ⟨0, by decide +kernel, rfl, rfl⟩
theorem dX4_hasMetreOf_12 : AtK mX4_hasMetreOf 12 (iZ 0) 13 := Or.inl ⟨0, by decide +kernel, by decide, rfl⟩
theorem dX4_hasMetreOf_13 : AtA mX4_hasMetreOf 13 1 14 := Or.inr ⟨1, by decide +kernel, rfl, rfl⟩
theorem dX4_hasMetreOf_14 : AtV mX4_hasMetreOf 14 mX4_hasMetreFrom 2 4 17 := ⟨22, 207, 209, 2, (RX4, TX4, 3), by decide +kernel, rfl, rfl, by decide +kernel, by decide +kernel, by decide +kernel, rfl, ⟨⟨210, by decide +kernel⟩, ⟨70, by decide +kernel⟩, ⟨by decide, by decide⟩, by decide +kernel, by decide, by decide⟩⟩
theorem dX4_hasMetreOf_17 : AtJ mX4_hasMetreOf 17 (.ifCond .eq) 20 24 := ⟨7, by decide +kernel, rfl, by decide⟩
theorem dX4_hasMetreOf_20 : AtK mX4_hasMetreOf 20 (iZ 1) 21 := Or.inl ⟨1, by decide +kernel, by decide, rfl⟩
theorem dX4_hasMetreOf_21 : AtG mX4_hasMetreOf 21 25 := ⟨4, by decide +kernel, by decide⟩
theorem dX4_hasMetreOf_24 : AtK mX4_hasMetreOf 24 (iZ 0) 25 := Or.inl ⟨0, by decide +kernel, by decide, rfl⟩
theorem dX4_hasMetreOf_25 : At mX4_hasMetreOf 25 .ireturn 1 26 := ⟨by decide +kernel, rfl⟩
theorem dX4_hasMetreFrom_0 : AtK mX4_hasMetreFrom 0 (iZ 0) 1 := Or.inl ⟨0, by decide +kernel, by decide, rfl⟩
theorem dX4_hasMetreFrom_1 : AtSI mX4_hasMetreFrom 1 3 2 := ⟨Or.inr ⟨3, by decide +kernel, rfl, rfl⟩, by decide⟩
theorem dX4_hasMetreFrom_2 : AtI mX4_hasMetreFrom 2 3 3 := Or.inr ⟨3, by decide +kernel, rfl, rfl⟩
theorem dX4_hasMetreFrom_3 : AtA mX4_hasMetreFrom 3 2 4 := Or.inr ⟨2, by decide +kernel, rfl, rfl⟩
theorem dX4_hasMetreFrom_4 : AtF mX4_hasMetreFrom 4 4 2 7 := ⟨18, (RX4, TX4, 3), by decide +kernel, rfl, rfl, by decide, Or.inl (Or.inl ⟨325, by decide +kernel⟩)⟩
theorem dX4_hasMetreFrom_7 : AtJ mX4_hasMetreFrom 7 (.if_icmp .ge) 10 33 := ⟨26, by decide +kernel, rfl, by decide⟩
theorem dX4_hasMetreFrom_10 : AtA mX4_hasMetreFrom 10 0 11 := Or.inr ⟨0, by decide +kernel, rfl, rfl⟩
theorem dX4_hasMetreFrom_11 : AtI mX4_hasMetreFrom 11 1 12 := Or.inr ⟨1, by decide +kernel, rfl, rfl⟩
theorem dX4_hasMetreFrom_12 : AtI mX4_hasMetreFrom 12 3 13 := Or.inr ⟨3, by decide +kernel, rfl, rfl⟩
theorem dX4_hasMetreFrom_13 : At mX4_hasMetreFrom 13 .iadd 1 14 := ⟨by decide +kernel, rfl⟩
theorem dX4_hasMetreFrom_14 : AtV mX4_hasMetreFrom 14 mX4_lengthAt 1 4 17 := ⟨26, 211, 213, 3, (RX4, TX4, 3), by decide +kernel, rfl, rfl, by decide +kernel, by decide +kernel, by decide +kernel, rfl, ⟨⟨214, by decide +kernel⟩, ⟨70, by decide +kernel⟩, ⟨by decide, by decide⟩, by decide +kernel, by decide, by decide⟩⟩
theorem dX4_hasMetreFrom_17 : AtA mX4_hasMetreFrom 17 2 18 := Or.inr ⟨2, by decide +kernel, rfl, rfl⟩
theorem dX4_hasMetreFrom_18 : AtI mX4_hasMetreFrom 18 3 19 := Or.inr ⟨3, by decide +kernel, rfl, rfl⟩
theorem dX4_hasMetreFrom_19 : AtV mX4_hasMetreFrom 19 mX4_lengthAt 1 4 22 := ⟨26, 211, 213, 3, (RX4, TX4, 3), by decide +kernel, rfl, rfl, by decide +kernel, by decide +kernel, by decide +kernel, rfl, ⟨⟨214, by decide +kernel⟩, ⟨70, by decide +kernel⟩, ⟨by decide, by decide⟩, by decide +kernel, by decide, by decide⟩⟩
theorem dX4_hasMetreFrom_22 : AtJ mX4_hasMetreFrom 22 (.if_icmp .eq) 25 27 := ⟨5, by decide +kernel, rfl, by decide⟩
theorem dX4_hasMetreFrom_25 : AtK mX4_hasMetreFrom 25 (iZ 0) 26 := Or.inl ⟨0, by decide +kernel, by decide, rfl⟩
theorem dX4_hasMetreFrom_26 : At mX4_hasMetreFrom 26 .ireturn 1 27 := ⟨by decide +kernel, rfl⟩
theorem dX4_hasMetreFrom_27 : AtInc mX4_hasMetreFrom 27 3 (iZ 1) 30 := ⟨1, by decide +kernel, by decide, rfl, by decide⟩
theorem dX4_hasMetreFrom_30 : AtG mX4_hasMetreFrom 30 2 := ⟨(-28), by decide +kernel, by decide⟩
theorem dX4_hasMetreFrom_33 : AtK mX4_hasMetreFrom 33 (iZ 1) 34 := Or.inl ⟨1, by decide +kernel, by decide, rfl⟩
theorem dX4_hasMetreFrom_34 : At mX4_hasMetreFrom 34 .ireturn 1 35 := ⟨by decide +kernel, rfl⟩
theorem dX5_init_0 : AtA mX5_init 0 0 1 := Or.inr ⟨0, by decide +kernel, rfl, rfl⟩
theorem dX5_init_1 : AtO mX5_init 1 4 := ⟨1, 839, 89, 90, by decide +kernel, rfl, by decide +kernel, by decide +kernel, by decide +kernel, by decide, by decide⟩
theorem dX5_init_4 : AtA mX5_init 4 0 5 := Or.inr ⟨0, by decide +kernel, rfl, rfl⟩
theorem dX5_init_5 : AtA mX5_init 5 1 6 := Or.inr ⟨1, by decide +kernel, rfl, rfl⟩
theorem dX5_init_6 : AtP mX5_init 6 5 0 (.object "Hymnwright$Text") 9 := ⟨7, (RX5, TX5, 5), by decide +kernel, rfl, rfl, by decide, Or.inl ⟨840, by decide +kernel⟩, by decide +kernel, Or.inr ⟨rfl, rfl, rfl⟩⟩
theorem dX5_init_9 : AtA mX5_init 9 0 10 := Or.inr ⟨0, by decide +kernel, rfl, rfl⟩
theorem dX5_init_10 : AtA mX5_init 10 2 11 := Or.inr ⟨2, by decide +kernel, rfl, rfl⟩
theorem dX5_init_11 : AtP mX5_init 11 5 1 (.object "Hymnwright$Tune") 14 := ⟨13, (RX5, TX5, 5), by decide +kernel, rfl, rfl, by decide, Or.inl ⟨842, by decide +kernel⟩, by decide +kernel, Or.inr ⟨rfl, rfl, rfl⟩⟩
theorem dX5_init_14 : AtA mX5_init 14 0 15 := Or.inr ⟨0, by decide +kernel, rfl, rfl⟩
theorem dX5_init_15 : AtI mX5_init 15 3 16 := Or.inr ⟨3, by decide +kernel, rfl, rfl⟩
theorem dX5_init_16 : AtP mX5_init 16 5 2 (.int) 19 := ⟨17, (RX5, TX5, 5), by decide +kernel, rfl, rfl, by decide, Or.inl ⟨844, by decide +kernel⟩, by decide +kernel, Or.inr ⟨rfl, rfl, rfl⟩⟩
theorem dX5_init_19 : AtA mX5_init 19 0 20 := Or.inr ⟨0, by decide +kernel, rfl, rfl⟩
theorem dX5_init_20 : AtI mX5_init 20 4 22 := Or.inl ⟨by decide +kernel, rfl⟩
theorem dX5_init_22 : AtP mX5_init 22 5 3 (.int) 25 := ⟨21, (RX5, TX5, 5), by decide +kernel, rfl, rfl, by decide, Or.inl ⟨846, by decide +kernel⟩, by decide +kernel, Or.inr ⟨rfl, rfl, rfl⟩⟩
theorem dX5_init_25 : AtA mX5_init 25 0 26 := Or.inr ⟨0, by decide +kernel, rfl, rfl⟩
theorem dX5_init_26 : AtI mX5_init 26 5 28 := Or.inl ⟨by decide +kernel, rfl⟩
theorem dX5_init_28 : AtP mX5_init 28 5 4 (.int) 31 := ⟨24, (RX5, TX5, 5), by decide +kernel, rfl, rfl, by decide, Or.inl ⟨848, by decide +kernel⟩, by decide +kernel, Or.inr ⟨rfl, rfl, rfl⟩⟩
theorem dX5_init_31 : At mX5_init 31 .return_ 1 32 := ⟨by decide +kernel, rfl⟩
theorem dX6_init_0 : AtA mX6_init 0 0 1 := Or.inr ⟨0, by decide +kernel, rfl, rfl⟩
theorem dX6_init_1 : AtO mX6_init 1 4 := ⟨1, 317, 89, 90, by decide +kernel, rfl, by decide +kernel, by decide +kernel, by decide +kernel, by decide, by decide⟩
theorem dX6_init_4 : AtA mX6_init 4 0 5 := Or.inr ⟨0, by decide +kernel, rfl, rfl⟩
theorem dX6_init_5 : AtN mX6_init 5 4 [.null, .null, .int 0] 8 := ⟨7, 318, 205, 70, (RX4, TX4, 3), by decide +kernel, rfl, rfl, by decide +kernel, by decide +kernel, by decide +kernel, rfl, fun j hj => by rcases (show j = 0 ∨ j = 1 ∨ j = 2 from by have hj : j < 3 := hj; omega) with rfl | rfl | rfl <;> rfl⟩
theorem dX6_init_8 : At mX6_init 8 .dup 1 9 := ⟨by decide +kernel, rfl⟩
theorem dX6_init_9 : AtNIN mX6_init 9 mX4_init 0 12 := ⟨9, 319, 320, "Hymnwright", by decide +kernel, rfl, by decide +kernel, by decide +kernel, rfl, rfl, rfl, ⟨⟨321, by decide +kernel⟩, ⟨70, by decide +kernel⟩, ⟨by decide, by decide⟩, by decide +kernel, by decide, by decide⟩⟩
theorem dX6_init_12 : AtP mX6_init 12 6 3 (.object "Hymnwright$Rows") 15 := ⟨10, (RX6, TX6, 4), by decide +kernel, rfl, rfl, by decide, Or.inl ⟨352, by decide +kernel⟩, by decide +kernel, Or.inr ⟨rfl, rfl, rfl⟩⟩
theorem dX6_init_15 : AtA mX6_init 15 0 16 := Or.inr ⟨0, by decide +kernel, rfl, rfl⟩
theorem dX6_init_16 : AtI mX6_init 16 1 17 := Or.inr ⟨1, by decide +kernel, rfl, rfl⟩
theorem dX6_init_17 : AtP mX6_init 17 6 0 (.int) 20 := ⟨16, (RX6, TX6, 4), by decide +kernel, rfl, rfl, by decide, Or.inl ⟨347, by decide +kernel⟩, by decide +kernel, Or.inr ⟨rfl, rfl, rfl⟩⟩
theorem dX6_init_20 : AtA mX6_init 20 0 21 := Or.inr ⟨0, by decide +kernel, rfl, rfl⟩
theorem dX6_init_21 : AtI mX6_init 21 3 22 := Or.inr ⟨3, by decide +kernel, rfl, rfl⟩
theorem dX6_init_22 : AtP mX6_init 22 6 1 (.int) 25 := ⟨20, (RX6, TX6, 4), by decide +kernel, rfl, rfl, by decide, Or.inl ⟨349, by decide +kernel⟩, by decide +kernel, Or.inr ⟨rfl, rfl, rfl⟩⟩
theorem dX6_init_25 : AtA mX6_init 25 0 26 := Or.inr ⟨0, by decide +kernel, rfl, rfl⟩
theorem dX6_init_26 : AtN mX6_init 26 3 [.int 0, .int 0] 29 := ⟨23, 334, 335, 71, (RX3, TX3, 2), by decide +kernel, rfl, rfl, by decide +kernel, by decide +kernel, by decide +kernel, rfl, fun j hj => by rcases (show j = 0 ∨ j = 1 from by have hj : j < 2 := hj; omega) with rfl | rfl <;> rfl⟩
theorem dX6_init_29 : At mX6_init 29 .dup 1 30 := ⟨by decide +kernel, rfl⟩
theorem dX6_init_30 : AtI mX6_init 30 2 31 := Or.inr ⟨2, by decide +kernel, rfl, rfl⟩
theorem dX6_init_31 : AtNIN mX6_init 31 mX3_init 1 34 := ⟨25, 336, 337, "Hymnwright", by decide +kernel, rfl, by decide +kernel, by decide +kernel, rfl, rfl, rfl, ⟨⟨338, by decide +kernel⟩, ⟨71, by decide +kernel⟩, ⟨by decide, by decide⟩, by decide +kernel, by decide, by decide⟩⟩
theorem dX6_init_34 : AtP mX6_init 34 6 2 (.object "Hymnwright$Rights") 37 := ⟨28, (RX6, TX6, 4), by decide +kernel, rfl, rfl, by decide, Or.inl ⟨350, by decide +kernel⟩, by decide +kernel, Or.inr ⟨rfl, rfl, rfl⟩⟩
theorem dX6_init_37 : At mX6_init 37 .return_ 1 38 := ⟨by decide +kernel, rfl⟩
theorem dX6_hasTheme_0 : AtA mX6_hasTheme 0 0 1 := Or.inr ⟨0, by decide +kernel, rfl, rfl⟩
theorem dX6_hasTheme_1 : AtF mX6_hasTheme 1 6 1 4 := ⟨20, (RX6, TX6, 4), by decide +kernel, rfl, rfl, by decide, Or.inl (Or.inl ⟨349, by decide +kernel⟩)⟩
theorem dX6_hasTheme_4 : AtI mX6_hasTheme 4 1 5 := Or.inr ⟨1, by decide +kernel, rfl, rfl⟩
theorem dX6_hasTheme_5 : At mX6_hasTheme 5 .ishr 1 6 := ⟨by decide +kernel, rfl⟩
theorem dX6_hasTheme_6 : AtK mX6_hasTheme 6 (iZ 1) 7 := Or.inl ⟨1, by decide +kernel, by decide, rfl⟩
theorem dX6_hasTheme_7 : At mX6_hasTheme 7 .iand 1 8 := ⟨by decide +kernel, rfl⟩
theorem dX6_hasTheme_8 : AtK mX6_hasTheme 8 (iZ 1) 9 := Or.inl ⟨1, by decide +kernel, by decide, rfl⟩
theorem dX6_hasTheme_9 : AtJ mX6_hasTheme 9 (.if_icmp .ne) 12 16 := ⟨7, by decide +kernel, rfl, by decide⟩
theorem dX6_hasTheme_12 : AtK mX6_hasTheme 12 (iZ 1) 13 := Or.inl ⟨1, by decide +kernel, by decide, rfl⟩
theorem dX6_hasTheme_13 : AtG mX6_hasTheme 13 17 := ⟨4, by decide +kernel, by decide⟩
theorem dX6_hasTheme_16 : AtK mX6_hasTheme 16 (iZ 0) 17 := Or.inl ⟨0, by decide +kernel, by decide, rfl⟩
theorem dX6_hasTheme_17 : At mX6_hasTheme 17 .ireturn 1 18 := ⟨by decide +kernel, rfl⟩
theorem dX7_init_0 : AtA mX7_init 0 0 1 := Or.inr ⟨0, by decide +kernel, rfl, rfl⟩
theorem dX7_init_1 : AtO mX7_init 1 4 := ⟨1, 475, 89, 90, by decide +kernel, rfl, by decide +kernel, by decide +kernel, by decide +kernel, by decide, by decide⟩
theorem dX7_init_4 : AtA mX7_init 4 0 5 := Or.inr ⟨0, by decide +kernel, rfl, rfl⟩
theorem dX7_init_5 : AtN mX7_init 5 4 [.null, .null, .int 0] 8 := ⟨7, 476, 205, 70, (RX4, TX4, 3), by decide +kernel, rfl, rfl, by decide +kernel, by decide +kernel, by decide +kernel, rfl, fun j hj => by rcases (show j = 0 ∨ j = 1 ∨ j = 2 from by have hj : j < 3 := hj; omega) with rfl | rfl | rfl <;> rfl⟩
theorem dX7_init_8 : At mX7_init 8 .dup 1 9 := ⟨by decide +kernel, rfl⟩
theorem dX7_init_9 : AtNIN mX7_init 9 mX4_init 0 12 := ⟨9, 477, 320, "Hymnwright", by decide +kernel, rfl, by decide +kernel, by decide +kernel, rfl, rfl, rfl, ⟨⟨321, by decide +kernel⟩, ⟨70, by decide +kernel⟩, ⟨by decide, by decide⟩, by decide +kernel, by decide, by decide⟩⟩
theorem dX7_init_12 : AtP mX7_init 12 7 4 (.object "Hymnwright$Rows") 15 := ⟨10, (RX7, TX7, 5), by decide +kernel, rfl, rfl, by decide, Or.inl ⟨488, by decide +kernel⟩, by decide +kernel, Or.inr ⟨rfl, rfl, rfl⟩⟩
theorem dX7_init_15 : AtA mX7_init 15 0 16 := Or.inr ⟨0, by decide +kernel, rfl, rfl⟩
theorem dX7_init_16 : AtI mX7_init 16 1 17 := Or.inr ⟨1, by decide +kernel, rfl, rfl⟩
theorem dX7_init_17 : AtP mX7_init 17 7 0 (.int) 20 := ⟨16, (RX7, TX7, 5), by decide +kernel, rfl, rfl, by decide, Or.inl ⟨480, by decide +kernel⟩, by decide +kernel, Or.inr ⟨rfl, rfl, rfl⟩⟩
theorem dX7_init_20 : AtA mX7_init 20 0 21 := Or.inr ⟨0, by decide +kernel, rfl, rfl⟩
theorem dX7_init_21 : AtI mX7_init 21 3 22 := Or.inr ⟨3, by decide +kernel, rfl, rfl⟩
theorem dX7_init_22 : AtP mX7_init 22 7 1 (.int) 25 := ⟨20, (RX7, TX7, 5), by decide +kernel, rfl, rfl, by decide, Or.inl ⟨482, by decide +kernel⟩, by decide +kernel, Or.inr ⟨rfl, rfl, rfl⟩⟩
theorem dX7_init_25 : AtA mX7_init 25 0 26 := Or.inr ⟨0, by decide +kernel, rfl, rfl⟩
theorem dX7_init_26 : AtI mX7_init 26 4 28 := Or.inl ⟨by decide +kernel, rfl⟩
theorem dX7_init_28 : AtP mX7_init 28 7 2 (.int) 31 := ⟨23, (RX7, TX7, 5), by decide +kernel, rfl, rfl, by decide, Or.inl ⟨484, by decide +kernel⟩, by decide +kernel, Or.inr ⟨rfl, rfl, rfl⟩⟩
theorem dX7_init_31 : AtA mX7_init 31 0 32 := Or.inr ⟨0, by decide +kernel, rfl, rfl⟩
theorem dX7_init_32 : AtN mX7_init 32 3 [.int 0, .int 0] 35 := ⟨26, 478, 335, 71, (RX3, TX3, 2), by decide +kernel, rfl, rfl, by decide +kernel, by decide +kernel, by decide +kernel, rfl, fun j hj => by rcases (show j = 0 ∨ j = 1 from by have hj : j < 2 := hj; omega) with rfl | rfl <;> rfl⟩
theorem dX7_init_35 : At mX7_init 35 .dup 1 36 := ⟨by decide +kernel, rfl⟩
theorem dX7_init_36 : AtI mX7_init 36 2 37 := Or.inr ⟨2, by decide +kernel, rfl, rfl⟩
theorem dX7_init_37 : AtNIN mX7_init 37 mX3_init 1 40 := ⟨28, 479, 337, "Hymnwright", by decide +kernel, rfl, by decide +kernel, by decide +kernel, rfl, rfl, rfl, ⟨⟨338, by decide +kernel⟩, ⟨71, by decide +kernel⟩, ⟨by decide, by decide⟩, by decide +kernel, by decide, by decide⟩⟩
theorem dX7_init_40 : AtP mX7_init 40 7 3 (.object "Hymnwright$Rights") 43 := ⟨31, (RX7, TX7, 5), by decide +kernel, rfl, rfl, by decide, Or.inl ⟨486, by decide +kernel⟩, by decide +kernel, Or.inr ⟨rfl, rfl, rfl⟩⟩
theorem dX7_init_43 : At mX7_init 43 .return_ 1 44 := ⟨by decide +kernel, rfl⟩
theorem dX8_init_0 : AtA mX8_init 0 0 1 := Or.inr ⟨0, by decide +kernel, rfl, rfl⟩
theorem dX8_init_1 : AtO mX8_init 1 4 := ⟨3, 136, 89, 90, by decide +kernel, rfl, by decide +kernel, by decide +kernel, by decide +kernel, by decide, by decide⟩
theorem dX8_init_4 : AtA mX8_init 4 0 5 := Or.inr ⟨0, by decide +kernel, rfl, rfl⟩
theorem dX8_init_5 : AtK mX8_init 5 (iZ 366) 8 := Or.inr (Or.inr (Or.inl ⟨366, by decide +kernel, by decide, rfl⟩))
theorem dX8_init_8 : AtNA mX8_init 8 0 10 := ⟨.int, 130, by decide +kernel, rfl, by decide +kernel, by decide, rfl, by decide⟩
theorem dX8_init_10 : AtP mX8_init 10 8 0 (.array .int) 13 := ⟨9, (RX8, TX8, 5), by decide +kernel, rfl, rfl, by decide, Or.inl ⟨137, by decide +kernel⟩, by decide +kernel, Or.inr ⟨rfl, rfl, rfl⟩⟩
theorem dX8_init_13 : AtA mX8_init 13 0 14 := Or.inr ⟨0, by decide +kernel, rfl, rfl⟩
theorem dX8_init_14 : AtK mX8_init 14 (iZ 20) 16 := Or.inr (Or.inl ⟨20, by decide +kernel, by decide, rfl⟩)
theorem dX8_init_16 : AtNA mX8_init 16 0 18 := ⟨.int, 130, by decide +kernel, rfl, by decide +kernel, by decide, rfl, by decide⟩
theorem dX8_init_18 : AtP mX8_init 18 8 1 (.array .int) 21 := ⟨15, (RX8, TX8, 5), by decide +kernel, rfl, rfl, by decide, Or.inl ⟨138, by decide +kernel⟩, by decide +kernel, Or.inr ⟨rfl, rfl, rfl⟩⟩
theorem dX8_init_21 : AtA mX8_init 21 0 22 := Or.inr ⟨0, by decide +kernel, rfl, rfl⟩
theorem dX8_init_22 : AtK mX8_init 22 (iZ 2000) 25 := Or.inr (Or.inr (Or.inl ⟨2000, by decide +kernel, by decide, rfl⟩))
theorem dX8_init_25 : AtP mX8_init 25 8 2 (.int) 28 := ⟨18, (RX8, TX8, 5), by decide +kernel, rfl, rfl, by decide, Or.inl ⟨139, by decide +kernel⟩, by decide +kernel, Or.inl rfl⟩
theorem dX8_init_28 : AtA mX8_init 28 0 29 := Or.inr ⟨0, by decide +kernel, rfl, rfl⟩
theorem dX8_init_29 : AtK mX8_init 29 (iZ 0) 30 := Or.inl ⟨0, by decide +kernel, by decide, rfl⟩
theorem dX8_init_30 : AtP mX8_init 30 8 3 (.int) 33 := ⟨22, (RX8, TX8, 5), by decide +kernel, rfl, rfl, by decide, Or.inl ⟨140, by decide +kernel⟩, by decide +kernel, Or.inl rfl⟩
theorem dX8_init_33 : AtA mX8_init 33 0 34 := Or.inr ⟨0, by decide +kernel, rfl, rfl⟩
theorem dX8_init_34 : AtK mX8_init 34 (iZ 0) 35 := Or.inl ⟨0, by decide +kernel, by decide, rfl⟩
theorem dX8_init_35 : AtP mX8_init 35 8 4 (.int) 38 := ⟨25, (RX8, TX8, 5), by decide +kernel, rfl, rfl, by decide, Or.inl ⟨141, by decide +kernel⟩, by decide +kernel, Or.inl rfl⟩
theorem dX8_init_38 : At mX8_init 38 .return_ 1 39 := ⟨by decide +kernel, rfl⟩
theorem dX8_layOut_0 : AtA mX8_layOut 0 0 1 := Or.inr ⟨0, by decide +kernel, rfl, rfl⟩
theorem dX8_layOut_1 : AtI mX8_layOut 1 1 2 := Or.inr ⟨1, by decide +kernel, rfl, rfl⟩
theorem dX8_layOut_2 : AtP mX8_layOut 2 8 2 (.int) 5 := ⟨18, (RX8, TX8, 5), by decide +kernel, rfl, rfl, by decide, Or.inl ⟨139, by decide +kernel⟩, by decide +kernel, Or.inl rfl⟩
theorem dX8_layOut_5 : AtA mX8_layOut 5 0 6 := Or.inr ⟨0, by decide +kernel, rfl, rfl⟩
theorem dX8_layOut_6 : AtI mX8_layOut 6 1 7 := Or.inr ⟨1, by decide +kernel, rfl, rfl⟩
theorem dX8_layOut_7 : AtK mX8_layOut 7 (iZ 0) 8 := Or.inl ⟨0, by decide +kernel, by decide, rfl⟩
theorem dX8_layOut_8 : AtSN mX8_layOut 8 mX0_dayOfWeek 2 11 := ⟨28, 722, 634, "Hymnwright", by decide +kernel, rfl, by decide +kernel, by decide +kernel, rfl, ⟨⟨635, by decide +kernel⟩, ⟨80, by decide +kernel⟩, ⟨by decide, by decide⟩, by decide +kernel, by decide, by decide⟩⟩
theorem dX8_layOut_11 : AtP mX8_layOut 11 8 3 (.int) 14 := ⟨22, (RX8, TX8, 5), by decide +kernel, rfl, rfl, by decide, Or.inl ⟨140, by decide +kernel⟩, by decide +kernel, Or.inl rfl⟩
theorem dX8_layOut_14 : AtA mX8_layOut 14 0 15 := Or.inr ⟨0, by decide +kernel, rfl, rfl⟩
theorem dX8_layOut_15 : AtI mX8_layOut 15 3 16 := Or.inr ⟨3, by decide +kernel, rfl, rfl⟩
theorem dX8_layOut_16 : AtP mX8_layOut 16 8 4 (.int) 19 := ⟨25, (RX8, TX8, 5), by decide +kernel, rfl, rfl, by decide, Or.inl ⟨141, by decide +kernel⟩, by decide +kernel, Or.inl rfl⟩
theorem dX8_layOut_19 : AtA mX8_layOut 19 0 20 := Or.inr ⟨0, by decide +kernel, rfl, rfl⟩
theorem dX8_layOut_20 : AtF mX8_layOut 20 8 0 23 := ⟨9, (RX8, TX8, 5), by decide +kernel, rfl, rfl, by decide, Or.inl (Or.inl ⟨137, by decide +kernel⟩)⟩
theorem dX8_layOut_23 : AtK mX8_layOut 23 (iZ (-100)) 25 := Or.inr (Or.inl ⟨(-100), by decide +kernel, by decide, rfl⟩)
theorem dX8_layOut_25 : AtS mX8_layOut 25 mJ7_fill_53178 2 28 := ⟨34, 723, 124, by decide +kernel, rfl, by decide +kernel, by decide +kernel, rfl, ⟨⟨125, by decide +kernel⟩, ⟨61, by decide +kernel⟩, ⟨by decide, by decide⟩, by decide +kernel, by decide, by decide⟩⟩
theorem dX8_layOut_28 : AtA mX8_layOut 28 0 29 := Or.inr ⟨0, by decide +kernel, rfl, rfl⟩
theorem dX8_layOut_29 : AtF mX8_layOut 29 8 1 32 := ⟨15, (RX8, TX8, 5), by decide +kernel, rfl, rfl, by decide, Or.inl (Or.inl ⟨138, by decide +kernel⟩)⟩
theorem dX8_layOut_32 : AtK mX8_layOut 32 (iZ (-100)) 34 := Or.inr (Or.inl ⟨(-100), by decide +kernel, by decide, rfl⟩)
theorem dX8_layOut_34 : AtS mX8_layOut 34 mJ7_fill_53178 2 37 := ⟨34, 723, 124, by decide +kernel, rfl, by decide +kernel, by decide +kernel, rfl, ⟨⟨125, by decide +kernel⟩, ⟨61, by decide +kernel⟩, ⟨by decide, by decide⟩, by decide +kernel, by decide, by decide⟩⟩
theorem dX8_layOut_37 : AtK mX8_layOut 37 (iZ 9) 39 := Or.inr (Or.inl ⟨9, by decide +kernel, by decide, rfl⟩)
theorem dX8_layOut_39 : AtSI mX8_layOut 39 4 41 := ⟨Or.inl ⟨by decide +kernel, rfl⟩, by decide⟩
theorem dX8_layOut_41 : AtI mX8_layOut 41 4 43 := Or.inl ⟨by decide +kernel, rfl⟩
theorem dX8_layOut_43 : AtK mX8_layOut 43 (iZ 1) 44 := Or.inl ⟨1, by decide +kernel, by decide, rfl⟩
theorem dX8_layOut_44 : AtJ mX8_layOut 44 (.if_icmp .lt) 47 103 := ⟨59, by decide +kernel, rfl, by decide⟩
theorem dX8_layOut_47 : AtK mX8_layOut 47 (iZ 0) 48 := Or.inl ⟨0, by decide +kernel, by decide, rfl⟩
theorem dX8_layOut_48 : AtSI mX8_layOut 48 5 50 := ⟨Or.inl ⟨by decide +kernel, rfl⟩, by decide⟩
theorem dX8_layOut_50 : AtI mX8_layOut 50 5 52 := Or.inl ⟨by decide +kernel, rfl⟩
theorem dX8_layOut_52 : AtA mX8_layOut 52 2 53 := Or.inr ⟨2, by decide +kernel, rfl, rfl⟩
theorem dX8_layOut_53 : AtV mX8_layOut 53 mJx4a65c_size_8abf5 0 0 56 := ⟨40, 724, 180, 181, (RJx4a65c, TJx4a65c, 3), by decide +kernel, rfl, rfl, by decide +kernel, by decide +kernel, by decide +kernel, rfl, ⟨⟨182, by decide +kernel⟩, ⟨59, by decide +kernel⟩, ⟨by decide, by decide⟩, by decide +kernel, by decide, by decide⟩⟩
theorem dX8_layOut_56 : AtJ mX8_layOut 56 (.if_icmp .ge) 59 97 := ⟨41, by decide +kernel, rfl, by decide⟩
theorem dX8_layOut_59 : AtA mX8_layOut 59 2 60 := Or.inr ⟨2, by decide +kernel, rfl, rfl⟩
theorem dX8_layOut_60 : AtI mX8_layOut 60 5 62 := Or.inl ⟨by decide +kernel, rfl⟩
theorem dX8_layOut_62 : AtV mX8_layOut 62 mJx4a65c_get_915e3 1 0 65 := ⟨46, 725, 184, 185, (RJx4a65c, TJx4a65c, 3), by decide +kernel, rfl, rfl, by decide +kernel, by decide +kernel, by decide +kernel, rfl, ⟨⟨186, by decide +kernel⟩, ⟨59, by decide +kernel⟩, ⟨by decide, by decide⟩, by decide +kernel, by decide, by decide⟩⟩
theorem dX8_layOut_65 : AtC mX8_layOut 65 1 68 := ⟨50, 726, (RX1, TX1, 5), by decide +kernel, rfl, rfl, by decide +kernel⟩
theorem dX8_layOut_68 : AtF mX8_layOut 68 1 0 71 := ⟨52, (RX1, TX1, 5), by decide +kernel, rfl, rfl, by decide, Or.inr ⟨655, "Hymnwright", by decide +kernel⟩⟩
theorem dX8_layOut_71 : AtI mX8_layOut 71 4 73 := Or.inl ⟨by decide +kernel, rfl⟩
theorem dX8_layOut_73 : AtJ mX8_layOut 73 (.if_icmp .ne) 76 91 := ⟨18, by decide +kernel, rfl, by decide⟩
theorem dX8_layOut_76 : AtA mX8_layOut 76 0 77 := Or.inr ⟨0, by decide +kernel, rfl, rfl⟩
theorem dX8_layOut_77 : AtI mX8_layOut 77 5 79 := Or.inl ⟨by decide +kernel, rfl⟩
theorem dX8_layOut_79 : AtA mX8_layOut 79 2 80 := Or.inr ⟨2, by decide +kernel, rfl, rfl⟩
theorem dX8_layOut_80 : AtI mX8_layOut 80 5 82 := Or.inl ⟨by decide +kernel, rfl⟩
theorem dX8_layOut_82 : AtV mX8_layOut 82 mJx4a65c_get_915e3 1 0 85 := ⟨46, 725, 184, 185, (RJx4a65c, TJx4a65c, 3), by decide +kernel, rfl, rfl, by decide +kernel, by decide +kernel, by decide +kernel, rfl, ⟨⟨186, by decide +kernel⟩, ⟨59, by decide +kernel⟩, ⟨by decide, by decide⟩, by decide +kernel, by decide, by decide⟩⟩
theorem dX8_layOut_85 : AtC mX8_layOut 85 1 88 := ⟨50, 726, (RX1, TX1, 5), by decide +kernel, rfl, rfl, by decide +kernel⟩
theorem dX8_layOut_88 : AtV mX8_layOut 88 mX8_put 2 8 91 := ⟨55, 727, 729, 20, (RX8, TX8, 5), by decide +kernel, rfl, rfl, by decide +kernel, by decide +kernel, by decide +kernel, rfl, ⟨⟨730, by decide +kernel⟩, ⟨62, by decide +kernel⟩, ⟨by decide, by decide⟩, by decide +kernel, by decide, by decide⟩⟩
theorem dX8_layOut_91 : AtInc mX8_layOut 91 5 (iZ 1) 94 := ⟨1, by decide +kernel, by decide, rfl, by decide⟩
theorem dX8_layOut_94 : AtG mX8_layOut 94 50 := ⟨(-44), by decide +kernel, by decide⟩
theorem dX8_layOut_97 : AtInc mX8_layOut 97 4 (iZ (-1)) 100 := ⟨(-1), by decide +kernel, by decide, rfl, by decide⟩
theorem dX8_layOut_100 : AtG mX8_layOut 100 41 := ⟨(-59), by decide +kernel, by decide⟩
theorem dX8_layOut_103 : At mX8_layOut 103 .return_ 1 104 := ⟨by decide +kernel, rfl⟩
theorem dX8_put_0 : AtA mX8_put 0 2 1 := Or.inr ⟨2, by decide +kernel, rfl, rfl⟩
theorem dX8_put_1 : AtA mX8_put 1 0 2 := Or.inr ⟨0, by decide +kernel, rfl, rfl⟩
theorem dX8_put_2 : AtF mX8_put 2 8 2 5 := ⟨18, (RX8, TX8, 5), by decide +kernel, rfl, rfl, by decide, Or.inl (Or.inl ⟨139, by decide +kernel⟩)⟩
theorem dX8_put_5 : AtVN mX8_put 5 mX1_ownDay 1 1 8 := ⟨59, 731, 733, 21, (RX1, TX1, 5), "Hymnwright", by decide +kernel, rfl, rfl, by decide +kernel, by decide +kernel, by decide +kernel, rfl, ⟨⟨734, by decide +kernel⟩, ⟨81, by decide +kernel⟩, ⟨by decide, by decide⟩, by decide +kernel, by decide, by decide⟩⟩
theorem dX8_put_8 : AtSI mX8_put 8 3 9 := ⟨Or.inr ⟨3, by decide +kernel, rfl, rfl⟩, by decide⟩
theorem dX8_put_9 : AtI mX8_put 9 3 10 := Or.inr ⟨3, by decide +kernel, rfl, rfl⟩
theorem dX8_put_10 : AtK mX8_put 10 (iZ (-100)) 12 := Or.inr (Or.inl ⟨(-100), by decide +kernel, by decide, rfl⟩)
theorem dX8_put_12 : AtJ mX8_put 12 (.if_icmp .eq) 15 28 := ⟨16, by decide +kernel, rfl, by decide⟩
theorem dX8_put_15 : AtI mX8_put 15 1 16 := Or.inr ⟨1, by decide +kernel, rfl, rfl⟩
theorem dX8_put_16 : AtJ mX8_put 16 (.ifCond .lt) 19 28 := ⟨12, by decide +kernel, rfl, by decide⟩
theorem dX8_put_19 : AtI mX8_put 19 1 20 := Or.inr ⟨1, by decide +kernel, rfl, rfl⟩
theorem dX8_put_20 : AtA mX8_put 20 0 21 := Or.inr ⟨0, by decide +kernel, rfl, rfl⟩
theorem dX8_put_21 : AtF mX8_put 21 8 1 24 := ⟨15, (RX8, TX8, 5), by decide +kernel, rfl, rfl, by decide, Or.inl (Or.inl ⟨138, by decide +kernel⟩)⟩
theorem dX8_put_24 : At mX8_put 24 .arraylength 1 25 := ⟨by decide +kernel, rfl⟩
theorem dX8_put_25 : AtJ mX8_put 25 (.if_icmp .lt) 28 29 := ⟨4, by decide +kernel, rfl, by decide⟩
theorem dX8_put_28 : At mX8_put 28 .return_ 1 29 := ⟨by decide +kernel, rfl⟩
theorem dX8_put_29 : AtA mX8_put 29 2 30 := Or.inr ⟨2, by decide +kernel, rfl, rfl⟩
theorem dX8_put_30 : AtF mX8_put 30 1 1 33 := ⟨63, (RX1, TX1, 5), by decide +kernel, rfl, rfl, by decide, Or.inr ⟨657, "Hymnwright", by decide +kernel⟩⟩
theorem dX8_put_33 : AtJ mX8_put 33 (.ifCond .eq) 36 43 := ⟨10, by decide +kernel, rfl, by decide⟩
theorem dX8_put_36 : AtI mX8_put 36 3 37 := Or.inr ⟨3, by decide +kernel, rfl, rfl⟩
theorem dX8_put_37 : AtK mX8_put 37 (iZ 30) 39 := Or.inr (Or.inl ⟨30, by decide +kernel, by decide, rfl⟩)
theorem dX8_put_39 : At mX8_put 39 .iadd 1 40 := ⟨by decide +kernel, rfl⟩
theorem dX8_put_40 : AtG mX8_put 40 44 := ⟨4, by decide +kernel, by decide⟩
theorem dX8_put_43 : AtI mX8_put 43 3 44 := Or.inr ⟨3, by decide +kernel, rfl, rfl⟩
theorem dX8_put_44 : AtA mX8_put 44 0 45 := Or.inr ⟨0, by decide +kernel, rfl, rfl⟩
theorem dX8_put_45 : AtF mX8_put 45 8 2 48 := ⟨18, (RX8, TX8, 5), by decide +kernel, rfl, rfl, by decide, Or.inl (Or.inl ⟨139, by decide +kernel⟩)⟩
theorem dX8_put_48 : AtSN mX8_put 48 mX0_yearLength 1 51 := ⟨67, 738, 739, "Hymnwright", by decide +kernel, rfl, by decide +kernel, by decide +kernel, rfl, ⟨⟨740, by decide +kernel⟩, ⟨80, by decide +kernel⟩, ⟨by decide, by decide⟩, by decide +kernel, by decide, by decide⟩⟩
theorem dX8_put_51 : AtK mX8_put 51 (iZ 1) 52 := Or.inl ⟨1, by decide +kernel, by decide, rfl⟩
theorem dX8_put_52 : At mX8_put 52 .isub 1 53 := ⟨by decide +kernel, rfl⟩
theorem dX8_put_53 : AtS mX8_put 53 mJ9_min_7cf53 2 56 := ⟨70, 741, 417, by decide +kernel, rfl, by decide +kernel, by decide +kernel, rfl, ⟨⟨418, by decide +kernel⟩, ⟨73, by decide +kernel⟩, ⟨by decide, by decide⟩, by decide +kernel, by decide, by decide⟩⟩
theorem dX8_put_56 : AtSI mX8_put 56 4 58 := ⟨Or.inl ⟨by decide +kernel, rfl⟩, by decide⟩
theorem dX8_put_58 : AtI mX8_put 58 3 59 := Or.inr ⟨3, by decide +kernel, rfl, rfl⟩
theorem dX8_put_59 : AtSI mX8_put 59 5 61 := ⟨Or.inl ⟨by decide +kernel, rfl⟩, by decide⟩
theorem dX8_put_61 : AtI mX8_put 61 5 63 := Or.inl ⟨by decide +kernel, rfl⟩
theorem dX8_put_63 : AtI mX8_put 63 4 65 := Or.inl ⟨by decide +kernel, rfl⟩
theorem dX8_put_65 : AtJ mX8_put 65 (.if_icmp .gt) 68 104 := ⟨39, by decide +kernel, rfl, by decide⟩
theorem dX8_put_68 : AtA mX8_put 68 0 69 := Or.inr ⟨0, by decide +kernel, rfl, rfl⟩
theorem dX8_put_69 : AtI mX8_put 69 5 71 := Or.inl ⟨by decide +kernel, rfl⟩
theorem dX8_put_71 : AtA mX8_put 71 2 72 := Or.inr ⟨2, by decide +kernel, rfl, rfl⟩
theorem dX8_put_72 : AtF mX8_put 72 1 0 75 := ⟨52, (RX1, TX1, 5), by decide +kernel, rfl, rfl, by decide, Or.inr ⟨655, "Hymnwright", by decide +kernel⟩⟩
theorem dX8_put_75 : AtV mX8_put 75 mX8_isOpen 2 8 78 := ⟨75, 742, 744, 22, (RX8, TX8, 5), by decide +kernel, rfl, rfl, by decide +kernel, by decide +kernel, by decide +kernel, rfl, ⟨⟨745, by decide +kernel⟩, ⟨62, by decide +kernel⟩, ⟨by decide, by decide⟩, by decide +kernel, by decide, by decide⟩⟩
theorem dX8_put_78 : AtJ mX8_put 78 (.ifCond .eq) 81 98 := ⟨20, by decide +kernel, rfl, by decide⟩
theorem dX8_put_81 : AtA mX8_put 81 0 82 := Or.inr ⟨0, by decide +kernel, rfl, rfl⟩
theorem dX8_put_82 : AtF mX8_put 82 8 0 85 := ⟨9, (RX8, TX8, 5), by decide +kernel, rfl, rfl, by decide, Or.inl (Or.inl ⟨137, by decide +kernel⟩)⟩
theorem dX8_put_85 : AtI mX8_put 85 5 87 := Or.inl ⟨by decide +kernel, rfl⟩
theorem dX8_put_87 : AtI mX8_put 87 1 88 := Or.inr ⟨1, by decide +kernel, rfl, rfl⟩
theorem dX8_put_88 : At mX8_put 88 .iastore 1 89 := ⟨by decide +kernel, rfl⟩
theorem dX8_put_89 : AtA mX8_put 89 0 90 := Or.inr ⟨0, by decide +kernel, rfl, rfl⟩
theorem dX8_put_90 : AtF mX8_put 90 8 1 93 := ⟨15, (RX8, TX8, 5), by decide +kernel, rfl, rfl, by decide, Or.inl (Or.inl ⟨138, by decide +kernel⟩)⟩
theorem dX8_put_93 : AtI mX8_put 93 1 94 := Or.inr ⟨1, by decide +kernel, rfl, rfl⟩
theorem dX8_put_94 : AtI mX8_put 94 5 96 := Or.inl ⟨by decide +kernel, rfl⟩
theorem dX8_put_96 : At mX8_put 96 .iastore 1 97 := ⟨by decide +kernel, rfl⟩
theorem dX8_put_97 : At mX8_put 97 .return_ 1 98 := ⟨by decide +kernel, rfl⟩
theorem dX8_put_98 : AtInc mX8_put 98 5 (iZ 1) 101 := ⟨1, by decide +kernel, by decide, rfl, by decide⟩
theorem dX8_put_101 : AtG mX8_put 101 61 := ⟨(-40), by decide +kernel, by decide⟩
theorem dX8_put_104 : At mX8_put 104 .return_ 1 105 := ⟨by decide +kernel, rfl⟩
theorem dX8_isOpen_0 : AtI mX8_isOpen 0 1 1 := Or.inr ⟨1, by decide +kernel, rfl, rfl⟩
theorem dX8_isOpen_1 : AtJ mX8_isOpen 1 (.ifCond .lt) 4 28 := ⟨27, by decide +kernel, rfl, by decide⟩
theorem dX8_isOpen_4 : AtI mX8_isOpen 4 1 5 := Or.inr ⟨1, by decide +kernel, rfl, rfl⟩
theorem dX8_isOpen_5 : AtA mX8_isOpen 5 0 6 := Or.inr ⟨0, by decide +kernel, rfl, rfl⟩
theorem dX8_isOpen_6 : AtF mX8_isOpen 6 8 0 9 := ⟨9, (RX8, TX8, 5), by decide +kernel, rfl, rfl, by decide, Or.inl (Or.inl ⟨137, by decide +kernel⟩)⟩
theorem dX8_isOpen_9 : At mX8_isOpen 9 .arraylength 1 10 := ⟨by decide +kernel, rfl⟩
theorem dX8_isOpen_10 : AtJ mX8_isOpen 10 (.if_icmp .ge) 13 28 := ⟨18, by decide +kernel, rfl, by decide⟩
theorem dX8_isOpen_13 : AtA mX8_isOpen 13 0 14 := Or.inr ⟨0, by decide +kernel, rfl, rfl⟩
theorem dX8_isOpen_14 : AtF mX8_isOpen 14 8 0 17 := ⟨9, (RX8, TX8, 5), by decide +kernel, rfl, rfl, by decide, Or.inl (Or.inl ⟨137, by decide +kernel⟩)⟩
theorem dX8_isOpen_17 : AtI mX8_isOpen 17 1 18 := Or.inr ⟨1, by decide +kernel, rfl, rfl⟩
theorem dX8_isOpen_18 : At mX8_isOpen 18 .iaload 1 19 := ⟨by decide +kernel, rfl⟩
theorem dX8_isOpen_19 : AtK mX8_isOpen 19 (iZ (-100)) 21 := Or.inr (Or.inl ⟨(-100), by decide +kernel, by decide, rfl⟩)
theorem dX8_isOpen_21 : AtJ mX8_isOpen 21 (.if_icmp .ne) 24 28 := ⟨7, by decide +kernel, rfl, by decide⟩
theorem dX8_isOpen_24 : AtK mX8_isOpen 24 (iZ 1) 25 := Or.inl ⟨1, by decide +kernel, by decide, rfl⟩
theorem dX8_isOpen_25 : AtG mX8_isOpen 25 29 := ⟨4, by decide +kernel, by decide⟩
theorem dX8_isOpen_28 : AtK mX8_isOpen 28 (iZ 0) 29 := Or.inl ⟨0, by decide +kernel, by decide, rfl⟩
theorem dX8_isOpen_29 : AtSI mX8_isOpen 29 3 30 := ⟨Or.inr ⟨3, by decide +kernel, rfl, rfl⟩, by decide⟩
theorem dX8_isOpen_30 : AtI mX8_isOpen 30 3 31 := Or.inr ⟨3, by decide +kernel, rfl, rfl⟩
theorem dX8_isOpen_31 : AtJ mX8_isOpen 31 (.ifCond .eq) 34 54 := ⟨23, by decide +kernel, rfl, by decide⟩
theorem dX8_isOpen_34 : AtI mX8_isOpen 34 2 35 := Or.inr ⟨2, by decide +kernel, rfl, rfl⟩
theorem dX8_isOpen_35 : AtA mX8_isOpen 35 0 36 := Or.inr ⟨0, by decide +kernel, rfl, rfl⟩
theorem dX8_isOpen_36 : AtF mX8_isOpen 36 8 4 39 := ⟨25, (RX8, TX8, 5), by decide +kernel, rfl, rfl, by decide, Or.inl (Or.inl ⟨141, by decide +kernel⟩)⟩
theorem dX8_isOpen_39 : AtJ mX8_isOpen 39 (.if_icmp .ge) 42 50 := ⟨11, by decide +kernel, rfl, by decide⟩
theorem dX8_isOpen_42 : AtA mX8_isOpen 42 0 43 := Or.inr ⟨0, by decide +kernel, rfl, rfl⟩
theorem dX8_isOpen_43 : AtI mX8_isOpen 43 1 44 := Or.inr ⟨1, by decide +kernel, rfl, rfl⟩
theorem dX8_isOpen_44 : AtV mX8_isOpen 44 mX8_isSunday 1 8 47 := ⟨79, 746, 748, 23, (RX8, TX8, 5), by decide +kernel, rfl, rfl, by decide +kernel, by decide +kernel, by decide +kernel, rfl, ⟨⟨749, by decide +kernel⟩, ⟨62, by decide +kernel⟩, ⟨by decide, by decide⟩, by decide +kernel, by decide, by decide⟩⟩
theorem dX8_isOpen_47 : AtJ mX8_isOpen 47 (.ifCond .ne) 50 54 := ⟨7, by decide +kernel, rfl, by decide⟩
theorem dX8_isOpen_50 : AtK mX8_isOpen 50 (iZ 1) 51 := Or.inl ⟨1, by decide +kernel, by decide, rfl⟩
theorem dX8_isOpen_51 : AtG mX8_isOpen 51 55 := ⟨4, by decide +kernel, by decide⟩
theorem dX8_isOpen_54 : AtK mX8_isOpen 54 (iZ 0) 55 := Or.inl ⟨0, by decide +kernel, by decide, rfl⟩
theorem dX8_isOpen_55 : At mX8_isOpen 55 .ireturn 1 56 := ⟨by decide +kernel, rfl⟩
theorem dX8_isSunday_0 : AtA mX8_isSunday 0 0 1 := Or.inr ⟨0, by decide +kernel, rfl, rfl⟩
theorem dX8_isSunday_1 : AtF mX8_isSunday 1 8 3 4 := ⟨22, (RX8, TX8, 5), by decide +kernel, rfl, rfl, by decide, Or.inl (Or.inl ⟨140, by decide +kernel⟩)⟩
theorem dX8_isSunday_4 : AtI mX8_isSunday 4 1 5 := Or.inr ⟨1, by decide +kernel, rfl, rfl⟩
theorem dX8_isSunday_5 : At mX8_isSunday 5 .iadd 1 6 := ⟨by decide +kernel, rfl⟩
theorem dX8_isSunday_6 : AtK mX8_isSunday 6 (iZ 7) 8 := Or.inr (Or.inl ⟨7, by decide +kernel, by decide, rfl⟩)
theorem dX8_isSunday_8 : At mX8_isSunday 8 .irem 1 9 := ⟨by decide +kernel, rfl⟩
theorem dX8_isSunday_9 : AtJ mX8_isSunday 9 (.ifCond .ne) 12 16 := ⟨7, by decide +kernel, rfl, by decide⟩
theorem dX8_isSunday_12 : AtK mX8_isSunday 12 (iZ 1) 13 := Or.inl ⟨1, by decide +kernel, by decide, rfl⟩
theorem dX8_isSunday_13 : AtG mX8_isSunday 13 17 := ⟨4, by decide +kernel, by decide⟩
theorem dX8_isSunday_16 : AtK mX8_isSunday 16 (iZ 0) 17 := Or.inl ⟨0, by decide +kernel, by decide, rfl⟩
theorem dX8_isSunday_17 : At mX8_isSunday 17 .ireturn 1 18 := ⟨by decide +kernel, rfl⟩
theorem dX8_keptOn_0 : AtI mX8_keptOn 0 1 1 := Or.inr ⟨1, by decide +kernel, rfl, rfl⟩
theorem dX8_keptOn_1 : AtJ mX8_keptOn 1 (.ifCond .lt) 4 22 := ⟨21, by decide +kernel, rfl, by decide⟩
theorem dX8_keptOn_4 : AtI mX8_keptOn 4 1 5 := Or.inr ⟨1, by decide +kernel, rfl, rfl⟩
theorem dX8_keptOn_5 : AtA mX8_keptOn 5 0 6 := Or.inr ⟨0, by decide +kernel, rfl, rfl⟩
theorem dX8_keptOn_6 : AtF mX8_keptOn 6 8 0 9 := ⟨9, (RX8, TX8, 5), by decide +kernel, rfl, rfl, by decide, Or.inl (Or.inl ⟨137, by decide +kernel⟩)⟩
theorem dX8_keptOn_9 : At mX8_keptOn 9 .arraylength 1 10 := ⟨by decide +kernel, rfl⟩
theorem dX8_keptOn_10 : AtJ mX8_keptOn 10 (.if_icmp .ge) 13 22 := ⟨12, by decide +kernel, rfl, by decide⟩
theorem dX8_keptOn_13 : AtA mX8_keptOn 13 0 14 := Or.inr ⟨0, by decide +kernel, rfl, rfl⟩
theorem dX8_keptOn_14 : AtF mX8_keptOn 14 8 0 17 := ⟨9, (RX8, TX8, 5), by decide +kernel, rfl, rfl, by decide, Or.inl (Or.inl ⟨137, by decide +kernel⟩)⟩
theorem dX8_keptOn_17 : AtI mX8_keptOn 17 1 18 := Or.inr ⟨1, by decide +kernel, rfl, rfl⟩
theorem dX8_keptOn_18 : At mX8_keptOn 18 .iaload 1 19 := ⟨by decide +kernel, rfl⟩
theorem dX8_keptOn_19 : AtG mX8_keptOn 19 24 := ⟨5, by decide +kernel, by decide⟩
theorem dX8_keptOn_22 : AtK mX8_keptOn 22 (iZ (-100)) 24 := Or.inr (Or.inl ⟨(-100), by decide +kernel, by decide, rfl⟩)
theorem dX8_keptOn_24 : AtSI mX8_keptOn 24 2 25 := ⟨Or.inr ⟨2, by decide +kernel, rfl, rfl⟩, by decide⟩
theorem dX8_keptOn_25 : AtI mX8_keptOn 25 2 26 := Or.inr ⟨2, by decide +kernel, rfl, rfl⟩
theorem dX8_keptOn_26 : AtK mX8_keptOn 26 (iZ (-100)) 28 := Or.inr (Or.inl ⟨(-100), by decide +kernel, by decide, rfl⟩)
theorem dX8_keptOn_28 : AtJ mX8_keptOn 28 (.if_icmp .ne) 31 44 := ⟨16, by decide +kernel, rfl, by decide⟩
theorem dX8_keptOn_31 : AtA mX8_keptOn 31 0 32 := Or.inr ⟨0, by decide +kernel, rfl, rfl⟩
theorem dX8_keptOn_32 : AtI mX8_keptOn 32 1 33 := Or.inr ⟨1, by decide +kernel, rfl, rfl⟩
theorem dX8_keptOn_33 : AtV mX8_keptOn 33 mX8_isSunday 1 8 36 := ⟨79, 746, 748, 23, (RX8, TX8, 5), by decide +kernel, rfl, rfl, by decide +kernel, by decide +kernel, by decide +kernel, rfl, ⟨⟨749, by decide +kernel⟩, ⟨62, by decide +kernel⟩, ⟨by decide, by decide⟩, by decide +kernel, by decide, by decide⟩⟩
theorem dX8_keptOn_36 : AtJ mX8_keptOn 36 (.ifCond .eq) 39 44 := ⟨8, by decide +kernel, rfl, by decide⟩
theorem dX8_keptOn_39 : AtK mX8_keptOn 39 (iZ (-2)) 41 := Or.inr (Or.inl ⟨(-2), by decide +kernel, by decide, rfl⟩)
theorem dX8_keptOn_41 : AtG mX8_keptOn 41 45 := ⟨4, by decide +kernel, by decide⟩
theorem dX8_keptOn_44 : AtI mX8_keptOn 44 2 45 := Or.inr ⟨2, by decide +kernel, rfl, rfl⟩
theorem dX8_keptOn_45 : At mX8_keptOn 45 .ireturn 1 46 := ⟨by decide +kernel, rfl⟩
theorem dX8_dayOfFeast_0 : AtI mX8_dayOfFeast 0 1 1 := Or.inr ⟨1, by decide +kernel, rfl, rfl⟩
theorem dX8_dayOfFeast_1 : AtJ mX8_dayOfFeast 1 (.ifCond .lt) 4 22 := ⟨21, by decide +kernel, rfl, by decide⟩
theorem dX8_dayOfFeast_4 : AtI mX8_dayOfFeast 4 1 5 := Or.inr ⟨1, by decide +kernel, rfl, rfl⟩
theorem dX8_dayOfFeast_5 : AtA mX8_dayOfFeast 5 0 6 := Or.inr ⟨0, by decide +kernel, rfl, rfl⟩
theorem dX8_dayOfFeast_6 : AtF mX8_dayOfFeast 6 8 1 9 := ⟨15, (RX8, TX8, 5), by decide +kernel, rfl, rfl, by decide, Or.inl (Or.inl ⟨138, by decide +kernel⟩)⟩
theorem dX8_dayOfFeast_9 : At mX8_dayOfFeast 9 .arraylength 1 10 := ⟨by decide +kernel, rfl⟩
theorem dX8_dayOfFeast_10 : AtJ mX8_dayOfFeast 10 (.if_icmp .ge) 13 22 := ⟨12, by decide +kernel, rfl, by decide⟩
theorem dX8_dayOfFeast_13 : AtA mX8_dayOfFeast 13 0 14 := Or.inr ⟨0, by decide +kernel, rfl, rfl⟩
theorem dX8_dayOfFeast_14 : AtF mX8_dayOfFeast 14 8 1 17 := ⟨15, (RX8, TX8, 5), by decide +kernel, rfl, rfl, by decide, Or.inl (Or.inl ⟨138, by decide +kernel⟩)⟩
theorem dX8_dayOfFeast_17 : AtI mX8_dayOfFeast 17 1 18 := Or.inr ⟨1, by decide +kernel, rfl, rfl⟩
theorem dX8_dayOfFeast_18 : At mX8_dayOfFeast 18 .iaload 1 19 := ⟨by decide +kernel, rfl⟩
theorem dX8_dayOfFeast_19 : AtG mX8_dayOfFeast 19 24 := ⟨5, by decide +kernel, by decide⟩
theorem dX8_dayOfFeast_22 : AtK mX8_dayOfFeast 22 (iZ (-100)) 24 := Or.inr (Or.inl ⟨(-100), by decide +kernel, by decide, rfl⟩)
theorem dX8_dayOfFeast_24 : At mX8_dayOfFeast 24 .ireturn 1 25 := ⟨by decide +kernel, rfl⟩
end
section
/-! what stands at each pc (printed) -/
theorem dX9_init_0 : AtA mX9_init 0 0 1 := Or.inr ⟨0, by decide +kernel, rfl, rfl⟩
theorem dX9_init_1 : AtO mX9_init 1 4 := ⟨1, 88, 89, 90, by decide +kernel, rfl, by decide +kernel, by decide +kernel, by decide +kernel, by decide, by decide⟩
theorem dX9_init_4 : AtA mX9_init 4 0 5 := Or.inr ⟨0, by decide +kernel, rfl, rfl⟩
theorem dX9_init_5 : AtN mX9_init 5 0 [.int 0, .null, .int 0] 8 := ⟨7, 91, 92, 59, (RJx4a65c, TJx4a65c, 3), by decide +kernel, rfl, rfl, by decide +kernel, by decide +kernel, by decide +kernel, rfl, fun j hj => by rcases (show j = 0 ∨ j = 1 ∨ j = 2 from by have hj : j < 3 := hj; omega) with rfl | rfl | rfl <;> rfl⟩
theorem dX9_init_8 : At mX9_init 8 .dup 1 9 := ⟨by decide +kernel, rfl⟩
theorem dX9_init_9 : AtNI mX9_init 9 mJx4a65c_init_da8c8 0 12 := ⟨9, 93, 94, by decide +kernel, rfl, by decide +kernel, by decide +kernel, rfl, rfl, rfl, ⟨⟨95, by decide +kernel⟩, ⟨59, by decide +kernel⟩, ⟨by decide, by decide⟩, by decide +kernel, by decide, by decide⟩⟩
theorem dX9_init_12 : AtP mX9_init 12 9 0 (.object "java/util/ArrayList") 15 := ⟨10, (RX9, TX9, 7), by decide +kernel, rfl, rfl, by decide, Or.inl ⟨153, by decide +kernel⟩, by decide +kernel, Or.inr ⟨rfl, rfl, rfl⟩⟩
theorem dX9_init_15 : AtA mX9_init 15 0 16 := Or.inr ⟨0, by decide +kernel, rfl, rfl⟩
theorem dX9_init_16 : AtN mX9_init 16 0 [.int 0, .null, .int 0] 19 := ⟨7, 91, 92, 59, (RJx4a65c, TJx4a65c, 3), by decide +kernel, rfl, rfl, by decide +kernel, by decide +kernel, by decide +kernel, rfl, fun j hj => by rcases (show j = 0 ∨ j = 1 ∨ j = 2 from by have hj : j < 3 := hj; omega) with rfl | rfl | rfl <;> rfl⟩
theorem dX9_init_19 : At mX9_init 19 .dup 1 20 := ⟨by decide +kernel, rfl⟩
theorem dX9_init_20 : AtNI mX9_init 20 mJx4a65c_init_da8c8 0 23 := ⟨9, 93, 94, by decide +kernel, rfl, by decide +kernel, by decide +kernel, rfl, rfl, rfl, ⟨⟨95, by decide +kernel⟩, ⟨59, by decide +kernel⟩, ⟨by decide, by decide⟩, by decide +kernel, by decide, by decide⟩⟩
theorem dX9_init_23 : AtP mX9_init 23 9 1 (.object "java/util/ArrayList") 26 := ⟨16, (RX9, TX9, 7), by decide +kernel, rfl, rfl, by decide, Or.inl ⟨154, by decide +kernel⟩, by decide +kernel, Or.inr ⟨rfl, rfl, rfl⟩⟩
theorem dX9_init_26 : AtA mX9_init 26 0 27 := Or.inr ⟨0, by decide +kernel, rfl, rfl⟩
theorem dX9_init_27 : AtN mX9_init 27 0 [.int 0, .null, .int 0] 30 := ⟨7, 91, 92, 59, (RJx4a65c, TJx4a65c, 3), by decide +kernel, rfl, rfl, by decide +kernel, by decide +kernel, by decide +kernel, rfl, fun j hj => by rcases (show j = 0 ∨ j = 1 ∨ j = 2 from by have hj : j < 3 := hj; omega) with rfl | rfl | rfl <;> rfl⟩
theorem dX9_init_30 : At mX9_init 30 .dup 1 31 := ⟨by decide +kernel, rfl⟩
theorem dX9_init_31 : AtNI mX9_init 31 mJx4a65c_init_da8c8 0 34 := ⟨9, 93, 94, by decide +kernel, rfl, by decide +kernel, by decide +kernel, rfl, rfl, rfl, ⟨⟨95, by decide +kernel⟩, ⟨59, by decide +kernel⟩, ⟨by decide, by decide⟩, by decide +kernel, by decide, by decide⟩⟩
theorem dX9_init_34 : AtP mX9_init 34 9 2 (.object "java/util/ArrayList") 37 := ⟨19, (RX9, TX9, 7), by decide +kernel, rfl, rfl, by decide, Or.inl ⟨155, by decide +kernel⟩, by decide +kernel, Or.inr ⟨rfl, rfl, rfl⟩⟩
theorem dX9_init_37 : AtA mX9_init 37 0 38 := Or.inr ⟨0, by decide +kernel, rfl, rfl⟩
theorem dX9_init_38 : AtN mX9_init 38 0 [.int 0, .null, .int 0] 41 := ⟨7, 91, 92, 59, (RJx4a65c, TJx4a65c, 3), by decide +kernel, rfl, rfl, by decide +kernel, by decide +kernel, by decide +kernel, rfl, fun j hj => by rcases (show j = 0 ∨ j = 1 ∨ j = 2 from by have hj : j < 3 := hj; omega) with rfl | rfl | rfl <;> rfl⟩
theorem dX9_init_41 : At mX9_init 41 .dup 1 42 := ⟨by decide +kernel, rfl⟩
theorem dX9_init_42 : AtNI mX9_init 42 mJx4a65c_init_da8c8 0 45 := ⟨9, 93, 94, by decide +kernel, rfl, by decide +kernel, by decide +kernel, rfl, rfl, rfl, ⟨⟨95, by decide +kernel⟩, ⟨59, by decide +kernel⟩, ⟨by decide, by decide⟩, by decide +kernel, by decide, by decide⟩⟩
theorem dX9_init_45 : AtP mX9_init 45 9 3 (.object "java/util/ArrayList") 48 := ⟨22, (RX9, TX9, 7), by decide +kernel, rfl, rfl, by decide, Or.inl ⟨156, by decide +kernel⟩, by decide +kernel, Or.inr ⟨rfl, rfl, rfl⟩⟩
theorem dX9_init_48 : AtA mX9_init 48 0 49 := Or.inr ⟨0, by decide +kernel, rfl, rfl⟩
theorem dX9_init_49 : AtN mX9_init 49 2 [.null] 52 := ⟨25, 117, 118, 60, (RX2, TX2, 1), by decide +kernel, rfl, rfl, by decide +kernel, by decide +kernel, by decide +kernel, rfl, fun j hj => by rcases (show j = 0 from by have hj : j < 1 := hj; omega) with rfl <;> rfl⟩
theorem dX9_init_52 : At mX9_init 52 .dup 1 53 := ⟨by decide +kernel, rfl⟩
theorem dX9_init_53 : AtNIN mX9_init 53 mX2_init 0 56 := ⟨27, 119, 120, "Hymnwright", by decide +kernel, rfl, by decide +kernel, by decide +kernel, rfl, rfl, rfl, ⟨⟨121, by decide +kernel⟩, ⟨60, by decide +kernel⟩, ⟨by decide, by decide⟩, by decide +kernel, by decide, by decide⟩⟩
theorem dX9_init_56 : AtP mX9_init 56 9 4 (.object "Hymnwright$Readings") 59 := ⟨28, (RX9, TX9, 7), by decide +kernel, rfl, rfl, by decide, Or.inl ⟨157, by decide +kernel⟩, by decide +kernel, Or.inr ⟨rfl, rfl, rfl⟩⟩
theorem dX9_init_59 : AtA mX9_init 59 0 60 := Or.inr ⟨0, by decide +kernel, rfl, rfl⟩
theorem dX9_init_60 : AtN mX9_init 60 8 [.null, .null, .int 0, .int 0, .int 0] 63 := ⟨32, 131, 132, 62, (RX8, TX8, 5), by decide +kernel, rfl, rfl, by decide +kernel, by decide +kernel, by decide +kernel, rfl, fun j hj => by rcases (show j = 0 ∨ j = 1 ∨ j = 2 ∨ j = 3 ∨ j = 4 from by have hj : j < 5 := hj; omega) with rfl | rfl | rfl | rfl | rfl <;> rfl⟩
theorem dX9_init_63 : At mX9_init 63 .dup 1 64 := ⟨by decide +kernel, rfl⟩
theorem dX9_init_64 : AtNIN mX9_init 64 mX8_init 0 67 := ⟨34, 133, 134, "Hymnwright", by decide +kernel, rfl, by decide +kernel, by decide +kernel, rfl, rfl, rfl, ⟨⟨135, by decide +kernel⟩, ⟨62, by decide +kernel⟩, ⟨by decide, by decide⟩, by decide +kernel, by decide, by decide⟩⟩
theorem dX9_init_67 : AtP mX9_init 67 9 5 (.object "Hymnwright$YearPlan") 70 := ⟨35, (RX9, TX9, 7), by decide +kernel, rfl, rfl, by decide, Or.inl ⟨158, by decide +kernel⟩, by decide +kernel, Or.inr ⟨rfl, rfl, rfl⟩⟩
theorem dX9_init_70 : AtA mX9_init 70 0 71 := Or.inr ⟨0, by decide +kernel, rfl, rfl⟩
theorem dX9_init_71 : AtK mX9_init 71 (iZ 0) 72 := Or.inl ⟨0, by decide +kernel, by decide, rfl⟩
theorem dX9_init_72 : AtP mX9_init 72 9 6 (.int) 75 := ⟨39, (RX9, TX9, 7), by decide +kernel, rfl, rfl, by decide, Or.inl ⟨159, by decide +kernel⟩, by decide +kernel, Or.inl rfl⟩
theorem dX9_init_75 : At mX9_init 75 .return_ 1 76 := ⟨by decide +kernel, rfl⟩
theorem dX9_text_0 : AtI mX9_text 0 1 1 := Or.inr ⟨1, by decide +kernel, rfl, rfl⟩
theorem dX9_text_1 : AtK mX9_text 1 (iZ 1500) 4 := Or.inr (Or.inr (Or.inl ⟨1500, by decide +kernel, by decide, rfl⟩))
theorem dX9_text_4 : AtK mX9_text 4 (iZ 2399) 7 := Or.inr (Or.inr (Or.inl ⟨2399, by decide +kernel, by decide, rfl⟩))
theorem dX9_text_7 : AtS mX9_text 7 mX9_requireRange 3 10 := ⟨43, 224, 225, by decide +kernel, rfl, by decide +kernel, by decide +kernel, rfl, ⟨⟨226, by decide +kernel⟩, ⟨56, by decide +kernel⟩, ⟨by decide, by decide⟩, by decide +kernel, by decide, by decide⟩⟩
theorem dX9_text_10 : AtI mX9_text 10 2 11 := Or.inr ⟨2, by decide +kernel, rfl, rfl⟩
theorem dX9_text_11 : AtK mX9_text 11 (iZ 0) 12 := Or.inl ⟨0, by decide +kernel, by decide, rfl⟩
theorem dX9_text_12 : AtK mX9_text 12 (iZ 65535) 14 := Or.inr (Or.inr (Or.inr (Or.inl ⟨47, 295, by decide +kernel, by decide +kernel, rfl⟩)))
theorem dX9_text_14 : AtS mX9_text 14 mX9_requireRange 3 17 := ⟨43, 224, 225, by decide +kernel, rfl, by decide +kernel, by decide +kernel, rfl, ⟨⟨226, by decide +kernel⟩, ⟨56, by decide +kernel⟩, ⟨by decide, by decide⟩, by decide +kernel, by decide, by decide⟩⟩
theorem dX9_text_17 : AtA mX9_text 17 0 18 := Or.inr ⟨0, by decide +kernel, rfl, rfl⟩
theorem dX9_text_18 : AtF mX9_text 18 9 0 21 := ⟨10, (RX9, TX9, 7), by decide +kernel, rfl, rfl, by decide, Or.inl (Or.inl ⟨153, by decide +kernel⟩)⟩
theorem dX9_text_21 : AtV mX9_text 21 mJx4a65c_size_8abf5 0 0 24 := ⟨48, 179, 180, 181, (RJx4a65c, TJx4a65c, 3), by decide +kernel, rfl, rfl, by decide +kernel, by decide +kernel, by decide +kernel, rfl, ⟨⟨182, by decide +kernel⟩, ⟨59, by decide +kernel⟩, ⟨by decide, by decide⟩, by decide +kernel, by decide, by decide⟩⟩
theorem dX9_text_24 : AtK mX9_text 24 (iZ 12) 26 := Or.inr (Or.inl ⟨12, by decide +kernel, by decide, rfl⟩)
theorem dX9_text_26 : AtJ mX9_text 26 (.if_icmp .lt) 29 39 := ⟨13, by decide +kernel, rfl, by decide⟩
theorem dX9_text_29 : AtT mX9_text 29 "java/lang/IllegalStateException" := ⟨52, 56, 54, 296, 68, "there are 12 texts", ["java/lang/RuntimeException", "java/lang/Exception"], false, by decide +kernel, by decide +kernel, ⟨by decide +kernel, by decide +kernel, by decide +kernel⟩, by decide +kernel, by decide +kernel, by decide +kernel, by decide +kernel, by decide +kernel, by decide +kernel, by decide +kernel, by decide, by decide, rfl⟩
theorem dX9_text_39 : AtA mX9_text 39 0 40 := Or.inr ⟨0, by decide +kernel, rfl, rfl⟩
theorem dX9_text_40 : AtF mX9_text 40 9 0 43 := ⟨10, (RX9, TX9, 7), by decide +kernel, rfl, rfl, by decide, Or.inl (Or.inl ⟨153, by decide +kernel⟩)⟩
theorem dX9_text_43 : AtN mX9_text 43 6 [.int 0, .int 0, .null, .null] 46 := ⟨59, 312, 313, 69, (RX6, TX6, 4), by decide +kernel, rfl, rfl, by decide +kernel, by decide +kernel, by decide +kernel, rfl, fun j hj => by rcases (show j = 0 ∨ j = 1 ∨ j = 2 ∨ j = 3 from by have hj : j < 4 := hj; omega) with rfl | rfl | rfl | rfl <;> rfl⟩
theorem dX9_text_46 : At mX9_text 46 .dup 1 47 := ⟨by decide +kernel, rfl⟩
theorem dX9_text_47 : AtA mX9_text 47 0 48 := Or.inr ⟨0, by decide +kernel, rfl, rfl⟩
theorem dX9_text_48 : AtF mX9_text 48 9 0 51 := ⟨10, (RX9, TX9, 7), by decide +kernel, rfl, rfl, by decide, Or.inl (Or.inl ⟨153, by decide +kernel⟩)⟩
theorem dX9_text_51 : AtV mX9_text 51 mJx4a65c_size_8abf5 0 0 54 := ⟨48, 179, 180, 181, (RJx4a65c, TJx4a65c, 3), by decide +kernel, rfl, rfl, by decide +kernel, by decide +kernel, by decide +kernel, rfl, ⟨⟨182, by decide +kernel⟩, ⟨59, by decide +kernel⟩, ⟨by decide, by decide⟩, by decide +kernel, by decide, by decide⟩⟩
theorem dX9_text_54 : AtI mX9_text 54 1 55 := Or.inr ⟨1, by decide +kernel, rfl, rfl⟩
theorem dX9_text_55 : AtI mX9_text 55 2 56 := Or.inr ⟨2, by decide +kernel, rfl, rfl⟩
theorem dX9_text_56 : AtNIN mX9_text 56 mX6_init 3 59 := ⟨61, 314, 315, "Hymnwright", by decide +kernel, rfl, by decide +kernel, by decide +kernel, rfl, rfl, rfl, ⟨⟨316, by decide +kernel⟩, ⟨69, by decide +kernel⟩, ⟨by decide, by decide⟩, by decide +kernel, by decide, by decide⟩⟩
theorem dX9_text_59 : AtV mX9_text 59 mJx4a65c_add_9ea2d 1 0 62 := ⟨63, 363, 364, 365, (RJx4a65c, TJx4a65c, 3), by decide +kernel, rfl, rfl, by decide +kernel, by decide +kernel, by decide +kernel, rfl, ⟨⟨366, by decide +kernel⟩, ⟨59, by decide +kernel⟩, ⟨by decide, by decide⟩, by decide +kernel, by decide, by decide⟩⟩
theorem dX9_text_62 : At mX9_text 62 .pop 1 63 := ⟨by decide +kernel, rfl⟩
theorem dX9_text_63 : AtA mX9_text 63 0 64 := Or.inr ⟨0, by decide +kernel, rfl, rfl⟩
theorem dX9_text_64 : AtF mX9_text 64 9 0 67 := ⟨10, (RX9, TX9, 7), by decide +kernel, rfl, rfl, by decide, Or.inl (Or.inl ⟨153, by decide +kernel⟩)⟩
theorem dX9_text_67 : AtV mX9_text 67 mJx4a65c_size_8abf5 0 0 70 := ⟨48, 179, 180, 181, (RJx4a65c, TJx4a65c, 3), by decide +kernel, rfl, rfl, by decide +kernel, by decide +kernel, by decide +kernel, rfl, ⟨⟨182, by decide +kernel⟩, ⟨59, by decide +kernel⟩, ⟨by decide, by decide⟩, by decide +kernel, by decide, by decide⟩⟩
theorem dX9_text_70 : AtK mX9_text 70 (iZ 1) 71 := Or.inl ⟨1, by decide +kernel, by decide, rfl⟩
theorem dX9_text_71 : At mX9_text 71 .isub 1 72 := ⟨by decide +kernel, rfl⟩
theorem dX9_text_72 : At mX9_text 72 .ireturn 1 73 := ⟨by decide +kernel, rfl⟩
theorem dX9_line_0 : AtA mX9_line 0 0 1 := Or.inr ⟨0, by decide +kernel, rfl, rfl⟩
theorem dX9_line_1 : AtI mX9_line 1 1 2 := Or.inr ⟨1, by decide +kernel, rfl, rfl⟩
theorem dX9_line_2 : AtV mX9_line 2 mX9_textAt 1 9 5 := ⟨67, 432, 434, 8, (RX9, TX9, 7), by decide +kernel, rfl, rfl, by decide +kernel, by decide +kernel, by decide +kernel, rfl, ⟨⟨435, by decide +kernel⟩, ⟨56, by decide +kernel⟩, ⟨by decide, by decide⟩, by decide +kernel, by decide, by decide⟩⟩
theorem dX9_line_5 : AtF mX9_line 5 6 3 8 := ⟨71, (RX6, TX6, 4), by decide +kernel, rfl, rfl, by decide, Or.inr ⟨353, "Hymnwright", by decide +kernel⟩⟩
theorem dX9_line_8 : AtI mX9_line 8 2 9 := Or.inr ⟨2, by decide +kernel, rfl, rfl⟩
theorem dX9_line_9 : AtI mX9_line 9 3 10 := Or.inr ⟨3, by decide +kernel, rfl, rfl⟩
theorem dX9_line_10 : AtS mX9_line 10 mX9_addRow 3 13 := ⟨75, 455, 456, by decide +kernel, rfl, by decide +kernel, by decide +kernel, rfl, ⟨⟨457, by decide +kernel⟩, ⟨56, by decide +kernel⟩, ⟨by decide, by decide⟩, by decide +kernel, by decide, by decide⟩⟩
theorem dX9_line_13 : At mX9_line 13 .ireturn 1 14 := ⟨by decide +kernel, rfl⟩
theorem dX9_tune_0 : AtI mX9_tune 0 1 1 := Or.inr ⟨1, by decide +kernel, rfl, rfl⟩
theorem dX9_tune_1 : AtK mX9_tune 1 (iZ 1500) 4 := Or.inr (Or.inr (Or.inl ⟨1500, by decide +kernel, by decide, rfl⟩))
theorem dX9_tune_4 : AtK mX9_tune 4 (iZ 2399) 7 := Or.inr (Or.inr (Or.inl ⟨2399, by decide +kernel, by decide, rfl⟩))
theorem dX9_tune_7 : AtS mX9_tune 7 mX9_requireRange 3 10 := ⟨43, 224, 225, by decide +kernel, rfl, by decide +kernel, by decide +kernel, rfl, ⟨⟨226, by decide +kernel⟩, ⟨56, by decide +kernel⟩, ⟨by decide, by decide⟩, by decide +kernel, by decide, by decide⟩⟩
theorem dX9_tune_10 : AtI mX9_tune 10 2 11 := Or.inr ⟨2, by decide +kernel, rfl, rfl⟩
theorem dX9_tune_11 : AtK mX9_tune 11 (iZ 0) 12 := Or.inl ⟨0, by decide +kernel, by decide, rfl⟩
theorem dX9_tune_12 : AtK mX9_tune 12 (iZ 40) 14 := Or.inr (Or.inl ⟨40, by decide +kernel, by decide, rfl⟩)
theorem dX9_tune_14 : AtS mX9_tune 14 mX9_requireRange 3 17 := ⟨43, 224, 225, by decide +kernel, rfl, by decide +kernel, by decide +kernel, rfl, ⟨⟨226, by decide +kernel⟩, ⟨56, by decide +kernel⟩, ⟨by decide, by decide⟩, by decide +kernel, by decide, by decide⟩⟩
theorem dX9_tune_17 : AtI mX9_tune 17 3 18 := Or.inr ⟨3, by decide +kernel, rfl, rfl⟩
theorem dX9_tune_18 : AtI mX9_tune 18 2 19 := Or.inr ⟨2, by decide +kernel, rfl, rfl⟩
theorem dX9_tune_19 : AtK mX9_tune 19 (iZ 40) 21 := Or.inr (Or.inl ⟨40, by decide +kernel, by decide, rfl⟩)
theorem dX9_tune_21 : AtS mX9_tune 21 mX9_requireRange 3 24 := ⟨43, 224, 225, by decide +kernel, rfl, by decide +kernel, by decide +kernel, rfl, ⟨⟨226, by decide +kernel⟩, ⟨56, by decide +kernel⟩, ⟨by decide, by decide⟩, by decide +kernel, by decide, by decide⟩⟩
theorem dX9_tune_24 : AtA mX9_tune 24 0 25 := Or.inr ⟨0, by decide +kernel, rfl, rfl⟩
theorem dX9_tune_25 : AtF mX9_tune 25 9 1 28 := ⟨16, (RX9, TX9, 7), by decide +kernel, rfl, rfl, by decide, Or.inl (Or.inl ⟨154, by decide +kernel⟩)⟩
theorem dX9_tune_28 : AtV mX9_tune 28 mJx4a65c_size_8abf5 0 0 31 := ⟨48, 179, 180, 181, (RJx4a65c, TJx4a65c, 3), by decide +kernel, rfl, rfl, by decide +kernel, by decide +kernel, by decide +kernel, rfl, ⟨⟨182, by decide +kernel⟩, ⟨59, by decide +kernel⟩, ⟨by decide, by decide⟩, by decide +kernel, by decide, by decide⟩⟩
theorem dX9_tune_31 : AtK mX9_tune 31 (iZ 12) 33 := Or.inr (Or.inl ⟨12, by decide +kernel, by decide, rfl⟩)
theorem dX9_tune_33 : AtJ mX9_tune 33 (.if_icmp .lt) 36 46 := ⟨13, by decide +kernel, rfl, by decide⟩
theorem dX9_tune_36 : AtT mX9_tune 36 "java/lang/IllegalStateException" := ⟨52, 56, 79, 296, 68, "there are 12 tunes", ["java/lang/RuntimeException", "java/lang/Exception"], false, by decide +kernel, by decide +kernel, ⟨by decide +kernel, by decide +kernel, by decide +kernel⟩, by decide +kernel, by decide +kernel, by decide +kernel, by decide +kernel, by decide +kernel, by decide +kernel, by decide +kernel, by decide, by decide, rfl⟩
theorem dX9_tune_46 : AtA mX9_tune 46 0 47 := Or.inr ⟨0, by decide +kernel, rfl, rfl⟩
theorem dX9_tune_47 : AtF mX9_tune 47 9 1 50 := ⟨16, (RX9, TX9, 7), by decide +kernel, rfl, rfl, by decide, Or.inl (Or.inl ⟨154, by decide +kernel⟩)⟩
theorem dX9_tune_50 : AtN mX9_tune 50 7 [.int 0, .int 0, .int 0, .null, .null] 53 := ⟨81, 197, 471, 78, (RX7, TX7, 5), by decide +kernel, rfl, rfl, by decide +kernel, by decide +kernel, by decide +kernel, rfl, fun j hj => by rcases (show j = 0 ∨ j = 1 ∨ j = 2 ∨ j = 3 ∨ j = 4 from by have hj : j < 5 := hj; omega) with rfl | rfl | rfl | rfl | rfl <;> rfl⟩
theorem dX9_tune_53 : At mX9_tune 53 .dup 1 54 := ⟨by decide +kernel, rfl⟩
theorem dX9_tune_54 : AtA mX9_tune 54 0 55 := Or.inr ⟨0, by decide +kernel, rfl, rfl⟩
theorem dX9_tune_55 : AtF mX9_tune 55 9 1 58 := ⟨16, (RX9, TX9, 7), by decide +kernel, rfl, rfl, by decide, Or.inl (Or.inl ⟨154, by decide +kernel⟩)⟩
theorem dX9_tune_58 : AtV mX9_tune 58 mJx4a65c_size_8abf5 0 0 61 := ⟨48, 179, 180, 181, (RJx4a65c, TJx4a65c, 3), by decide +kernel, rfl, rfl, by decide +kernel, by decide +kernel, by decide +kernel, rfl, ⟨⟨182, by decide +kernel⟩, ⟨59, by decide +kernel⟩, ⟨by decide, by decide⟩, by decide +kernel, by decide, by decide⟩⟩
theorem dX9_tune_61 : AtI mX9_tune 61 1 62 := Or.inr ⟨1, by decide +kernel, rfl, rfl⟩
theorem dX9_tune_62 : AtI mX9_tune 62 2 63 := Or.inr ⟨2, by decide +kernel, rfl, rfl⟩
theorem dX9_tune_63 : AtI mX9_tune 63 3 64 := Or.inr ⟨3, by decide +kernel, rfl, rfl⟩
theorem dX9_tune_64 : AtNIN mX9_tune 64 mX7_init 4 67 := ⟨83, 472, 473, "Hymnwright", by decide +kernel, rfl, by decide +kernel, by decide +kernel, rfl, rfl, rfl, ⟨⟨474, by decide +kernel⟩, ⟨78, by decide +kernel⟩, ⟨by decide, by decide⟩, by decide +kernel, by decide, by decide⟩⟩
theorem dX9_tune_67 : AtV mX9_tune 67 mJx4a65c_add_9ea2d 1 0 70 := ⟨63, 363, 364, 365, (RJx4a65c, TJx4a65c, 3), by decide +kernel, rfl, rfl, by decide +kernel, by decide +kernel, by decide +kernel, rfl, ⟨⟨366, by decide +kernel⟩, ⟨59, by decide +kernel⟩, ⟨by decide, by decide⟩, by decide +kernel, by decide, by decide⟩⟩
theorem dX9_tune_70 : At mX9_tune 70 .pop 1 71 := ⟨by decide +kernel, rfl⟩
theorem dX9_tune_71 : AtA mX9_tune 71 0 72 := Or.inr ⟨0, by decide +kernel, rfl, rfl⟩
theorem dX9_tune_72 : AtF mX9_tune 72 9 1 75 := ⟨16, (RX9, TX9, 7), by decide +kernel, rfl, rfl, by decide, Or.inl (Or.inl ⟨154, by decide +kernel⟩)⟩
theorem dX9_tune_75 : AtV mX9_tune 75 mJx4a65c_size_8abf5 0 0 78 := ⟨48, 179, 180, 181, (RJx4a65c, TJx4a65c, 3), by decide +kernel, rfl, rfl, by decide +kernel, by decide +kernel, by decide +kernel, rfl, ⟨⟨182, by decide +kernel⟩, ⟨59, by decide +kernel⟩, ⟨by decide, by decide⟩, by decide +kernel, by decide, by decide⟩⟩
theorem dX9_tune_78 : AtK mX9_tune 78 (iZ 1) 79 := Or.inl ⟨1, by decide +kernel, by decide, rfl⟩
theorem dX9_tune_79 : At mX9_tune 79 .isub 1 80 := ⟨by decide +kernel, rfl⟩
theorem dX9_tune_80 : At mX9_tune 80 .ireturn 1 81 := ⟨by decide +kernel, rfl⟩
theorem dX9_phrase_0 : AtA mX9_phrase 0 0 1 := Or.inr ⟨0, by decide +kernel, rfl, rfl⟩
theorem dX9_phrase_1 : AtI mX9_phrase 1 1 2 := Or.inr ⟨1, by decide +kernel, rfl, rfl⟩
theorem dX9_phrase_2 : AtV mX9_phrase 2 mX9_tuneAt 1 9 5 := ⟨86, 508, 510, 10, (RX9, TX9, 7), by decide +kernel, rfl, rfl, by decide +kernel, by decide +kernel, by decide +kernel, rfl, ⟨⟨511, by decide +kernel⟩, ⟨56, by decide +kernel⟩, ⟨by decide, by decide⟩, by decide +kernel, by decide, by decide⟩⟩
theorem dX9_phrase_5 : AtF mX9_phrase 5 7 4 8 := ⟨90, (RX7, TX7, 5), by decide +kernel, rfl, rfl, by decide, Or.inr ⟨489, "Hymnwright", by decide +kernel⟩⟩
theorem dX9_phrase_8 : AtI mX9_phrase 8 2 9 := Or.inr ⟨2, by decide +kernel, rfl, rfl⟩
theorem dX9_phrase_9 : AtI mX9_phrase 9 3 10 := Or.inr ⟨3, by decide +kernel, rfl, rfl⟩
theorem dX9_phrase_10 : AtS mX9_phrase 10 mX9_addRow 3 13 := ⟨75, 455, 456, by decide +kernel, rfl, by decide +kernel, by decide +kernel, rfl, ⟨⟨457, by decide +kernel⟩, ⟨56, by decide +kernel⟩, ⟨by decide, by decide⟩, by decide +kernel, by decide, by decide⟩⟩
theorem dX9_phrase_13 : At mX9_phrase 13 .ireturn 1 14 := ⟨by decide +kernel, rfl⟩
theorem dX9_fits_0 : AtA mX9_fits 0 0 1 := Or.inr ⟨0, by decide +kernel, rfl, rfl⟩
theorem dX9_fits_1 : AtI mX9_fits 1 1 2 := Or.inr ⟨1, by decide +kernel, rfl, rfl⟩
theorem dX9_fits_2 : AtV mX9_fits 2 mX9_textAt 1 9 5 := ⟨67, 432, 434, 8, (RX9, TX9, 7), by decide +kernel, rfl, rfl, by decide +kernel, by decide +kernel, by decide +kernel, rfl, ⟨⟨435, by decide +kernel⟩, ⟨56, by decide +kernel⟩, ⟨by decide, by decide⟩, by decide +kernel, by decide, by decide⟩⟩
theorem dX9_fits_5 : AtA mX9_fits 5 0 6 := Or.inr ⟨0, by decide +kernel, rfl, rfl⟩
theorem dX9_fits_6 : AtI mX9_fits 6 2 7 := Or.inr ⟨2, by decide +kernel, rfl, rfl⟩
theorem dX9_fits_7 : AtV mX9_fits 7 mX9_tuneAt 1 9 10 := ⟨86, 508, 510, 10, (RX9, TX9, 7), by decide +kernel, rfl, rfl, by decide +kernel, by decide +kernel, by decide +kernel, rfl, ⟨⟨511, by decide +kernel⟩, ⟨56, by decide +kernel⟩, ⟨by decide, by decide⟩, by decide +kernel, by decide, by decide⟩⟩
theorem dX9_fits_10 : AtS mX9_fits 10 mX9_timesThrough 2 13 := ⟨93, 519, 520, by decide +kernel, rfl, by decide +kernel, by decide +kernel, rfl, ⟨⟨521, by decide +kernel⟩, ⟨56, by decide +kernel⟩, ⟨by decide, by decide⟩, by decide +kernel, by decide, by decide⟩⟩
theorem dX9_fits_13 : At mX9_fits 13 .ireturn 1 14 := ⟨by decide +kernel, rfl⟩
theorem dX9_clashes_0 : AtA mX9_clashes 0 0 1 := Or.inr ⟨0, by decide +kernel, rfl, rfl⟩
theorem dX9_clashes_1 : AtI mX9_clashes 1 1 2 := Or.inr ⟨1, by decide +kernel, rfl, rfl⟩
theorem dX9_clashes_2 : AtV mX9_clashes 2 mX9_textAt 1 9 5 := ⟨67, 432, 434, 8, (RX9, TX9, 7), by decide +kernel, rfl, rfl, by decide +kernel, by decide +kernel, by decide +kernel, rfl, ⟨⟨435, by decide +kernel⟩, ⟨56, by decide +kernel⟩, ⟨by decide, by decide⟩, by decide +kernel, by decide, by decide⟩⟩
theorem dX9_clashes_5 : AtSA mX9_clashes 5 3 6 := ⟨Or.inr ⟨3, by decide +kernel, rfl, rfl⟩, by decide⟩
theorem dX9_clashes_6 : AtA mX9_clashes 6 0 7 := Or.inr ⟨0, by decide +kernel, rfl, rfl⟩
theorem dX9_clashes_7 : AtI mX9_clashes 7 2 8 := Or.inr ⟨2, by decide +kernel, rfl, rfl⟩
theorem dX9_clashes_8 : AtV mX9_clashes 8 mX9_tuneAt 1 9 11 := ⟨86, 508, 510, 10, (RX9, TX9, 7), by decide +kernel, rfl, rfl, by decide +kernel, by decide +kernel, by decide +kernel, rfl, ⟨⟨511, by decide +kernel⟩, ⟨56, by decide +kernel⟩, ⟨by decide, by decide⟩, by decide +kernel, by decide, by decide⟩⟩
theorem dX9_clashes_11 : AtSA mX9_clashes 11 4 13 := ⟨Or.inl ⟨by decide +kernel, rfl⟩, by decide⟩
theorem dX9_clashes_13 : AtA mX9_clashes 13 3 14 := Or.inr ⟨3, by decide +kernel, rfl, rfl⟩
theorem dX9_clashes_14 : AtA mX9_clashes 14 4 16 := Or.inl ⟨by decide +kernel, rfl⟩
theorem dX9_clashes_16 : AtS mX9_clashes 16 mX9_timesThrough 2 19 := ⟨93, 519, 520, by decide +kernel, rfl, by decide +kernel, by decide +kernel, rfl, ⟨⟨521, by decide +kernel⟩, ⟨56, by decide +kernel⟩, ⟨by decide, by decide⟩, by decide +kernel, by decide, by decide⟩⟩
theorem dX9_clashes_19 : AtJ mX9_clashes 19 (.ifCond .ne) 22 32 := ⟨13, by decide +kernel, rfl, by decide⟩
theorem dX9_clashes_22 : AtT mX9_clashes 22 "java/lang/IllegalStateException" := ⟨52, 56, 97, 296, 68, "the tune does not fit the text", ["java/lang/RuntimeException", "java/lang/Exception"], false, by decide +kernel, by decide +kernel, ⟨by decide +kernel, by decide +kernel, by decide +kernel⟩, by decide +kernel, by decide +kernel, by decide +kernel, by decide +kernel, by decide +kernel, by decide +kernel, by decide +kernel, by decide, by decide, rfl⟩
theorem dX9_clashes_32 : AtA mX9_clashes 32 3 33 := Or.inr ⟨3, by decide +kernel, rfl, rfl⟩
theorem dX9_clashes_33 : AtA mX9_clashes 33 4 35 := Or.inl ⟨by decide +kernel, rfl⟩
theorem dX9_clashes_35 : AtS mX9_clashes 35 mX9_countClashes 2 38 := ⟨99, 531, 532, by decide +kernel, rfl, by decide +kernel, by decide +kernel, rfl, ⟨⟨533, by decide +kernel⟩, ⟨56, by decide +kernel⟩, ⟨by decide, by decide⟩, by decide +kernel, by decide, by decide⟩⟩
theorem dX9_clashes_38 : At mX9_clashes 38 .ireturn 1 39 := ⟨by decide +kernel, rfl⟩
theorem dX9_best_0 : AtA mX9_best 0 0 1 := Or.inr ⟨0, by decide +kernel, rfl, rfl⟩
theorem dX9_best_1 : AtA mX9_best 1 0 2 := Or.inr ⟨0, by decide +kernel, rfl, rfl⟩
theorem dX9_best_2 : AtI mX9_best 2 1 3 := Or.inr ⟨1, by decide +kernel, rfl, rfl⟩
theorem dX9_best_3 : AtV mX9_best 3 mX9_textAt 1 9 6 := ⟨67, 432, 434, 8, (RX9, TX9, 7), by decide +kernel, rfl, rfl, by decide +kernel, by decide +kernel, by decide +kernel, rfl, ⟨⟨435, by decide +kernel⟩, ⟨56, by decide +kernel⟩, ⟨by decide, by decide⟩, by decide +kernel, by decide, by decide⟩⟩
theorem dX9_best_6 : AtK mX9_best 6 (iZ 0) 7 := Or.inl ⟨0, by decide +kernel, by decide, rfl⟩
theorem dX9_best_7 : AtK mX9_best 7 (iZ 2399) 10 := Or.inr (Or.inr (Or.inl ⟨2399, by decide +kernel, by decide, rfl⟩))
theorem dX9_best_10 : AtV mX9_best 10 mX9_bestTune 3 9 13 := ⟨102, 551, 553, 12, (RX9, TX9, 7), by decide +kernel, rfl, rfl, by decide +kernel, by decide +kernel, by decide +kernel, rfl, ⟨⟨554, by decide +kernel⟩, ⟨56, by decide +kernel⟩, ⟨by decide, by decide⟩, by decide +kernel, by decide, by decide⟩⟩
theorem dX9_best_13 : AtSA mX9_best 13 2 14 := ⟨Or.inr ⟨2, by decide +kernel, rfl, rfl⟩, by decide⟩
theorem dX9_best_14 : AtA mX9_best 14 2 15 := Or.inr ⟨2, by decide +kernel, rfl, rfl⟩
theorem dX9_best_15 : AtJ mX9_best 15 .ifnonnull 18 23 := ⟨8, by decide +kernel, rfl, by decide⟩
theorem dX9_best_18 : AtK mX9_best 18 (iZ (-100)) 20 := Or.inr (Or.inl ⟨(-100), by decide +kernel, by decide, rfl⟩)
theorem dX9_best_20 : AtG mX9_best 20 27 := ⟨7, by decide +kernel, by decide⟩
theorem dX9_best_23 : AtA mX9_best 23 2 24 := Or.inr ⟨2, by decide +kernel, rfl, rfl⟩
theorem dX9_best_24 : AtF mX9_best 24 7 0 27 := ⟨106, (RX7, TX7, 5), by decide +kernel, rfl, rfl, by decide, Or.inr ⟨481, "Hymnwright", by decide +kernel⟩⟩
theorem dX9_best_27 : At mX9_best 27 .ireturn 1 28 := ⟨by decide +kernel, rfl⟩
theorem dX9_alike_0 : AtA mX9_alike 0 0 1 := Or.inr ⟨0, by decide +kernel, rfl, rfl⟩
theorem dX9_alike_1 : AtI mX9_alike 1 1 2 := Or.inr ⟨1, by decide +kernel, rfl, rfl⟩
theorem dX9_alike_2 : AtV mX9_alike 2 mX9_tuneAt 1 9 5 := ⟨86, 508, 510, 10, (RX9, TX9, 7), by decide +kernel, rfl, rfl, by decide +kernel, by decide +kernel, by decide +kernel, rfl, ⟨⟨511, by decide +kernel⟩, ⟨56, by decide +kernel⟩, ⟨by decide, by decide⟩, by decide +kernel, by decide, by decide⟩⟩
theorem dX9_alike_5 : AtF mX9_alike 5 7 4 8 := ⟨90, (RX7, TX7, 5), by decide +kernel, rfl, rfl, by decide, Or.inr ⟨489, "Hymnwright", by decide +kernel⟩⟩
theorem dX9_alike_8 : AtSA mX9_alike 8 2 9 := ⟨Or.inr ⟨2, by decide +kernel, rfl, rfl⟩, by decide⟩
theorem dX9_alike_9 : AtK mX9_alike 9 (iZ 0) 10 := Or.inl ⟨0, by decide +kernel, by decide, rfl⟩
theorem dX9_alike_10 : AtSI mX9_alike 10 3 11 := ⟨Or.inr ⟨3, by decide +kernel, rfl, rfl⟩, by decide⟩
theorem dX9_alike_11 : AtK mX9_alike 11 (iZ 0) 12 := Or.inl ⟨0, by decide +kernel, by decide, rfl⟩
theorem dX9_alike_12 : AtSI mX9_alike 12 4 14 := ⟨Or.inl ⟨by decide +kernel, rfl⟩, by decide⟩
theorem dX9_alike_14 : AtI mX9_alike 14 4 16 := Or.inl ⟨by decide +kernel, rfl⟩
theorem dX9_alike_16 : AtA mX9_alike 16 0 17 := Or.inr ⟨0, by decide +kernel, rfl, rfl⟩
theorem dX9_alike_17 : AtF mX9_alike 17 9 1 20 := ⟨16, (RX9, TX9, 7), by decide +kernel, rfl, rfl, by decide, Or.inl (Or.inl ⟨154, by decide +kernel⟩)⟩
theorem dX9_alike_20 : AtV mX9_alike 20 mJx4a65c_size_8abf5 0 0 23 := ⟨48, 179, 180, 181, (RJx4a65c, TJx4a65c, 3), by decide +kernel, rfl, rfl, by decide +kernel, by decide +kernel, by decide +kernel, rfl, ⟨⟨182, by decide +kernel⟩, ⟨59, by decide +kernel⟩, ⟨by decide, by decide⟩, by decide +kernel, by decide, by decide⟩⟩
theorem dX9_alike_23 : AtJ mX9_alike 23 (.if_icmp .ge) 26 57 := ⟨34, by decide +kernel, rfl, by decide⟩
theorem dX9_alike_26 : AtA mX9_alike 26 0 27 := Or.inr ⟨0, by decide +kernel, rfl, rfl⟩
theorem dX9_alike_27 : AtF mX9_alike 27 9 1 30 := ⟨16, (RX9, TX9, 7), by decide +kernel, rfl, rfl, by decide, Or.inl (Or.inl ⟨154, by decide +kernel⟩)⟩
theorem dX9_alike_30 : AtI mX9_alike 30 4 32 := Or.inl ⟨by decide +kernel, rfl⟩
theorem dX9_alike_32 : AtV mX9_alike 32 mJx4a65c_get_915e3 1 0 35 := ⟨109, 183, 184, 185, (RJx4a65c, TJx4a65c, 3), by decide +kernel, rfl, rfl, by decide +kernel, by decide +kernel, by decide +kernel, rfl, ⟨⟨186, by decide +kernel⟩, ⟨59, by decide +kernel⟩, ⟨by decide, by decide⟩, by decide +kernel, by decide, by decide⟩⟩
theorem dX9_alike_35 : AtC mX9_alike 35 7 38 := ⟨81, 197, (RX7, TX7, 5), by decide +kernel, rfl, rfl, by decide +kernel⟩
theorem dX9_alike_38 : AtF mX9_alike 38 7 4 41 := ⟨90, (RX7, TX7, 5), by decide +kernel, rfl, rfl, by decide, Or.inr ⟨489, "Hymnwright", by decide +kernel⟩⟩
theorem dX9_alike_41 : AtA mX9_alike 41 2 42 := Or.inr ⟨2, by decide +kernel, rfl, rfl⟩
theorem dX9_alike_42 : AtVN mX9_alike 42 mX4_hasMetreOf 1 4 45 := ⟨113, 202, 204, 1, (RX4, TX4, 3), "Hymnwright", by decide +kernel, rfl, rfl, by decide +kernel, by decide +kernel, by decide +kernel, rfl, ⟨⟨206, by decide +kernel⟩, ⟨70, by decide +kernel⟩, ⟨by decide, by decide⟩, by decide +kernel, by decide, by decide⟩⟩
theorem dX9_alike_45 : AtJ mX9_alike 45 (.ifCond .eq) 48 51 := ⟨6, by decide +kernel, rfl, by decide⟩
theorem dX9_alike_48 : AtInc mX9_alike 48 3 (iZ 1) 51 := ⟨1, by decide +kernel, by decide, rfl, by decide⟩
theorem dX9_alike_51 : AtInc mX9_alike 51 4 (iZ 1) 54 := ⟨1, by decide +kernel, by decide, rfl, by decide⟩
theorem dX9_alike_54 : AtG mX9_alike 54 14 := ⟨(-40), by decide +kernel, by decide⟩
theorem dX9_alike_57 : AtI mX9_alike 57 3 58 := Or.inr ⟨3, by decide +kernel, rfl, rfl⟩
theorem dX9_alike_58 : At mX9_alike 58 .ireturn 1 59 := ⟨by decide +kernel, rfl⟩
theorem dX9_metres_0 : AtK mX9_metres 0 (iZ 0) 1 := Or.inl ⟨0, by decide +kernel, by decide, rfl⟩
theorem dX9_metres_1 : AtSI mX9_metres 1 1 2 := ⟨Or.inr ⟨1, by decide +kernel, rfl, rfl⟩, by decide⟩
theorem dX9_metres_2 : AtK mX9_metres 2 (iZ 0) 3 := Or.inl ⟨0, by decide +kernel, by decide, rfl⟩
theorem dX9_metres_3 : AtSI mX9_metres 3 2 4 := ⟨Or.inr ⟨2, by decide +kernel, rfl, rfl⟩, by decide⟩
theorem dX9_metres_4 : AtI mX9_metres 4 2 5 := Or.inr ⟨2, by decide +kernel, rfl, rfl⟩
theorem dX9_metres_5 : AtA mX9_metres 5 0 6 := Or.inr ⟨0, by decide +kernel, rfl, rfl⟩
theorem dX9_metres_6 : AtF mX9_metres 6 9 1 9 := ⟨16, (RX9, TX9, 7), by decide +kernel, rfl, rfl, by decide, Or.inl (Or.inl ⟨154, by decide +kernel⟩)⟩
theorem dX9_metres_9 : AtV mX9_metres 9 mJx4a65c_size_8abf5 0 0 12 := ⟨48, 179, 180, 181, (RJx4a65c, TJx4a65c, 3), by decide +kernel, rfl, rfl, by decide +kernel, by decide +kernel, by decide +kernel, rfl, ⟨⟨182, by decide +kernel⟩, ⟨59, by decide +kernel⟩, ⟨by decide, by decide⟩, by decide +kernel, by decide, by decide⟩⟩
theorem dX9_metres_12 : AtJ mX9_metres 12 (.if_icmp .ge) 15 42 := ⟨30, by decide +kernel, rfl, by decide⟩
theorem dX9_metres_15 : AtA mX9_metres 15 0 16 := Or.inr ⟨0, by decide +kernel, rfl, rfl⟩
theorem dX9_metres_16 : AtA mX9_metres 16 0 17 := Or.inr ⟨0, by decide +kernel, rfl, rfl⟩
theorem dX9_metres_17 : AtF mX9_metres 17 9 1 20 := ⟨16, (RX9, TX9, 7), by decide +kernel, rfl, rfl, by decide, Or.inl (Or.inl ⟨154, by decide +kernel⟩)⟩
theorem dX9_metres_20 : AtI mX9_metres 20 2 21 := Or.inr ⟨2, by decide +kernel, rfl, rfl⟩
theorem dX9_metres_21 : AtV mX9_metres 21 mJx4a65c_get_915e3 1 0 24 := ⟨109, 183, 184, 185, (RJx4a65c, TJx4a65c, 3), by decide +kernel, rfl, rfl, by decide +kernel, by decide +kernel, by decide +kernel, rfl, ⟨⟨186, by decide +kernel⟩, ⟨59, by decide +kernel⟩, ⟨by decide, by decide⟩, by decide +kernel, by decide, by decide⟩⟩
theorem dX9_metres_24 : AtC mX9_metres 24 7 27 := ⟨81, 197, (RX7, TX7, 5), by decide +kernel, rfl, rfl, by decide +kernel⟩
theorem dX9_metres_27 : AtV mX9_metres 27 mX9_isFirstOfItsMetre 1 9 30 := ⟨119, 198, 200, 0, (RX9, TX9, 7), by decide +kernel, rfl, rfl, by decide +kernel, by decide +kernel, by decide +kernel, rfl, ⟨⟨201, by decide +kernel⟩, ⟨56, by decide +kernel⟩, ⟨by decide, by decide⟩, by decide +kernel, by decide, by decide⟩⟩
theorem dX9_metres_30 : AtJ mX9_metres 30 (.ifCond .eq) 33 36 := ⟨6, by decide +kernel, rfl, by decide⟩
theorem dX9_metres_33 : AtInc mX9_metres 33 1 (iZ 1) 36 := ⟨1, by decide +kernel, by decide, rfl, by decide⟩
theorem dX9_metres_36 : AtInc mX9_metres 36 2 (iZ 1) 39 := ⟨1, by decide +kernel, by decide, rfl, by decide⟩
theorem dX9_metres_39 : AtG mX9_metres 39 4 := ⟨(-35), by decide +kernel, by decide⟩
theorem dX9_metres_42 : AtI mX9_metres 42 1 43 := Or.inr ⟨1, by decide +kernel, rfl, rfl⟩
theorem dX9_metres_43 : At mX9_metres 43 .ireturn 1 44 := ⟨by decide +kernel, rfl⟩
theorem dX9_allowText_0 : AtA mX9_allowText 0 0 1 := Or.inr ⟨0, by decide +kernel, rfl, rfl⟩
theorem dX9_allowText_1 : AtI mX9_allowText 1 1 2 := Or.inr ⟨1, by decide +kernel, rfl, rfl⟩
theorem dX9_allowText_2 : AtV mX9_allowText 2 mX9_textAt 1 9 5 := ⟨67, 432, 434, 8, (RX9, TX9, 7), by decide +kernel, rfl, rfl, by decide +kernel, by decide +kernel, by decide +kernel, rfl, ⟨⟨435, by decide +kernel⟩, ⟨56, by decide +kernel⟩, ⟨by decide, by decide⟩, by decide +kernel, by decide, by decide⟩⟩
theorem dX9_allowText_5 : AtF mX9_allowText 5 6 2 8 := ⟨123, (RX6, TX6, 4), by decide +kernel, rfl, rfl, by decide, Or.inr ⟨351, "Hymnwright", by decide +kernel⟩⟩
theorem dX9_allowText_8 : AtI mX9_allowText 8 2 9 := Or.inr ⟨2, by decide +kernel, rfl, rfl⟩
theorem dX9_allowText_9 : AtVN mX9_allowText 9 mX3_setAllowed 1 3 12 := ⟨127, 573, 575, 14, (RX3, TX3, 2), "Hymnwright", by decide +kernel, rfl, rfl, by decide +kernel, by decide +kernel, by decide +kernel, rfl, ⟨⟨576, by decide +kernel⟩, ⟨71, by decide +kernel⟩, ⟨by decide, by decide⟩, by decide +kernel, by decide, by decide⟩⟩
theorem dX9_allowText_12 : At mX9_allowText 12 .ireturn 1 13 := ⟨by decide +kernel, rfl⟩
theorem dX9_allowTune_0 : AtA mX9_allowTune 0 0 1 := Or.inr ⟨0, by decide +kernel, rfl, rfl⟩
theorem dX9_allowTune_1 : AtI mX9_allowTune 1 1 2 := Or.inr ⟨1, by decide +kernel, rfl, rfl⟩
theorem dX9_allowTune_2 : AtV mX9_allowTune 2 mX9_tuneAt 1 9 5 := ⟨86, 508, 510, 10, (RX9, TX9, 7), by decide +kernel, rfl, rfl, by decide +kernel, by decide +kernel, by decide +kernel, rfl, ⟨⟨511, by decide +kernel⟩, ⟨56, by decide +kernel⟩, ⟨by decide, by decide⟩, by decide +kernel, by decide, by decide⟩⟩
theorem dX9_allowTune_5 : AtF mX9_allowTune 5 7 3 8 := ⟨133, (RX7, TX7, 5), by decide +kernel, rfl, rfl, by decide, Or.inr ⟨487, "Hymnwright", by decide +kernel⟩⟩
theorem dX9_allowTune_8 : AtI mX9_allowTune 8 2 9 := Or.inr ⟨2, by decide +kernel, rfl, rfl⟩
theorem dX9_allowTune_9 : AtVN mX9_allowTune 9 mX3_setAllowed 1 3 12 := ⟨127, 573, 575, 14, (RX3, TX3, 2), "Hymnwright", by decide +kernel, rfl, rfl, by decide +kernel, by decide +kernel, by decide +kernel, rfl, ⟨⟨576, by decide +kernel⟩, ⟨71, by decide +kernel⟩, ⟨by decide, by decide⟩, by decide +kernel, by decide, by decide⟩⟩
theorem dX9_allowTune_12 : At mX9_allowTune 12 .ireturn 1 13 := ⟨by decide +kernel, rfl⟩
theorem dX9_shift_0 : AtA mX9_shift 0 0 1 := Or.inr ⟨0, by decide +kernel, rfl, rfl⟩
theorem dX9_shift_1 : AtI mX9_shift 1 1 2 := Or.inr ⟨1, by decide +kernel, rfl, rfl⟩
theorem dX9_shift_2 : AtV mX9_shift 2 mX9_tuneAt 1 9 5 := ⟨86, 508, 510, 10, (RX9, TX9, 7), by decide +kernel, rfl, rfl, by decide +kernel, by decide +kernel, by decide +kernel, rfl, ⟨⟨511, by decide +kernel⟩, ⟨56, by decide +kernel⟩, ⟨by decide, by decide⟩, by decide +kernel, by decide, by decide⟩⟩
theorem dX9_shift_5 : AtSA mX9_shift 5 4 7 := ⟨Or.inl ⟨by decide +kernel, rfl⟩, by decide⟩
theorem dX9_shift_7 : AtI mX9_shift 7 2 8 := Or.inr ⟨2, by decide +kernel, rfl, rfl⟩
theorem dX9_shift_8 : AtK mX9_shift 8 (iZ 0) 9 := Or.inl ⟨0, by decide +kernel, by decide, rfl⟩
theorem dX9_shift_9 : AtK mX9_shift 9 (iZ 40) 11 := Or.inr (Or.inl ⟨40, by decide +kernel, by decide, rfl⟩)
theorem dX9_shift_11 : AtS mX9_shift 11 mX9_requireRange 3 14 := ⟨43, 224, 225, by decide +kernel, rfl, by decide +kernel, by decide +kernel, rfl, ⟨⟨226, by decide +kernel⟩, ⟨56, by decide +kernel⟩, ⟨by decide, by decide⟩, by decide +kernel, by decide, by decide⟩⟩
theorem dX9_shift_14 : AtI mX9_shift 14 3 15 := Or.inr ⟨3, by decide +kernel, rfl, rfl⟩
theorem dX9_shift_15 : AtI mX9_shift 15 2 16 := Or.inr ⟨2, by decide +kernel, rfl, rfl⟩
theorem dX9_shift_16 : AtK mX9_shift 16 (iZ 40) 18 := Or.inr (Or.inl ⟨40, by decide +kernel, by decide, rfl⟩)
theorem dX9_shift_18 : AtS mX9_shift 18 mX9_requireRange 3 21 := ⟨43, 224, 225, by decide +kernel, rfl, by decide +kernel, by decide +kernel, rfl, ⟨⟨226, by decide +kernel⟩, ⟨56, by decide +kernel⟩, ⟨by decide, by decide⟩, by decide +kernel, by decide, by decide⟩⟩
theorem dX9_shift_21 : AtI mX9_shift 21 2 22 := Or.inr ⟨2, by decide +kernel, rfl, rfl⟩
theorem dX9_shift_22 : AtA mX9_shift 22 4 24 := Or.inl ⟨by decide +kernel, rfl⟩
theorem dX9_shift_24 : AtF mX9_shift 24 7 1 27 := ⟨134, (RX7, TX7, 5), by decide +kernel, rfl, rfl, by decide, Or.inr ⟨483, "Hymnwright", by decide +kernel⟩⟩
theorem dX9_shift_27 : At mX9_shift 27 .isub 1 28 := ⟨by decide +kernel, rfl⟩
theorem dX9_shift_28 : AtSI mX9_shift 28 5 30 := ⟨Or.inl ⟨by decide +kernel, rfl⟩, by decide⟩
theorem dX9_shift_30 : AtI mX9_shift 30 3 31 := Or.inr ⟨3, by decide +kernel, rfl, rfl⟩
theorem dX9_shift_31 : AtA mX9_shift 31 4 33 := Or.inl ⟨by decide +kernel, rfl⟩
theorem dX9_shift_33 : AtF mX9_shift 33 7 2 36 := ⟨137, (RX7, TX7, 5), by decide +kernel, rfl, rfl, by decide, Or.inr ⟨485, "Hymnwright", by decide +kernel⟩⟩
theorem dX9_shift_36 : At mX9_shift 36 .isub 1 37 := ⟨by decide +kernel, rfl⟩
theorem dX9_shift_37 : AtSI mX9_shift 37 6 39 := ⟨Or.inl ⟨by decide +kernel, rfl⟩, by decide⟩
theorem dX9_shift_39 : AtI mX9_shift 39 5 41 := Or.inl ⟨by decide +kernel, rfl⟩
theorem dX9_shift_41 : AtI mX9_shift 41 6 43 := Or.inl ⟨by decide +kernel, rfl⟩
theorem dX9_shift_43 : AtJ mX9_shift 43 (.if_icmp .le) 46 49 := ⟨6, by decide +kernel, rfl, by decide⟩
theorem dX9_shift_46 : AtK mX9_shift 46 (iZ (-100)) 48 := Or.inr (Or.inl ⟨(-100), by decide +kernel, by decide, rfl⟩)
theorem dX9_shift_48 : At mX9_shift 48 .ireturn 1 49 := ⟨by decide +kernel, rfl⟩
theorem dX9_shift_49 : AtI mX9_shift 49 5 51 := Or.inl ⟨by decide +kernel, rfl⟩
theorem dX9_shift_51 : AtJ mX9_shift 51 (.ifCond .le) 54 59 := ⟨8, by decide +kernel, rfl, by decide⟩
theorem dX9_shift_54 : AtI mX9_shift 54 5 56 := Or.inl ⟨by decide +kernel, rfl⟩
theorem dX9_shift_56 : AtG mX9_shift 56 65 := ⟨9, by decide +kernel, by decide⟩
theorem dX9_shift_59 : AtI mX9_shift 59 6 61 := Or.inl ⟨by decide +kernel, rfl⟩
theorem dX9_shift_61 : AtK mX9_shift 61 (iZ 0) 62 := Or.inl ⟨0, by decide +kernel, by decide, rfl⟩
theorem dX9_shift_62 : AtS mX9_shift 62 mJ9_min_7cf53 2 65 := ⟨140, 591, 417, by decide +kernel, rfl, by decide +kernel, by decide +kernel, rfl, ⟨⟨418, by decide +kernel⟩, ⟨73, by decide +kernel⟩, ⟨by decide, by decide⟩, by decide +kernel, by decide, by decide⟩⟩
theorem dX9_shift_65 : At mX9_shift 65 .ireturn 1 66 := ⟨by decide +kernel, rfl⟩
theorem dX9_easter_0 : AtI mX9_easter 0 1 1 := Or.inr ⟨1, by decide +kernel, rfl, rfl⟩
theorem dX9_easter_1 : AtK mX9_easter 1 (iZ 1600) 4 := Or.inr (Or.inr (Or.inl ⟨1600, by decide +kernel, by decide, rfl⟩))
theorem dX9_easter_4 : AtK mX9_easter 4 (iZ 2399) 7 := Or.inr (Or.inr (Or.inl ⟨2399, by decide +kernel, by decide, rfl⟩))
theorem dX9_easter_7 : AtS mX9_easter 7 mX9_requireRange 3 10 := ⟨43, 224, 225, by decide +kernel, rfl, by decide +kernel, by decide +kernel, rfl, ⟨⟨226, by decide +kernel⟩, ⟨56, by decide +kernel⟩, ⟨by decide, by decide⟩, by decide +kernel, by decide, by decide⟩⟩
theorem dX9_easter_10 : AtI mX9_easter 10 1 11 := Or.inr ⟨1, by decide +kernel, rfl, rfl⟩
theorem dX9_easter_11 : AtSN mX9_easter 11 mX0_easterAsDayOfMarch 1 14 := ⟨146, 599, 600, "Hymnwright", by decide +kernel, rfl, by decide +kernel, by decide +kernel, rfl, ⟨⟨601, by decide +kernel⟩, ⟨80, by decide +kernel⟩, ⟨by decide, by decide⟩, by decide +kernel, by decide, by decide⟩⟩
theorem dX9_easter_14 : AtSI mX9_easter 14 2 15 := ⟨Or.inr ⟨2, by decide +kernel, rfl, rfl⟩, by decide⟩
theorem dX9_easter_15 : AtI mX9_easter 15 2 16 := Or.inr ⟨2, by decide +kernel, rfl, rfl⟩
theorem dX9_easter_16 : AtK mX9_easter 16 (iZ 31) 18 := Or.inr (Or.inl ⟨31, by decide +kernel, by decide, rfl⟩)
theorem dX9_easter_18 : AtJ mX9_easter 18 (.if_icmp .le) 21 32 := ⟨14, by decide +kernel, rfl, by decide⟩
theorem dX9_easter_21 : AtK mX9_easter 21 (iZ 400) 24 := Or.inr (Or.inr (Or.inl ⟨400, by decide +kernel, by decide, rfl⟩))
theorem dX9_easter_24 : AtI mX9_easter 24 2 25 := Or.inr ⟨2, by decide +kernel, rfl, rfl⟩
theorem dX9_easter_25 : At mX9_easter 25 .iadd 1 26 := ⟨by decide +kernel, rfl⟩
theorem dX9_easter_26 : AtK mX9_easter 26 (iZ 31) 28 := Or.inr (Or.inl ⟨31, by decide +kernel, by decide, rfl⟩)
theorem dX9_easter_28 : At mX9_easter 28 .isub 1 29 := ⟨by decide +kernel, rfl⟩
theorem dX9_easter_29 : AtG mX9_easter 29 37 := ⟨8, by decide +kernel, by decide⟩
theorem dX9_easter_32 : AtK mX9_easter 32 (iZ 300) 35 := Or.inr (Or.inr (Or.inl ⟨300, by decide +kernel, by decide, rfl⟩))
theorem dX9_easter_35 : AtI mX9_easter 35 2 36 := Or.inr ⟨2, by decide +kernel, rfl, rfl⟩
theorem dX9_easter_36 : At mX9_easter 36 .iadd 1 37 := ⟨by decide +kernel, rfl⟩
theorem dX9_easter_37 : At mX9_easter 37 .ireturn 1 38 := ⟨by decide +kernel, rfl⟩
theorem dX9_easterAnew_0 : AtI mX9_easterAnew 0 1 1 := Or.inr ⟨1, by decide +kernel, rfl, rfl⟩
theorem dX9_easterAnew_1 : AtK mX9_easterAnew 1 (iZ 1600) 4 := Or.inr (Or.inr (Or.inl ⟨1600, by decide +kernel, by decide, rfl⟩))
theorem dX9_easterAnew_4 : AtK mX9_easterAnew 4 (iZ 2399) 7 := Or.inr (Or.inr (Or.inl ⟨2399, by decide +kernel, by decide, rfl⟩))
theorem dX9_easterAnew_7 : AtS mX9_easterAnew 7 mX9_requireRange 3 10 := ⟨43, 224, 225, by decide +kernel, rfl, by decide +kernel, by decide +kernel, rfl, ⟨⟨226, by decide +kernel⟩, ⟨56, by decide +kernel⟩, ⟨by decide, by decide⟩, by decide +kernel, by decide, by decide⟩⟩
theorem dX9_easterAnew_10 : AtI mX9_easterAnew 10 1 11 := Or.inr ⟨1, by decide +kernel, rfl, rfl⟩
theorem dX9_easterAnew_11 : AtSN mX9_easterAnew 11 mX0_easterByRests 1 14 := ⟨152, 609, 610, "Hymnwright", by decide +kernel, rfl, by decide +kernel, by decide +kernel, rfl, ⟨⟨611, by decide +kernel⟩, ⟨80, by decide +kernel⟩, ⟨by decide, by decide⟩, by decide +kernel, by decide, by decide⟩⟩
theorem dX9_easterAnew_14 : At mX9_easterAnew 14 .ireturn 1 15 := ⟨by decide +kernel, rfl⟩
theorem dX9_weekday_0 : AtI mX9_weekday 0 1 1 := Or.inr ⟨1, by decide +kernel, rfl, rfl⟩
theorem dX9_weekday_1 : AtI mX9_weekday 1 2 2 := Or.inr ⟨2, by decide +kernel, rfl, rfl⟩
theorem dX9_weekday_2 : AtI mX9_weekday 2 3 3 := Or.inr ⟨3, by decide +kernel, rfl, rfl⟩
theorem dX9_weekday_3 : AtS mX9_weekday 3 mX9_requireDay 3 6 := ⟨155, 619, 620, by decide +kernel, rfl, by decide +kernel, by decide +kernel, rfl, ⟨⟨621, by decide +kernel⟩, ⟨56, by decide +kernel⟩, ⟨by decide, by decide⟩, by decide +kernel, by decide, by decide⟩⟩
theorem dX9_weekday_6 : AtI mX9_weekday 6 1 7 := Or.inr ⟨1, by decide +kernel, rfl, rfl⟩
theorem dX9_weekday_7 : AtI mX9_weekday 7 1 8 := Or.inr ⟨1, by decide +kernel, rfl, rfl⟩
theorem dX9_weekday_8 : AtI mX9_weekday 8 2 9 := Or.inr ⟨2, by decide +kernel, rfl, rfl⟩
theorem dX9_weekday_9 : AtI mX9_weekday 9 3 10 := Or.inr ⟨3, by decide +kernel, rfl, rfl⟩
theorem dX9_weekday_10 : AtSN mX9_weekday 10 mX0_dayOfYear 3 13 := ⟨158, 628, 629, "Hymnwright", by decide +kernel, rfl, by decide +kernel, by decide +kernel, rfl, ⟨⟨630, by decide +kernel⟩, ⟨80, by decide +kernel⟩, ⟨by decide, by decide⟩, by decide +kernel, by decide, by decide⟩⟩
theorem dX9_weekday_13 : AtSN mX9_weekday 13 mX0_dayOfWeek 2 16 := ⟨162, 633, 634, "Hymnwright", by decide +kernel, rfl, by decide +kernel, by decide +kernel, rfl, ⟨⟨635, by decide +kernel⟩, ⟨80, by decide +kernel⟩, ⟨by decide, by decide⟩, by decide +kernel, by decide, by decide⟩⟩
theorem dX9_weekday_16 : At mX9_weekday 16 .ireturn 1 17 := ⟨by decide +kernel, rfl⟩
theorem dX9_feast_0 : AtI mX9_feast 0 1 1 := Or.inr ⟨1, by decide +kernel, rfl, rfl⟩
theorem dX9_feast_1 : AtK mX9_feast 1 (iZ 1) 2 := Or.inl ⟨1, by decide +kernel, by decide, rfl⟩
theorem dX9_feast_2 : AtK mX9_feast 2 (iZ 9) 4 := Or.inr (Or.inl ⟨9, by decide +kernel, by decide, rfl⟩)
theorem dX9_feast_4 : AtS mX9_feast 4 mX9_requireRange 3 7 := ⟨43, 224, 225, by decide +kernel, rfl, by decide +kernel, by decide +kernel, rfl, ⟨⟨226, by decide +kernel⟩, ⟨56, by decide +kernel⟩, ⟨by decide, by decide⟩, by decide +kernel, by decide, by decide⟩⟩
theorem dX9_feast_7 : AtK mX9_feast 7 (iZ 2000) 10 := Or.inr (Or.inr (Or.inl ⟨2000, by decide +kernel, by decide, rfl⟩))
theorem dX9_feast_10 : AtI mX9_feast 10 3 11 := Or.inr ⟨3, by decide +kernel, rfl, rfl⟩
theorem dX9_feast_11 : AtI mX9_feast 11 4 13 := Or.inl ⟨by decide +kernel, rfl⟩
theorem dX9_feast_13 : AtS mX9_feast 13 mX9_requireDay 3 16 := ⟨155, 619, 620, by decide +kernel, rfl, by decide +kernel, by decide +kernel, rfl, ⟨⟨621, by decide +kernel⟩, ⟨56, by decide +kernel⟩, ⟨by decide, by decide⟩, by decide +kernel, by decide, by decide⟩⟩
theorem dX9_feast_16 : AtA mX9_feast 16 0 17 := Or.inr ⟨0, by decide +kernel, rfl, rfl⟩
theorem dX9_feast_17 : AtN mX9_feast 17 1 [.int 0, .int 0, .int 0, .int 0, .null] 20 := ⟨165, 646, 647, 81, (RX1, TX1, 5), by decide +kernel, rfl, rfl, by decide +kernel, by decide +kernel, by decide +kernel, rfl, fun j hj => by rcases (show j = 0 ∨ j = 1 ∨ j = 2 ∨ j = 3 ∨ j = 4 from by have hj : j < 5 := hj; omega) with rfl | rfl | rfl | rfl | rfl <;> rfl⟩
theorem dX9_feast_20 : At mX9_feast 20 .dup 1 21 := ⟨by decide +kernel, rfl⟩
theorem dX9_feast_21 : AtI mX9_feast 21 1 22 := Or.inr ⟨1, by decide +kernel, rfl, rfl⟩
theorem dX9_feast_22 : AtI mX9_feast 22 2 23 := Or.inr ⟨2, by decide +kernel, rfl, rfl⟩
theorem dX9_feast_23 : AtI mX9_feast 23 3 24 := Or.inr ⟨3, by decide +kernel, rfl, rfl⟩
theorem dX9_feast_24 : AtI mX9_feast 24 4 26 := Or.inl ⟨by decide +kernel, rfl⟩
theorem dX9_feast_26 : AtNIN mX9_feast 26 mX1_init 4 29 := ⟨167, 648, 649, "Hymnwright", by decide +kernel, rfl, by decide +kernel, by decide +kernel, rfl, rfl, rfl, ⟨⟨650, by decide +kernel⟩, ⟨81, by decide +kernel⟩, ⟨by decide, by decide⟩, by decide +kernel, by decide, by decide⟩⟩
theorem dX9_feast_29 : AtV mX9_feast 29 mX9_addFeast 1 9 32 := ⟨170, 673, 675, 15, (RX9, TX9, 7), by decide +kernel, rfl, rfl, by decide +kernel, by decide +kernel, by decide +kernel, rfl, ⟨⟨676, by decide +kernel⟩, ⟨56, by decide +kernel⟩, ⟨by decide, by decide⟩, by decide +kernel, by decide, by decide⟩⟩
theorem dX9_feast_32 : At mX9_feast 32 .ireturn 1 33 := ⟨by decide +kernel, rfl⟩
theorem dX9_moving_0 : AtI mX9_moving 0 1 1 := Or.inr ⟨1, by decide +kernel, rfl, rfl⟩
theorem dX9_moving_1 : AtK mX9_moving 1 (iZ 1) 2 := Or.inl ⟨1, by decide +kernel, by decide, rfl⟩
theorem dX9_moving_2 : AtK mX9_moving 2 (iZ 9) 4 := Or.inr (Or.inl ⟨9, by decide +kernel, by decide, rfl⟩)
theorem dX9_moving_4 : AtS mX9_moving 4 mX9_requireRange 3 7 := ⟨43, 224, 225, by decide +kernel, rfl, by decide +kernel, by decide +kernel, rfl, ⟨⟨226, by decide +kernel⟩, ⟨56, by decide +kernel⟩, ⟨by decide, by decide⟩, by decide +kernel, by decide, by decide⟩⟩
theorem dX9_moving_7 : AtI mX9_moving 7 3 8 := Or.inr ⟨3, by decide +kernel, rfl, rfl⟩
theorem dX9_moving_8 : AtK mX9_moving 8 (iZ (-60)) 10 := Or.inr (Or.inl ⟨(-60), by decide +kernel, by decide, rfl⟩)
theorem dX9_moving_10 : AtK mX9_moving 10 (iZ 60) 12 := Or.inr (Or.inl ⟨60, by decide +kernel, by decide, rfl⟩)
theorem dX9_moving_12 : AtS mX9_moving 12 mX9_requireRange 3 15 := ⟨43, 224, 225, by decide +kernel, rfl, by decide +kernel, by decide +kernel, rfl, ⟨⟨226, by decide +kernel⟩, ⟨56, by decide +kernel⟩, ⟨by decide, by decide⟩, by decide +kernel, by decide, by decide⟩⟩
theorem dX9_moving_15 : AtA mX9_moving 15 0 16 := Or.inr ⟨0, by decide +kernel, rfl, rfl⟩
theorem dX9_moving_16 : AtN mX9_moving 16 1 [.int 0, .int 0, .int 0, .int 0, .null] 19 := ⟨165, 646, 647, 81, (RX1, TX1, 5), by decide +kernel, rfl, rfl, by decide +kernel, by decide +kernel, by decide +kernel, rfl, fun j hj => by rcases (show j = 0 ∨ j = 1 ∨ j = 2 ∨ j = 3 ∨ j = 4 from by have hj : j < 5 := hj; omega) with rfl | rfl | rfl | rfl | rfl <;> rfl⟩
theorem dX9_moving_19 : At mX9_moving 19 .dup 1 20 := ⟨by decide +kernel, rfl⟩
theorem dX9_moving_20 : AtI mX9_moving 20 1 21 := Or.inr ⟨1, by decide +kernel, rfl, rfl⟩
theorem dX9_moving_21 : AtI mX9_moving 21 2 22 := Or.inr ⟨2, by decide +kernel, rfl, rfl⟩
theorem dX9_moving_22 : AtK mX9_moving 22 (iZ 0) 23 := Or.inl ⟨0, by decide +kernel, by decide, rfl⟩
theorem dX9_moving_23 : AtI mX9_moving 23 3 24 := Or.inr ⟨3, by decide +kernel, rfl, rfl⟩
theorem dX9_moving_24 : AtNIN mX9_moving 24 mX1_init 4 27 := ⟨167, 648, 649, "Hymnwright", by decide +kernel, rfl, by decide +kernel, by decide +kernel, rfl, rfl, rfl, ⟨⟨650, by decide +kernel⟩, ⟨81, by decide +kernel⟩, ⟨by decide, by decide⟩, by decide +kernel, by decide, by decide⟩⟩
theorem dX9_moving_27 : AtV mX9_moving 27 mX9_addFeast 1 9 30 := ⟨170, 673, 675, 15, (RX9, TX9, 7), by decide +kernel, rfl, rfl, by decide +kernel, by decide +kernel, by decide +kernel, rfl, ⟨⟨676, by decide +kernel⟩, ⟨56, by decide +kernel⟩, ⟨by decide, by decide⟩, by decide +kernel, by decide, by decide⟩⟩
theorem dX9_moving_30 : At mX9_moving 30 .ireturn 1 31 := ⟨by decide +kernel, rfl⟩
theorem dX9_sundays_0 : AtI mX9_sundays 0 1 1 := Or.inr ⟨1, by decide +kernel, rfl, rfl⟩
theorem dX9_sundays_1 : AtK mX9_sundays 1 (iZ 0) 2 := Or.inl ⟨0, by decide +kernel, by decide, rfl⟩
theorem dX9_sundays_2 : AtK mX9_sundays 2 (iZ 9) 4 := Or.inr (Or.inl ⟨9, by decide +kernel, by decide, rfl⟩)
theorem dX9_sundays_4 : AtS mX9_sundays 4 mX9_requireRange 3 7 := ⟨43, 224, 225, by decide +kernel, rfl, by decide +kernel, by decide +kernel, rfl, ⟨⟨226, by decide +kernel⟩, ⟨56, by decide +kernel⟩, ⟨by decide, by decide⟩, by decide +kernel, by decide, by decide⟩⟩
theorem dX9_sundays_7 : AtA mX9_sundays 7 0 8 := Or.inr ⟨0, by decide +kernel, rfl, rfl⟩
theorem dX9_sundays_8 : AtF mX9_sundays 8 9 6 11 := ⟨39, (RX9, TX9, 7), by decide +kernel, rfl, rfl, by decide, Or.inl (Or.inl ⟨159, by decide +kernel⟩)⟩
theorem dX9_sundays_11 : AtSI mX9_sundays 11 2 12 := ⟨Or.inr ⟨2, by decide +kernel, rfl, rfl⟩, by decide⟩
theorem dX9_sundays_12 : AtA mX9_sundays 12 0 13 := Or.inr ⟨0, by decide +kernel, rfl, rfl⟩
theorem dX9_sundays_13 : AtI mX9_sundays 13 1 14 := Or.inr ⟨1, by decide +kernel, rfl, rfl⟩
theorem dX9_sundays_14 : AtP mX9_sundays 14 9 6 (.int) 17 := ⟨39, (RX9, TX9, 7), by decide +kernel, rfl, rfl, by decide, Or.inl ⟨159, by decide +kernel⟩, by decide +kernel, Or.inl rfl⟩
theorem dX9_sundays_17 : AtI mX9_sundays 17 2 18 := Or.inr ⟨2, by decide +kernel, rfl, rfl⟩
theorem dX9_sundays_18 : At mX9_sundays 18 .ireturn 1 19 := ⟨by decide +kernel, rfl⟩
theorem dX9_reading_0 : AtI mX9_reading 0 1 1 := Or.inr ⟨1, by decide +kernel, rfl, rfl⟩
theorem dX9_reading_1 : AtK mX9_reading 1 (iZ (-2)) 3 := Or.inr (Or.inl ⟨(-2), by decide +kernel, by decide, rfl⟩)
theorem dX9_reading_3 : AtJ mX9_reading 3 (.if_icmp .ne) 6 13 := ⟨10, by decide +kernel, rfl, by decide⟩
theorem dX9_reading_6 : AtA mX9_reading 6 0 7 := Or.inr ⟨0, by decide +kernel, rfl, rfl⟩
theorem dX9_reading_7 : AtF mX9_reading 7 9 4 10 := ⟨28, (RX9, TX9, 7), by decide +kernel, rfl, rfl, by decide, Or.inl (Or.inl ⟨157, by decide +kernel⟩)⟩
theorem dX9_reading_10 : AtG mX9_reading 10 21 := ⟨11, by decide +kernel, by decide⟩
theorem dX9_reading_13 : AtA mX9_reading 13 0 14 := Or.inr ⟨0, by decide +kernel, rfl, rfl⟩
theorem dX9_reading_14 : AtI mX9_reading 14 1 15 := Or.inr ⟨1, by decide +kernel, rfl, rfl⟩
theorem dX9_reading_15 : AtV mX9_reading 15 mX9_feastAt 1 9 18 := ⟨174, 699, 701, 16, (RX9, TX9, 7), by decide +kernel, rfl, rfl, by decide +kernel, by decide +kernel, by decide +kernel, rfl, ⟨⟨702, by decide +kernel⟩, ⟨56, by decide +kernel⟩, ⟨by decide, by decide⟩, by decide +kernel, by decide, by decide⟩⟩
theorem dX9_reading_18 : AtF mX9_reading 18 1 4 21 := ⟨178, (RX1, TX1, 5), by decide +kernel, rfl, rfl, by decide, Or.inr ⟨661, "Hymnwright", by decide +kernel⟩⟩
theorem dX9_reading_21 : AtSA mX9_reading 21 4 23 := ⟨Or.inl ⟨by decide +kernel, rfl⟩, by decide⟩
theorem dX9_reading_23 : AtI mX9_reading 23 2 24 := Or.inr ⟨2, by decide +kernel, rfl, rfl⟩
theorem dX9_reading_24 : AtK mX9_reading 24 (iZ 0) 25 := Or.inl ⟨0, by decide +kernel, by decide, rfl⟩
theorem dX9_reading_25 : AtK mX9_reading 25 (iZ 2) 26 := Or.inl ⟨2, by decide +kernel, by decide, rfl⟩
theorem dX9_reading_26 : AtS mX9_reading 26 mX9_requireRange 3 29 := ⟨43, 224, 225, by decide +kernel, rfl, by decide +kernel, by decide +kernel, rfl, ⟨⟨226, by decide +kernel⟩, ⟨56, by decide +kernel⟩, ⟨by decide, by decide⟩, by decide +kernel, by decide, by decide⟩⟩
theorem dX9_reading_29 : AtI mX9_reading 29 3 30 := Or.inr ⟨3, by decide +kernel, rfl, rfl⟩
theorem dX9_reading_30 : AtK mX9_reading 30 (iZ (-100)) 32 := Or.inr (Or.inl ⟨(-100), by decide +kernel, by decide, rfl⟩)
theorem dX9_reading_32 : AtJ mX9_reading 32 (.if_icmp .eq) 35 42 := ⟨10, by decide +kernel, rfl, by decide⟩
theorem dX9_reading_35 : AtI mX9_reading 35 3 36 := Or.inr ⟨3, by decide +kernel, rfl, rfl⟩
theorem dX9_reading_36 : AtK mX9_reading 36 (iZ 0) 37 := Or.inl ⟨0, by decide +kernel, by decide, rfl⟩
theorem dX9_reading_37 : AtK mX9_reading 37 (iZ 15) 39 := Or.inr (Or.inl ⟨15, by decide +kernel, by decide, rfl⟩)
theorem dX9_reading_39 : AtS mX9_reading 39 mX9_requireRange 3 42 := ⟨43, 224, 225, by decide +kernel, rfl, by decide +kernel, by decide +kernel, rfl, ⟨⟨226, by decide +kernel⟩, ⟨56, by decide +kernel⟩, ⟨by decide, by decide⟩, by decide +kernel, by decide, by decide⟩⟩
theorem dX9_reading_42 : AtA mX9_reading 42 4 44 := Or.inl ⟨by decide +kernel, rfl⟩
theorem dX9_reading_44 : AtI mX9_reading 44 2 45 := Or.inr ⟨2, by decide +kernel, rfl, rfl⟩
theorem dX9_reading_45 : AtI mX9_reading 45 3 46 := Or.inr ⟨3, by decide +kernel, rfl, rfl⟩
theorem dX9_reading_46 : AtVN mX9_reading 46 mX2_replace 2 2 49 := ⟨181, 703, 705, 17, (RX2, TX2, 1), "Hymnwright", by decide +kernel, rfl, rfl, by decide +kernel, by decide +kernel, by decide +kernel, rfl, ⟨⟨706, by decide +kernel⟩, ⟨60, by decide +kernel⟩, ⟨by decide, by decide⟩, by decide +kernel, by decide, by decide⟩⟩
theorem dX9_reading_49 : At mX9_reading 49 .ireturn 1 50 := ⟨by decide +kernel, rfl⟩
theorem dX9_kept_0 : AtI mX9_kept 0 1 1 := Or.inr ⟨1, by decide +kernel, rfl, rfl⟩
theorem dX9_kept_1 : AtI mX9_kept 1 2 2 := Or.inr ⟨2, by decide +kernel, rfl, rfl⟩
theorem dX9_kept_2 : AtI mX9_kept 2 3 3 := Or.inr ⟨3, by decide +kernel, rfl, rfl⟩
theorem dX9_kept_3 : AtS mX9_kept 3 mX9_requireDay 3 6 := ⟨155, 619, 620, by decide +kernel, rfl, by decide +kernel, by decide +kernel, rfl, ⟨⟨621, by decide +kernel⟩, ⟨56, by decide +kernel⟩, ⟨by decide, by decide⟩, by decide +kernel, by decide, by decide⟩⟩
theorem dX9_kept_6 : AtA mX9_kept 6 0 7 := Or.inr ⟨0, by decide +kernel, rfl, rfl⟩
theorem dX9_kept_7 : AtF mX9_kept 7 9 5 10 := ⟨35, (RX9, TX9, 7), by decide +kernel, rfl, rfl, by decide, Or.inl (Or.inl ⟨158, by decide +kernel⟩)⟩
theorem dX9_kept_10 : AtI mX9_kept 10 1 11 := Or.inr ⟨1, by decide +kernel, rfl, rfl⟩
theorem dX9_kept_11 : AtA mX9_kept 11 0 12 := Or.inr ⟨0, by decide +kernel, rfl, rfl⟩
theorem dX9_kept_12 : AtF mX9_kept 12 9 2 15 := ⟨19, (RX9, TX9, 7), by decide +kernel, rfl, rfl, by decide, Or.inl (Or.inl ⟨155, by decide +kernel⟩)⟩
theorem dX9_kept_15 : AtA mX9_kept 15 0 16 := Or.inr ⟨0, by decide +kernel, rfl, rfl⟩
theorem dX9_kept_16 : AtF mX9_kept 16 9 6 19 := ⟨39, (RX9, TX9, 7), by decide +kernel, rfl, rfl, by decide, Or.inl (Or.inl ⟨159, by decide +kernel⟩)⟩
theorem dX9_kept_19 : AtVN mX9_kept 19 mX8_layOut 3 8 22 := ⟨184, 718, 720, 19, (RX8, TX8, 5), "Hymnwright", by decide +kernel, rfl, rfl, by decide +kernel, by decide +kernel, by decide +kernel, rfl, ⟨⟨721, by decide +kernel⟩, ⟨62, by decide +kernel⟩, ⟨by decide, by decide⟩, by decide +kernel, by decide, by decide⟩⟩
theorem dX9_kept_22 : AtA mX9_kept 22 0 23 := Or.inr ⟨0, by decide +kernel, rfl, rfl⟩
theorem dX9_kept_23 : AtF mX9_kept 23 9 5 26 := ⟨35, (RX9, TX9, 7), by decide +kernel, rfl, rfl, by decide, Or.inl (Or.inl ⟨158, by decide +kernel⟩)⟩
theorem dX9_kept_26 : AtI mX9_kept 26 1 27 := Or.inr ⟨1, by decide +kernel, rfl, rfl⟩
theorem dX9_kept_27 : AtI mX9_kept 27 2 28 := Or.inr ⟨2, by decide +kernel, rfl, rfl⟩
theorem dX9_kept_28 : AtI mX9_kept 28 3 29 := Or.inr ⟨3, by decide +kernel, rfl, rfl⟩
theorem dX9_kept_29 : AtSN mX9_kept 29 mX0_dayOfYear 3 32 := ⟨158, 628, 629, "Hymnwright", by decide +kernel, rfl, by decide +kernel, by decide +kernel, rfl, ⟨⟨630, by decide +kernel⟩, ⟨80, by decide +kernel⟩, ⟨by decide, by decide⟩, by decide +kernel, by decide, by decide⟩⟩
theorem dX9_kept_32 : AtVN mX9_kept 32 mX8_keptOn 1 8 35 := ⟨188, 750, 752, 24, (RX8, TX8, 5), "Hymnwright", by decide +kernel, rfl, rfl, by decide +kernel, by decide +kernel, by decide +kernel, rfl, ⟨⟨753, by decide +kernel⟩, ⟨62, by decide +kernel⟩, ⟨by decide, by decide⟩, by decide +kernel, by decide, by decide⟩⟩
theorem dX9_kept_35 : At mX9_kept 35 .ireturn 1 36 := ⟨by decide +kernel, rfl⟩
theorem dX9_when_0 : AtI mX9_when 0 1 1 := Or.inr ⟨1, by decide +kernel, rfl, rfl⟩
theorem dX9_when_1 : AtA mX9_when 1 0 2 := Or.inr ⟨0, by decide +kernel, rfl, rfl⟩
theorem dX9_when_2 : AtF mX9_when 2 9 2 5 := ⟨19, (RX9, TX9, 7), by decide +kernel, rfl, rfl, by decide, Or.inl (Or.inl ⟨155, by decide +kernel⟩)⟩
theorem dX9_when_5 : AtV mX9_when 5 mJx4a65c_size_8abf5 0 0 8 := ⟨48, 179, 180, 181, (RJx4a65c, TJx4a65c, 3), by decide +kernel, rfl, rfl, by decide +kernel, by decide +kernel, by decide +kernel, rfl, ⟨⟨182, by decide +kernel⟩, ⟨59, by decide +kernel⟩, ⟨by decide, by decide⟩, by decide +kernel, by decide, by decide⟩⟩
theorem dX9_when_8 : AtS mX9_when 8 mX9_requireIndex 2 11 := ⟨191, 436, 437, by decide +kernel, rfl, by decide +kernel, by decide +kernel, rfl, ⟨⟨438, by decide +kernel⟩, ⟨56, by decide +kernel⟩, ⟨by decide, by decide⟩, by decide +kernel, by decide, by decide⟩⟩
theorem dX9_when_11 : AtI mX9_when 11 2 12 := Or.inr ⟨2, by decide +kernel, rfl, rfl⟩
theorem dX9_when_12 : AtK mX9_when 12 (iZ 1600) 15 := Or.inr (Or.inr (Or.inl ⟨1600, by decide +kernel, by decide, rfl⟩))
theorem dX9_when_15 : AtK mX9_when 15 (iZ 2399) 18 := Or.inr (Or.inr (Or.inl ⟨2399, by decide +kernel, by decide, rfl⟩))
theorem dX9_when_18 : AtS mX9_when 18 mX9_requireRange 3 21 := ⟨43, 224, 225, by decide +kernel, rfl, by decide +kernel, by decide +kernel, rfl, ⟨⟨226, by decide +kernel⟩, ⟨56, by decide +kernel⟩, ⟨by decide, by decide⟩, by decide +kernel, by decide, by decide⟩⟩
theorem dX9_when_21 : AtA mX9_when 21 0 22 := Or.inr ⟨0, by decide +kernel, rfl, rfl⟩
theorem dX9_when_22 : AtF mX9_when 22 9 5 25 := ⟨35, (RX9, TX9, 7), by decide +kernel, rfl, rfl, by decide, Or.inl (Or.inl ⟨158, by decide +kernel⟩)⟩
theorem dX9_when_25 : AtI mX9_when 25 2 26 := Or.inr ⟨2, by decide +kernel, rfl, rfl⟩
theorem dX9_when_26 : AtA mX9_when 26 0 27 := Or.inr ⟨0, by decide +kernel, rfl, rfl⟩
theorem dX9_when_27 : AtF mX9_when 27 9 2 30 := ⟨19, (RX9, TX9, 7), by decide +kernel, rfl, rfl, by decide, Or.inl (Or.inl ⟨155, by decide +kernel⟩)⟩
theorem dX9_when_30 : AtA mX9_when 30 0 31 := Or.inr ⟨0, by decide +kernel, rfl, rfl⟩
theorem dX9_when_31 : AtF mX9_when 31 9 6 34 := ⟨39, (RX9, TX9, 7), by decide +kernel, rfl, rfl, by decide, Or.inl (Or.inl ⟨159, by decide +kernel⟩)⟩
theorem dX9_when_34 : AtVN mX9_when 34 mX8_layOut 3 8 37 := ⟨184, 718, 720, 19, (RX8, TX8, 5), "Hymnwright", by decide +kernel, rfl, rfl, by decide +kernel, by decide +kernel, by decide +kernel, rfl, ⟨⟨721, by decide +kernel⟩, ⟨62, by decide +kernel⟩, ⟨by decide, by decide⟩, by decide +kernel, by decide, by decide⟩⟩
theorem dX9_when_37 : AtA mX9_when 37 0 38 := Or.inr ⟨0, by decide +kernel, rfl, rfl⟩
theorem dX9_when_38 : AtF mX9_when 38 9 5 41 := ⟨35, (RX9, TX9, 7), by decide +kernel, rfl, rfl, by decide, Or.inl (Or.inl ⟨158, by decide +kernel⟩)⟩
theorem dX9_when_41 : AtI mX9_when 41 1 42 := Or.inr ⟨1, by decide +kernel, rfl, rfl⟩
theorem dX9_when_42 : AtVN mX9_when 42 mX8_dayOfFeast 1 8 45 := ⟨195, 761, 763, 25, (RX8, TX8, 5), "Hymnwright", by decide +kernel, rfl, rfl, by decide +kernel, by decide +kernel, by decide +kernel, rfl, ⟨⟨764, by decide +kernel⟩, ⟨62, by decide +kernel⟩, ⟨by decide, by decide⟩, by decide +kernel, by decide, by decide⟩⟩
theorem dX9_when_45 : AtSI mX9_when 45 3 46 := ⟨Or.inr ⟨3, by decide +kernel, rfl, rfl⟩, by decide⟩
theorem dX9_when_46 : AtI mX9_when 46 3 47 := Or.inr ⟨3, by decide +kernel, rfl, rfl⟩
theorem dX9_when_47 : AtK mX9_when 47 (iZ (-100)) 49 := Or.inr (Or.inl ⟨(-100), by decide +kernel, by decide, rfl⟩)
theorem dX9_when_49 : AtJ mX9_when 49 (.if_icmp .ne) 52 57 := ⟨8, by decide +kernel, rfl, by decide⟩
theorem dX9_when_52 : AtK mX9_when 52 (iZ (-100)) 54 := Or.inr (Or.inl ⟨(-100), by decide +kernel, by decide, rfl⟩)
theorem dX9_when_54 : AtG mX9_when 54 62 := ⟨8, by decide +kernel, by decide⟩
theorem dX9_when_57 : AtI mX9_when 57 2 58 := Or.inr ⟨2, by decide +kernel, rfl, rfl⟩
theorem dX9_when_58 : AtI mX9_when 58 3 59 := Or.inr ⟨3, by decide +kernel, rfl, rfl⟩
theorem dX9_when_59 : AtSN mX9_when 59 mX0_monthAndDay 2 62 := ⟨198, 765, 766, "Hymnwright", by decide +kernel, rfl, by decide +kernel, by decide +kernel, rfl, ⟨⟨767, by decide +kernel⟩, ⟨80, by decide +kernel⟩, ⟨by decide, by decide⟩, by decide +kernel, by decide, by decide⟩⟩
theorem dX9_when_62 : At mX9_when 62 .ireturn 1 63 := ⟨by decide +kernel, rfl⟩
theorem dX9_whenAnew_0 : AtI mX9_whenAnew 0 1 1 := Or.inr ⟨1, by decide +kernel, rfl, rfl⟩
theorem dX9_whenAnew_1 : AtA mX9_whenAnew 1 0 2 := Or.inr ⟨0, by decide +kernel, rfl, rfl⟩
theorem dX9_whenAnew_2 : AtF mX9_whenAnew 2 9 2 5 := ⟨19, (RX9, TX9, 7), by decide +kernel, rfl, rfl, by decide, Or.inl (Or.inl ⟨155, by decide +kernel⟩)⟩
theorem dX9_whenAnew_5 : AtV mX9_whenAnew 5 mJx4a65c_size_8abf5 0 0 8 := ⟨48, 179, 180, 181, (RJx4a65c, TJx4a65c, 3), by decide +kernel, rfl, rfl, by decide +kernel, by decide +kernel, by decide +kernel, rfl, ⟨⟨182, by decide +kernel⟩, ⟨59, by decide +kernel⟩, ⟨by decide, by decide⟩, by decide +kernel, by decide, by decide⟩⟩
theorem dX9_whenAnew_8 : AtS mX9_whenAnew 8 mX9_requireIndex 2 11 := ⟨191, 436, 437, by decide +kernel, rfl, by decide +kernel, by decide +kernel, rfl, ⟨⟨438, by decide +kernel⟩, ⟨56, by decide +kernel⟩, ⟨by decide, by decide⟩, by decide +kernel, by decide, by decide⟩⟩
theorem dX9_whenAnew_11 : AtI mX9_whenAnew 11 2 12 := Or.inr ⟨2, by decide +kernel, rfl, rfl⟩
theorem dX9_whenAnew_12 : AtK mX9_whenAnew 12 (iZ 1600) 15 := Or.inr (Or.inr (Or.inl ⟨1600, by decide +kernel, by decide, rfl⟩))
theorem dX9_whenAnew_15 : AtK mX9_whenAnew 15 (iZ 2399) 18 := Or.inr (Or.inr (Or.inl ⟨2399, by decide +kernel, by decide, rfl⟩))
theorem dX9_whenAnew_18 : AtS mX9_whenAnew 18 mX9_requireRange 3 21 := ⟨43, 224, 225, by decide +kernel, rfl, by decide +kernel, by decide +kernel, rfl, ⟨⟨226, by decide +kernel⟩, ⟨56, by decide +kernel⟩, ⟨by decide, by decide⟩, by decide +kernel, by decide, by decide⟩⟩
theorem dX9_whenAnew_21 : AtA mX9_whenAnew 21 0 22 := Or.inr ⟨0, by decide +kernel, rfl, rfl⟩
theorem dX9_whenAnew_22 : AtF mX9_whenAnew 22 9 5 25 := ⟨35, (RX9, TX9, 7), by decide +kernel, rfl, rfl, by decide, Or.inl (Or.inl ⟨158, by decide +kernel⟩)⟩
theorem dX9_whenAnew_25 : AtI mX9_whenAnew 25 2 26 := Or.inr ⟨2, by decide +kernel, rfl, rfl⟩
theorem dX9_whenAnew_26 : AtA mX9_whenAnew 26 0 27 := Or.inr ⟨0, by decide +kernel, rfl, rfl⟩
theorem dX9_whenAnew_27 : AtF mX9_whenAnew 27 9 2 30 := ⟨19, (RX9, TX9, 7), by decide +kernel, rfl, rfl, by decide, Or.inl (Or.inl ⟨155, by decide +kernel⟩)⟩
theorem dX9_whenAnew_30 : AtA mX9_whenAnew 30 0 31 := Or.inr ⟨0, by decide +kernel, rfl, rfl⟩
theorem dX9_whenAnew_31 : AtF mX9_whenAnew 31 9 6 34 := ⟨39, (RX9, TX9, 7), by decide +kernel, rfl, rfl, by decide, Or.inl (Or.inl ⟨159, by decide +kernel⟩)⟩
theorem dX9_whenAnew_34 : AtVN mX9_whenAnew 34 mX8_layOut 3 8 37 := ⟨184, 718, 720, 19, (RX8, TX8, 5), "Hymnwright", by decide +kernel, rfl, rfl, by decide +kernel, by decide +kernel, by decide +kernel, rfl, ⟨⟨721, by decide +kernel⟩, ⟨62, by decide +kernel⟩, ⟨by decide, by decide⟩, by decide +kernel, by decide, by decide⟩⟩
theorem dX9_whenAnew_37 : AtK mX9_whenAnew 37 (iZ (-100)) 39 := Or.inr (Or.inl ⟨(-100), by decide +kernel, by decide, rfl⟩)
theorem dX9_whenAnew_39 : AtSI mX9_whenAnew 39 3 40 := ⟨Or.inr ⟨3, by decide +kernel, rfl, rfl⟩, by decide⟩
theorem dX9_whenAnew_40 : AtK mX9_whenAnew 40 (iZ 1) 41 := Or.inl ⟨1, by decide +kernel, by decide, rfl⟩
theorem dX9_whenAnew_41 : AtSI mX9_whenAnew 41 4 43 := ⟨Or.inl ⟨by decide +kernel, rfl⟩, by decide⟩
theorem dX9_whenAnew_43 : AtI mX9_whenAnew 43 4 45 := Or.inl ⟨by decide +kernel, rfl⟩
theorem dX9_whenAnew_45 : AtK mX9_whenAnew 45 (iZ 12) 47 := Or.inr (Or.inl ⟨12, by decide +kernel, by decide, rfl⟩)
theorem dX9_whenAnew_47 : AtJ mX9_whenAnew 47 (.if_icmp .gt) 50 104 := ⟨57, by decide +kernel, rfl, by decide⟩
theorem dX9_whenAnew_50 : AtK mX9_whenAnew 50 (iZ 1) 51 := Or.inl ⟨1, by decide +kernel, by decide, rfl⟩
theorem dX9_whenAnew_51 : AtSI mX9_whenAnew 51 5 53 := ⟨Or.inl ⟨by decide +kernel, rfl⟩, by decide⟩
theorem dX9_whenAnew_53 : AtI mX9_whenAnew 53 5 55 := Or.inl ⟨by decide +kernel, rfl⟩
theorem dX9_whenAnew_55 : AtI mX9_whenAnew 55 2 56 := Or.inr ⟨2, by decide +kernel, rfl, rfl⟩
theorem dX9_whenAnew_56 : AtI mX9_whenAnew 56 4 58 := Or.inl ⟨by decide +kernel, rfl⟩
theorem dX9_whenAnew_58 : AtSN mX9_whenAnew 58 mX0_monthLength 2 61 := ⟨201, 622, 623, "Hymnwright", by decide +kernel, rfl, by decide +kernel, by decide +kernel, rfl, ⟨⟨624, by decide +kernel⟩, ⟨80, by decide +kernel⟩, ⟨by decide, by decide⟩, by decide +kernel, by decide, by decide⟩⟩
theorem dX9_whenAnew_61 : AtJ mX9_whenAnew 61 (.if_icmp .gt) 64 98 := ⟨37, by decide +kernel, rfl, by decide⟩
theorem dX9_whenAnew_64 : AtA mX9_whenAnew 64 0 65 := Or.inr ⟨0, by decide +kernel, rfl, rfl⟩
theorem dX9_whenAnew_65 : AtF mX9_whenAnew 65 9 5 68 := ⟨35, (RX9, TX9, 7), by decide +kernel, rfl, rfl, by decide, Or.inl (Or.inl ⟨158, by decide +kernel⟩)⟩
theorem dX9_whenAnew_68 : AtI mX9_whenAnew 68 2 69 := Or.inr ⟨2, by decide +kernel, rfl, rfl⟩
theorem dX9_whenAnew_69 : AtI mX9_whenAnew 69 4 71 := Or.inl ⟨by decide +kernel, rfl⟩
theorem dX9_whenAnew_71 : AtI mX9_whenAnew 71 5 73 := Or.inl ⟨by decide +kernel, rfl⟩
theorem dX9_whenAnew_73 : AtSN mX9_whenAnew 73 mX0_dayOfYear 3 76 := ⟨158, 628, 629, "Hymnwright", by decide +kernel, rfl, by decide +kernel, by decide +kernel, rfl, ⟨⟨630, by decide +kernel⟩, ⟨80, by decide +kernel⟩, ⟨by decide, by decide⟩, by decide +kernel, by decide, by decide⟩⟩
theorem dX9_whenAnew_76 : AtVN mX9_whenAnew 76 mX8_keptOn 1 8 79 := ⟨188, 750, 752, 24, (RX8, TX8, 5), "Hymnwright", by decide +kernel, rfl, rfl, by decide +kernel, by decide +kernel, by decide +kernel, rfl, ⟨⟨753, by decide +kernel⟩, ⟨62, by decide +kernel⟩, ⟨by decide, by decide⟩, by decide +kernel, by decide, by decide⟩⟩
theorem dX9_whenAnew_79 : AtI mX9_whenAnew 79 1 80 := Or.inr ⟨1, by decide +kernel, rfl, rfl⟩
theorem dX9_whenAnew_80 : AtJ mX9_whenAnew 80 (.if_icmp .ne) 83 92 := ⟨12, by decide +kernel, rfl, by decide⟩
theorem dX9_whenAnew_83 : AtK mX9_whenAnew 83 (iZ 100) 85 := Or.inr (Or.inl ⟨100, by decide +kernel, by decide, rfl⟩)
theorem dX9_whenAnew_85 : AtI mX9_whenAnew 85 4 87 := Or.inl ⟨by decide +kernel, rfl⟩
theorem dX9_whenAnew_87 : At mX9_whenAnew 87 .imul 1 88 := ⟨by decide +kernel, rfl⟩
theorem dX9_whenAnew_88 : AtI mX9_whenAnew 88 5 90 := Or.inl ⟨by decide +kernel, rfl⟩
theorem dX9_whenAnew_90 : At mX9_whenAnew 90 .iadd 1 91 := ⟨by decide +kernel, rfl⟩
theorem dX9_whenAnew_91 : AtSI mX9_whenAnew 91 3 92 := ⟨Or.inr ⟨3, by decide +kernel, rfl, rfl⟩, by decide⟩
theorem dX9_whenAnew_92 : AtInc mX9_whenAnew 92 5 (iZ 1) 95 := ⟨1, by decide +kernel, by decide, rfl, by decide⟩
theorem dX9_whenAnew_95 : AtG mX9_whenAnew 95 53 := ⟨(-42), by decide +kernel, by decide⟩
theorem dX9_whenAnew_98 : AtInc mX9_whenAnew 98 4 (iZ 1) 101 := ⟨1, by decide +kernel, by decide, rfl, by decide⟩
theorem dX9_whenAnew_101 : AtG mX9_whenAnew 101 43 := ⟨(-58), by decide +kernel, by decide⟩
theorem dX9_whenAnew_104 : AtI mX9_whenAnew 104 3 105 := Or.inr ⟨3, by decide +kernel, rfl, rfl⟩
theorem dX9_whenAnew_105 : At mX9_whenAnew 105 .ireturn 1 106 := ⟨by decide +kernel, rfl⟩
theorem dX9_theme_0 : AtI mX9_theme 0 1 1 := Or.inr ⟨1, by decide +kernel, rfl, rfl⟩
theorem dX9_theme_1 : AtI mX9_theme 1 2 2 := Or.inr ⟨2, by decide +kernel, rfl, rfl⟩
theorem dX9_theme_2 : AtI mX9_theme 2 3 3 := Or.inr ⟨3, by decide +kernel, rfl, rfl⟩
theorem dX9_theme_3 : AtS mX9_theme 3 mX9_requireDay 3 6 := ⟨155, 619, 620, by decide +kernel, rfl, by decide +kernel, by decide +kernel, rfl, ⟨⟨621, by decide +kernel⟩, ⟨56, by decide +kernel⟩, ⟨by decide, by decide⟩, by decide +kernel, by decide, by decide⟩⟩
theorem dX9_theme_6 : AtA mX9_theme 6 0 7 := Or.inr ⟨0, by decide +kernel, rfl, rfl⟩
theorem dX9_theme_7 : AtI mX9_theme 7 1 8 := Or.inr ⟨1, by decide +kernel, rfl, rfl⟩
theorem dX9_theme_8 : AtI mX9_theme 8 1 9 := Or.inr ⟨1, by decide +kernel, rfl, rfl⟩
theorem dX9_theme_9 : AtI mX9_theme 9 2 10 := Or.inr ⟨2, by decide +kernel, rfl, rfl⟩
theorem dX9_theme_10 : AtI mX9_theme 10 3 11 := Or.inr ⟨3, by decide +kernel, rfl, rfl⟩
theorem dX9_theme_11 : AtSN mX9_theme 11 mX0_dayOfYear 3 14 := ⟨158, 628, 629, "Hymnwright", by decide +kernel, rfl, by decide +kernel, by decide +kernel, rfl, ⟨⟨630, by decide +kernel⟩, ⟨80, by decide +kernel⟩, ⟨by decide, by decide⟩, by decide +kernel, by decide, by decide⟩⟩
theorem dX9_theme_14 : AtV mX9_theme 14 mX9_themeOf 2 9 17 := ⟨204, 783, 785, 26, (RX9, TX9, 7), by decide +kernel, rfl, rfl, by decide +kernel, by decide +kernel, by decide +kernel, rfl, ⟨⟨786, by decide +kernel⟩, ⟨56, by decide +kernel⟩, ⟨by decide, by decide⟩, by decide +kernel, by decide, by decide⟩⟩
theorem dX9_theme_17 : At mX9_theme 17 .ireturn 1 18 := ⟨by decide +kernel, rfl⟩
theorem dX9_why_0 : AtA mX9_why 0 0 1 := Or.inr ⟨0, by decide +kernel, rfl, rfl⟩
theorem dX9_why_1 : AtI mX9_why 1 1 2 := Or.inr ⟨1, by decide +kernel, rfl, rfl⟩
theorem dX9_why_2 : AtV mX9_why 2 mX9_textAt 1 9 5 := ⟨67, 432, 434, 8, (RX9, TX9, 7), by decide +kernel, rfl, rfl, by decide +kernel, by decide +kernel, by decide +kernel, rfl, ⟨⟨435, by decide +kernel⟩, ⟨56, by decide +kernel⟩, ⟨by decide, by decide⟩, by decide +kernel, by decide, by decide⟩⟩
theorem dX9_why_5 : AtSA mX9_why 5 5 7 := ⟨Or.inl ⟨by decide +kernel, rfl⟩, by decide⟩
theorem dX9_why_7 : AtI mX9_why 7 2 8 := Or.inr ⟨2, by decide +kernel, rfl, rfl⟩
theorem dX9_why_8 : AtI mX9_why 8 3 9 := Or.inr ⟨3, by decide +kernel, rfl, rfl⟩
theorem dX9_why_9 : AtI mX9_why 9 4 11 := Or.inl ⟨by decide +kernel, rfl⟩
theorem dX9_why_11 : AtS mX9_why 11 mX9_requireDay 3 14 := ⟨155, 619, 620, by decide +kernel, rfl, by decide +kernel, by decide +kernel, rfl, ⟨⟨621, by decide +kernel⟩, ⟨56, by decide +kernel⟩, ⟨by decide, by decide⟩, by decide +kernel, by decide, by decide⟩⟩
theorem dX9_why_14 : AtI mX9_why 14 2 15 := Or.inr ⟨2, by decide +kernel, rfl, rfl⟩
theorem dX9_why_15 : AtI mX9_why 15 3 16 := Or.inr ⟨3, by decide +kernel, rfl, rfl⟩
theorem dX9_why_16 : AtI mX9_why 16 4 18 := Or.inl ⟨by decide +kernel, rfl⟩
theorem dX9_why_18 : AtSN mX9_why 18 mX0_dayOfYear 3 21 := ⟨158, 628, 629, "Hymnwright", by decide +kernel, rfl, by decide +kernel, by decide +kernel, rfl, ⟨⟨630, by decide +kernel⟩, ⟨80, by decide +kernel⟩, ⟨by decide, by decide⟩, by decide +kernel, by decide, by decide⟩⟩
theorem dX9_why_21 : AtSI mX9_why 21 6 23 := ⟨Or.inl ⟨by decide +kernel, rfl⟩, by decide⟩
theorem dX9_why_23 : AtA mX9_why 23 0 24 := Or.inr ⟨0, by decide +kernel, rfl, rfl⟩
theorem dX9_why_24 : AtI mX9_why 24 2 25 := Or.inr ⟨2, by decide +kernel, rfl, rfl⟩
theorem dX9_why_25 : AtI mX9_why 25 6 27 := Or.inl ⟨by decide +kernel, rfl⟩
theorem dX9_why_27 : AtV mX9_why 27 mX9_themeOf 2 9 30 := ⟨204, 783, 785, 26, (RX9, TX9, 7), by decide +kernel, rfl, rfl, by decide +kernel, by decide +kernel, by decide +kernel, rfl, ⟨⟨786, by decide +kernel⟩, ⟨56, by decide +kernel⟩, ⟨by decide, by decide⟩, by decide +kernel, by decide, by decide⟩⟩
theorem dX9_why_30 : AtSI mX9_why 30 7 32 := ⟨Or.inl ⟨by decide +kernel, rfl⟩, by decide⟩
theorem dX9_why_32 : AtI mX9_why 32 7 34 := Or.inl ⟨by decide +kernel, rfl⟩
theorem dX9_why_34 : AtK mX9_why 34 (iZ (-100)) 36 := Or.inr (Or.inl ⟨(-100), by decide +kernel, by decide, rfl⟩)
theorem dX9_why_36 : AtJ mX9_why 36 (.if_icmp .ne) 39 49 := ⟨13, by decide +kernel, rfl, by decide⟩
theorem dX9_why_39 : AtT mX9_why 39 "java/lang/IllegalStateException" := ⟨52, 56, 207, 296, 68, "the day has no theme", ["java/lang/RuntimeException", "java/lang/Exception"], false, by decide +kernel, by decide +kernel, ⟨by decide +kernel, by decide +kernel, by decide +kernel⟩, by decide +kernel, by decide +kernel, by decide +kernel, by decide +kernel, by decide +kernel, by decide +kernel, by decide +kernel, by decide, by decide, rfl⟩
theorem dX9_why_49 : AtA mX9_why 49 0 50 := Or.inr ⟨0, by decide +kernel, rfl, rfl⟩
theorem dX9_why_50 : AtA mX9_why 50 5 52 := Or.inl ⟨by decide +kernel, rfl⟩
theorem dX9_why_52 : AtI mX9_why 52 7 54 := Or.inl ⟨by decide +kernel, rfl⟩
theorem dX9_why_54 : AtI mX9_why 54 2 55 := Or.inr ⟨2, by decide +kernel, rfl, rfl⟩
theorem dX9_why_55 : AtI mX9_why 55 2 56 := Or.inr ⟨2, by decide +kernel, rfl, rfl⟩
theorem dX9_why_56 : AtI mX9_why 56 6 58 := Or.inl ⟨by decide +kernel, rfl⟩
theorem dX9_why_58 : AtSN mX9_why 58 mX0_dayNumber 2 61 := ⟨209, 796, 637, "Hymnwright", by decide +kernel, rfl, by decide +kernel, by decide +kernel, rfl, ⟨⟨638, by decide +kernel⟩, ⟨80, by decide +kernel⟩, ⟨by decide, by decide⟩, by decide +kernel, by decide, by decide⟩⟩
theorem dX9_why_61 : AtV mX9_why 61 mX9_reasonAgainst 4 9 64 := ⟨212, 797, 799, 27, (RX9, TX9, 7), by decide +kernel, rfl, rfl, by decide +kernel, by decide +kernel, by decide +kernel, rfl, ⟨⟨800, by decide +kernel⟩, ⟨56, by decide +kernel⟩, ⟨by decide, by decide⟩, by decide +kernel, by decide, by decide⟩⟩
theorem dX9_why_64 : At mX9_why 64 .ireturn 1 65 := ⟨by decide +kernel, rfl⟩
theorem dX9_sing_0 : AtI mX9_sing 0 1 1 := Or.inr ⟨1, by decide +kernel, rfl, rfl⟩
theorem dX9_sing_1 : AtI mX9_sing 1 2 2 := Or.inr ⟨2, by decide +kernel, rfl, rfl⟩
theorem dX9_sing_2 : AtI mX9_sing 2 3 3 := Or.inr ⟨3, by decide +kernel, rfl, rfl⟩
theorem dX9_sing_3 : AtS mX9_sing 3 mX9_requireDay 3 6 := ⟨155, 619, 620, by decide +kernel, rfl, by decide +kernel, by decide +kernel, rfl, ⟨⟨621, by decide +kernel⟩, ⟨56, by decide +kernel⟩, ⟨by decide, by decide⟩, by decide +kernel, by decide, by decide⟩⟩
theorem dX9_sing_6 : AtI mX9_sing 6 1 7 := Or.inr ⟨1, by decide +kernel, rfl, rfl⟩
theorem dX9_sing_7 : AtI mX9_sing 7 2 8 := Or.inr ⟨2, by decide +kernel, rfl, rfl⟩
theorem dX9_sing_8 : AtI mX9_sing 8 3 9 := Or.inr ⟨3, by decide +kernel, rfl, rfl⟩
theorem dX9_sing_9 : AtSN mX9_sing 9 mX0_dayOfYear 3 12 := ⟨158, 628, 629, "Hymnwright", by decide +kernel, rfl, by decide +kernel, by decide +kernel, rfl, ⟨⟨630, by decide +kernel⟩, ⟨80, by decide +kernel⟩, ⟨by decide, by decide⟩, by decide +kernel, by decide, by decide⟩⟩
theorem dX9_sing_12 : AtSI mX9_sing 12 4 14 := ⟨Or.inl ⟨by decide +kernel, rfl⟩, by decide⟩
theorem dX9_sing_14 : AtI mX9_sing 14 1 15 := Or.inr ⟨1, by decide +kernel, rfl, rfl⟩
theorem dX9_sing_15 : AtI mX9_sing 15 4 17 := Or.inl ⟨by decide +kernel, rfl⟩
theorem dX9_sing_17 : AtSN mX9_sing 17 mX0_dayNumber 2 20 := ⟨209, 796, 637, "Hymnwright", by decide +kernel, rfl, by decide +kernel, by decide +kernel, rfl, ⟨⟨638, by decide +kernel⟩, ⟨80, by decide +kernel⟩, ⟨by decide, by decide⟩, by decide +kernel, by decide, by decide⟩⟩
theorem dX9_sing_20 : AtSI mX9_sing 20 5 22 := ⟨Or.inl ⟨by decide +kernel, rfl⟩, by decide⟩
theorem dX9_sing_22 : AtA mX9_sing 22 0 23 := Or.inr ⟨0, by decide +kernel, rfl, rfl⟩
theorem dX9_sing_23 : AtF mX9_sing 23 9 3 26 := ⟨22, (RX9, TX9, 7), by decide +kernel, rfl, rfl, by decide, Or.inl (Or.inl ⟨156, by decide +kernel⟩)⟩
theorem dX9_sing_26 : AtV mX9_sing 26 mJx4a65c_size_8abf5 0 0 29 := ⟨48, 179, 180, 181, (RJx4a65c, TJx4a65c, 3), by decide +kernel, rfl, rfl, by decide +kernel, by decide +kernel, by decide +kernel, rfl, ⟨⟨182, by decide +kernel⟩, ⟨59, by decide +kernel⟩, ⟨by decide, by decide⟩, by decide +kernel, by decide, by decide⟩⟩
theorem dX9_sing_29 : AtK mX9_sing 29 (iZ 60) 31 := Or.inr (Or.inl ⟨60, by decide +kernel, by decide, rfl⟩)
theorem dX9_sing_31 : AtJ mX9_sing 31 (.if_icmp .ge) 34 43 := ⟨12, by decide +kernel, rfl, by decide⟩
theorem dX9_sing_34 : AtA mX9_sing 34 0 35 := Or.inr ⟨0, by decide +kernel, rfl, rfl⟩
theorem dX9_sing_35 : AtI mX9_sing 35 5 37 := Or.inl ⟨by decide +kernel, rfl⟩
theorem dX9_sing_37 : AtV mX9_sing 37 mX9_isBehindLatestService 1 9 40 := ⟨216, 817, 819, 30, (RX9, TX9, 7), by decide +kernel, rfl, rfl, by decide +kernel, by decide +kernel, by decide +kernel, rfl, ⟨⟨820, by decide +kernel⟩, ⟨56, by decide +kernel⟩, ⟨by decide, by decide⟩, by decide +kernel, by decide, by decide⟩⟩
theorem dX9_sing_40 : AtJ mX9_sing 40 (.ifCond .ne) 43 53 := ⟨13, by decide +kernel, rfl, by decide⟩
theorem dX9_sing_43 : AtT mX9_sing 43 "java/lang/IllegalStateException" := ⟨52, 56, 220, 296, 68, "no service can follow on that day", ["java/lang/RuntimeException", "java/lang/Exception"], false, by decide +kernel, by decide +kernel, ⟨by decide +kernel, by decide +kernel, by decide +kernel⟩, by decide +kernel, by decide +kernel, by decide +kernel, by decide +kernel, by decide +kernel, by decide +kernel, by decide +kernel, by decide, by decide, rfl⟩
theorem dX9_sing_53 : AtA mX9_sing 53 0 54 := Or.inr ⟨0, by decide +kernel, rfl, rfl⟩
theorem dX9_sing_54 : AtI mX9_sing 54 1 55 := Or.inr ⟨1, by decide +kernel, rfl, rfl⟩
theorem dX9_sing_55 : AtI mX9_sing 55 4 57 := Or.inl ⟨by decide +kernel, rfl⟩
theorem dX9_sing_57 : AtV mX9_sing 57 mX9_themeOf 2 9 60 := ⟨204, 783, 785, 26, (RX9, TX9, 7), by decide +kernel, rfl, rfl, by decide +kernel, by decide +kernel, by decide +kernel, rfl, ⟨⟨786, by decide +kernel⟩, ⟨56, by decide +kernel⟩, ⟨by decide, by decide⟩, by decide +kernel, by decide, by decide⟩⟩
theorem dX9_sing_60 : AtSI mX9_sing 60 6 62 := ⟨Or.inl ⟨by decide +kernel, rfl⟩, by decide⟩
theorem dX9_sing_62 : AtI mX9_sing 62 6 64 := Or.inl ⟨by decide +kernel, rfl⟩
theorem dX9_sing_64 : AtK mX9_sing 64 (iZ (-100)) 66 := Or.inr (Or.inl ⟨(-100), by decide +kernel, by decide, rfl⟩)
theorem dX9_sing_66 : AtJ mX9_sing 66 (.if_icmp .ne) 69 79 := ⟨13, by decide +kernel, rfl, by decide⟩
theorem dX9_sing_69 : AtT mX9_sing 69 "java/lang/IllegalStateException" := ⟨52, 56, 207, 296, 68, "the day has no theme", ["java/lang/RuntimeException", "java/lang/Exception"], false, by decide +kernel, by decide +kernel, ⟨by decide +kernel, by decide +kernel, by decide +kernel⟩, by decide +kernel, by decide +kernel, by decide +kernel, by decide +kernel, by decide +kernel, by decide +kernel, by decide +kernel, by decide, by decide, rfl⟩
theorem dX9_sing_79 : AtA mX9_sing 79 0 80 := Or.inr ⟨0, by decide +kernel, rfl, rfl⟩
theorem dX9_sing_80 : AtI mX9_sing 80 6 82 := Or.inl ⟨by decide +kernel, rfl⟩
theorem dX9_sing_82 : AtI mX9_sing 82 1 83 := Or.inr ⟨1, by decide +kernel, rfl, rfl⟩
theorem dX9_sing_83 : AtI mX9_sing 83 5 85 := Or.inl ⟨by decide +kernel, rfl⟩
theorem dX9_sing_85 : AtV mX9_sing 85 mX9_chooseText 3 9 88 := ⟨222, 826, 828, 31, (RX9, TX9, 7), by decide +kernel, rfl, rfl, by decide +kernel, by decide +kernel, by decide +kernel, rfl, ⟨⟨829, by decide +kernel⟩, ⟨56, by decide +kernel⟩, ⟨by decide, by decide⟩, by decide +kernel, by decide, by decide⟩⟩
theorem dX9_sing_88 : AtSA mX9_sing 88 7 90 := ⟨Or.inl ⟨by decide +kernel, rfl⟩, by decide⟩
theorem dX9_sing_90 : AtA mX9_sing 90 7 92 := Or.inl ⟨by decide +kernel, rfl⟩
theorem dX9_sing_92 : AtJ mX9_sing 92 .ifnonnull 95 99 := ⟨7, by decide +kernel, rfl, by decide⟩
theorem dX9_sing_95 : At mX9_sing 95 .aconst_null 1 96 := ⟨by decide +kernel, rfl⟩
theorem dX9_sing_96 : AtG mX9_sing 96 107 := ⟨11, by decide +kernel, by decide⟩
theorem dX9_sing_99 : AtA mX9_sing 99 0 100 := Or.inr ⟨0, by decide +kernel, rfl, rfl⟩
theorem dX9_sing_100 : AtA mX9_sing 100 7 102 := Or.inl ⟨by decide +kernel, rfl⟩
theorem dX9_sing_102 : AtK mX9_sing 102 (iZ 1) 103 := Or.inl ⟨1, by decide +kernel, by decide, rfl⟩
theorem dX9_sing_103 : AtI mX9_sing 103 1 104 := Or.inr ⟨1, by decide +kernel, rfl, rfl⟩
theorem dX9_sing_104 : AtV mX9_sing 104 mX9_bestTune 3 9 107 := ⟨102, 551, 553, 12, (RX9, TX9, 7), by decide +kernel, rfl, rfl, by decide +kernel, by decide +kernel, by decide +kernel, rfl, ⟨⟨554, by decide +kernel⟩, ⟨56, by decide +kernel⟩, ⟨by decide, by decide⟩, by decide +kernel, by decide, by decide⟩⟩
theorem dX9_sing_107 : AtSA mX9_sing 107 8 109 := ⟨Or.inl ⟨by decide +kernel, rfl⟩, by decide⟩
theorem dX9_sing_109 : AtA mX9_sing 109 7 111 := Or.inl ⟨by decide +kernel, rfl⟩
theorem dX9_sing_111 : AtJ mX9_sing 111 .ifnull 114 119 := ⟨8, by decide +kernel, rfl, by decide⟩
theorem dX9_sing_114 : AtA mX9_sing 114 8 116 := Or.inl ⟨by decide +kernel, rfl⟩
theorem dX9_sing_116 : AtJ mX9_sing 116 .ifnonnull 119 129 := ⟨13, by decide +kernel, rfl, by decide⟩
theorem dX9_sing_119 : AtT mX9_sing 119 "java/lang/IllegalStateException" := ⟨52, 56, 226, 296, 68, "no text can be chosen", ["java/lang/RuntimeException", "java/lang/Exception"], false, by decide +kernel, by decide +kernel, ⟨by decide +kernel, by decide +kernel, by decide +kernel⟩, by decide +kernel, by decide +kernel, by decide +kernel, by decide +kernel, by decide +kernel, by decide +kernel, by decide +kernel, by decide, by decide, rfl⟩
theorem dX9_sing_129 : AtA mX9_sing 129 0 130 := Or.inr ⟨0, by decide +kernel, rfl, rfl⟩
theorem dX9_sing_130 : AtF mX9_sing 130 9 3 133 := ⟨22, (RX9, TX9, 7), by decide +kernel, rfl, rfl, by decide, Or.inl (Or.inl ⟨156, by decide +kernel⟩)⟩
theorem dX9_sing_133 : AtN mX9_sing 133 5 [.null, .null, .int 0, .int 0, .int 0] 136 := ⟨228, 809, 835, 82, (RX5, TX5, 5), by decide +kernel, rfl, rfl, by decide +kernel, by decide +kernel, by decide +kernel, rfl, fun j hj => by rcases (show j = 0 ∨ j = 1 ∨ j = 2 ∨ j = 3 ∨ j = 4 from by have hj : j < 5 := hj; omega) with rfl | rfl | rfl | rfl | rfl <;> rfl⟩
theorem dX9_sing_136 : At mX9_sing 136 .dup 1 137 := ⟨by decide +kernel, rfl⟩
theorem dX9_sing_137 : AtA mX9_sing 137 7 139 := Or.inl ⟨by decide +kernel, rfl⟩
theorem dX9_sing_139 : AtA mX9_sing 139 8 141 := Or.inl ⟨by decide +kernel, rfl⟩
theorem dX9_sing_141 : AtI mX9_sing 141 1 142 := Or.inr ⟨1, by decide +kernel, rfl, rfl⟩
theorem dX9_sing_142 : AtK mX9_sing 142 (iZ 100) 144 := Or.inr (Or.inl ⟨100, by decide +kernel, by decide, rfl⟩)
theorem dX9_sing_144 : AtI mX9_sing 144 2 145 := Or.inr ⟨2, by decide +kernel, rfl, rfl⟩
theorem dX9_sing_145 : At mX9_sing 145 .imul 1 146 := ⟨by decide +kernel, rfl⟩
theorem dX9_sing_146 : AtI mX9_sing 146 3 147 := Or.inr ⟨3, by decide +kernel, rfl, rfl⟩
theorem dX9_sing_147 : At mX9_sing 147 .iadd 1 148 := ⟨by decide +kernel, rfl⟩
theorem dX9_sing_148 : AtI mX9_sing 148 5 150 := Or.inl ⟨by decide +kernel, rfl⟩
theorem dX9_sing_150 : AtNIN mX9_sing 150 mX5_init 5 153 := ⟨230, 836, 837, "Hymnwright", by decide +kernel, rfl, by decide +kernel, by decide +kernel, rfl, rfl, rfl, ⟨⟨838, by decide +kernel⟩, ⟨82, by decide +kernel⟩, ⟨by decide, by decide⟩, by decide +kernel, by decide, by decide⟩⟩
theorem dX9_sing_153 : AtV mX9_sing 153 mJx4a65c_add_9ea2d 1 0 156 := ⟨63, 363, 364, 365, (RJx4a65c, TJx4a65c, 3), by decide +kernel, rfl, rfl, by decide +kernel, by decide +kernel, by decide +kernel, rfl, ⟨⟨366, by decide +kernel⟩, ⟨59, by decide +kernel⟩, ⟨by decide, by decide⟩, by decide +kernel, by decide, by decide⟩⟩
theorem dX9_sing_156 : At mX9_sing 156 .pop 1 157 := ⟨by decide +kernel, rfl⟩
theorem dX9_sing_157 : AtA mX9_sing 157 7 159 := Or.inl ⟨by decide +kernel, rfl⟩
theorem dX9_sing_159 : AtF mX9_sing 159 6 0 162 := ⟨233, (RX6, TX6, 4), by decide +kernel, rfl, rfl, by decide, Or.inr ⟨348, "Hymnwright", by decide +kernel⟩⟩
theorem dX9_sing_162 : At mX9_sing 162 .ireturn 1 163 := ⟨by decide +kernel, rfl⟩
theorem dX9_service_0 : AtI mX9_service 0 1 1 := Or.inr ⟨1, by decide +kernel, rfl, rfl⟩
theorem dX9_service_1 : AtA mX9_service 1 0 2 := Or.inr ⟨0, by decide +kernel, rfl, rfl⟩
theorem dX9_service_2 : AtF mX9_service 2 9 3 5 := ⟨22, (RX9, TX9, 7), by decide +kernel, rfl, rfl, by decide, Or.inl (Or.inl ⟨156, by decide +kernel⟩)⟩
theorem dX9_service_5 : AtV mX9_service 5 mJx4a65c_size_8abf5 0 0 8 := ⟨48, 179, 180, 181, (RJx4a65c, TJx4a65c, 3), by decide +kernel, rfl, rfl, by decide +kernel, by decide +kernel, by decide +kernel, rfl, ⟨⟨182, by decide +kernel⟩, ⟨59, by decide +kernel⟩, ⟨by decide, by decide⟩, by decide +kernel, by decide, by decide⟩⟩
theorem dX9_service_8 : AtS mX9_service 8 mX9_requireIndex 2 11 := ⟨191, 436, 437, by decide +kernel, rfl, by decide +kernel, by decide +kernel, rfl, ⟨⟨438, by decide +kernel⟩, ⟨56, by decide +kernel⟩, ⟨by decide, by decide⟩, by decide +kernel, by decide, by decide⟩⟩
theorem dX9_service_11 : AtA mX9_service 11 0 12 := Or.inr ⟨0, by decide +kernel, rfl, rfl⟩
theorem dX9_service_12 : AtF mX9_service 12 9 3 15 := ⟨22, (RX9, TX9, 7), by decide +kernel, rfl, rfl, by decide, Or.inl (Or.inl ⟨156, by decide +kernel⟩)⟩
theorem dX9_service_15 : AtI mX9_service 15 1 16 := Or.inr ⟨1, by decide +kernel, rfl, rfl⟩
theorem dX9_service_16 : AtV mX9_service 16 mJx4a65c_get_915e3 1 0 19 := ⟨109, 183, 184, 185, (RJx4a65c, TJx4a65c, 3), by decide +kernel, rfl, rfl, by decide +kernel, by decide +kernel, by decide +kernel, rfl, ⟨⟨186, by decide +kernel⟩, ⟨59, by decide +kernel⟩, ⟨by decide, by decide⟩, by decide +kernel, by decide, by decide⟩⟩
theorem dX9_service_19 : AtC mX9_service 19 5 22 := ⟨228, 809, (RX5, TX5, 5), by decide +kernel, rfl, rfl, by decide +kernel⟩
theorem dX9_service_22 : AtSA mX9_service 22 3 23 := ⟨Or.inr ⟨3, by decide +kernel, rfl, rfl⟩, by decide⟩
theorem dX9_service_23 : AtI mX9_service 23 2 24 := Or.inr ⟨2, by decide +kernel, rfl, rfl⟩
theorem dX9_service_60 : AtA mX9_service 60 3 61 := Or.inr ⟨3, by decide +kernel, rfl, rfl⟩
theorem dX9_service_61 : AtF mX9_service 61 5 0 64 := ⟨234, (RX5, TX5, 5), by decide +kernel, rfl, rfl, by decide, Or.inr ⟨841, "Hymnwright", by decide +kernel⟩⟩
theorem dX9_service_64 : AtF mX9_service 64 6 0 67 := ⟨233, (RX6, TX6, 4), by decide +kernel, rfl, rfl, by decide, Or.inr ⟨348, "Hymnwright", by decide +kernel⟩⟩
theorem dX9_service_67 : At mX9_service 67 .ireturn 1 68 := ⟨by decide +kernel, rfl⟩
theorem dX9_service_68 : AtA mX9_service 68 3 69 := Or.inr ⟨3, by decide +kernel, rfl, rfl⟩
theorem dX9_service_69 : AtF mX9_service 69 5 1 72 := ⟨238, (RX5, TX5, 5), by decide +kernel, rfl, rfl, by decide, Or.inr ⟨843, "Hymnwright", by decide +kernel⟩⟩
theorem dX9_service_72 : AtF mX9_service 72 7 0 75 := ⟨106, (RX7, TX7, 5), by decide +kernel, rfl, rfl, by decide, Or.inr ⟨481, "Hymnwright", by decide +kernel⟩⟩
theorem dX9_service_75 : At mX9_service 75 .ireturn 1 76 := ⟨by decide +kernel, rfl⟩
theorem dX9_service_76 : AtA mX9_service 76 3 77 := Or.inr ⟨3, by decide +kernel, rfl, rfl⟩
theorem dX9_service_77 : AtF mX9_service 77 5 2 80 := ⟨242, (RX5, TX5, 5), by decide +kernel, rfl, rfl, by decide, Or.inr ⟨845, "Hymnwright", by decide +kernel⟩⟩
theorem dX9_service_80 : At mX9_service 80 .ireturn 1 81 := ⟨by decide +kernel, rfl⟩
theorem dX9_service_81 : AtA mX9_service 81 3 82 := Or.inr ⟨3, by decide +kernel, rfl, rfl⟩
theorem dX9_service_82 : AtF mX9_service 82 5 3 85 := ⟨245, (RX5, TX5, 5), by decide +kernel, rfl, rfl, by decide, Or.inr ⟨847, "Hymnwright", by decide +kernel⟩⟩
theorem dX9_service_85 : At mX9_service 85 .ireturn 1 86 := ⟨by decide +kernel, rfl⟩
theorem dX9_service_86 : AtA mX9_service 86 3 87 := Or.inr ⟨3, by decide +kernel, rfl, rfl⟩
theorem dX9_service_87 : AtF mX9_service 87 5 0 90 := ⟨234, (RX5, TX5, 5), by decide +kernel, rfl, rfl, by decide, Or.inr ⟨841, "Hymnwright", by decide +kernel⟩⟩
theorem dX9_service_90 : AtA mX9_service 90 3 91 := Or.inr ⟨3, by decide +kernel, rfl, rfl⟩
theorem dX9_service_91 : AtF mX9_service 91 5 1 94 := ⟨238, (RX5, TX5, 5), by decide +kernel, rfl, rfl, by decide, Or.inr ⟨843, "Hymnwright", by decide +kernel⟩⟩
theorem dX9_service_94 : AtS mX9_service 94 mX9_timesThrough 2 97 := ⟨93, 519, 520, by decide +kernel, rfl, by decide +kernel, by decide +kernel, rfl, ⟨⟨521, by decide +kernel⟩, ⟨56, by decide +kernel⟩, ⟨by decide, by decide⟩, by decide +kernel, by decide, by decide⟩⟩
theorem dX9_service_97 : AtJ mX9_service 97 (.ifCond .ne) 100 105 := ⟨8, by decide +kernel, rfl, by decide⟩
theorem dX9_service_100 : AtK mX9_service 100 (iZ (-100)) 102 := Or.inr (Or.inl ⟨(-100), by decide +kernel, by decide, rfl⟩)
theorem dX9_service_102 : AtG mX9_service 102 116 := ⟨14, by decide +kernel, by decide⟩
theorem dX9_service_105 : AtA mX9_service 105 3 106 := Or.inr ⟨3, by decide +kernel, rfl, rfl⟩
theorem dX9_service_106 : AtF mX9_service 106 5 0 109 := ⟨234, (RX5, TX5, 5), by decide +kernel, rfl, rfl, by decide, Or.inr ⟨841, "Hymnwright", by decide +kernel⟩⟩
theorem dX9_service_109 : AtA mX9_service 109 3 110 := Or.inr ⟨3, by decide +kernel, rfl, rfl⟩
theorem dX9_service_110 : AtF mX9_service 110 5 1 113 := ⟨238, (RX5, TX5, 5), by decide +kernel, rfl, rfl, by decide, Or.inr ⟨843, "Hymnwright", by decide +kernel⟩⟩
theorem dX9_service_113 : AtS mX9_service 113 mX9_countClashes 2 116 := ⟨99, 531, 532, by decide +kernel, rfl, by decide +kernel, by decide +kernel, rfl, ⟨⟨533, by decide +kernel⟩, ⟨56, by decide +kernel⟩, ⟨by decide, by decide⟩, by decide +kernel, by decide, by decide⟩⟩
theorem dX9_service_116 : At mX9_service 116 .ireturn 1 117 := ⟨by decide +kernel, rfl⟩
theorem dX9_service_117 : AtT mX9_service 117 "java/lang/IllegalArgumentException" := ⟨247, 251, 249, 227, 67, "a service tells 0 to 4", ["java/lang/RuntimeException", "java/lang/Exception"], false, by decide +kernel, by decide +kernel, ⟨by decide +kernel, by decide +kernel, by decide +kernel⟩, by decide +kernel, by decide +kernel, by decide +kernel, by decide +kernel, by decide +kernel, by decide +kernel, by decide +kernel, by decide, by decide, rfl⟩
theorem dX9_sung_0 : AtA mX9_sung 0 0 1 := Or.inr ⟨0, by decide +kernel, rfl, rfl⟩
theorem dX9_sung_1 : AtA mX9_sung 1 0 2 := Or.inr ⟨0, by decide +kernel, rfl, rfl⟩
theorem dX9_sung_2 : AtI mX9_sung 2 1 3 := Or.inr ⟨1, by decide +kernel, rfl, rfl⟩
theorem dX9_sung_3 : AtV mX9_sung 3 mX9_textAt 1 9 6 := ⟨67, 432, 434, 8, (RX9, TX9, 7), by decide +kernel, rfl, rfl, by decide +kernel, by decide +kernel, by decide +kernel, rfl, ⟨⟨435, by decide +kernel⟩, ⟨56, by decide +kernel⟩, ⟨by decide, by decide⟩, by decide +kernel, by decide, by decide⟩⟩
theorem dX9_sung_6 : AtV mX9_sung 6 mX9_countServices 1 9 9 := ⟨252, 830, 832, 32, (RX9, TX9, 7), by decide +kernel, rfl, rfl, by decide +kernel, by decide +kernel, by decide +kernel, rfl, ⟨⟨833, by decide +kernel⟩, ⟨56, by decide +kernel⟩, ⟨by decide, by decide⟩, by decide +kernel, by decide, by decide⟩⟩
theorem dX9_sung_9 : At mX9_sung 9 .ireturn 1 10 := ⟨by decide +kernel, rfl⟩
theorem dX9_requireRange_0 : AtI mX9_requireRange 0 0 1 := Or.inr ⟨0, by decide +kernel, rfl, rfl⟩
theorem dX9_requireRange_1 : AtI mX9_requireRange 1 1 2 := Or.inr ⟨1, by decide +kernel, rfl, rfl⟩
theorem dX9_requireRange_2 : AtJ mX9_requireRange 2 (.if_icmp .lt) 5 10 := ⟨8, by decide +kernel, rfl, by decide⟩
theorem dX9_requireRange_5 : AtI mX9_requireRange 5 0 6 := Or.inr ⟨0, by decide +kernel, rfl, rfl⟩
theorem dX9_requireRange_6 : AtI mX9_requireRange 6 2 7 := Or.inr ⟨2, by decide +kernel, rfl, rfl⟩
theorem dX9_requireRange_7 : AtJ mX9_requireRange 7 (.if_icmp .le) 10 21 := ⟨14, by decide +kernel, rfl, by decide⟩
theorem dX9_requireRange_10 : AtT mX9_requireRange 10 "java/lang/IllegalArgumentException" := ⟨247, 251, 256, 227, 67, "an argument is out of range", ["java/lang/RuntimeException", "java/lang/Exception"], true, by decide +kernel, by decide +kernel, ⟨by decide +kernel, by decide +kernel, by decide +kernel⟩, by decide +kernel, by decide +kernel, by decide +kernel, by decide +kernel, by decide +kernel, by decide +kernel, by decide +kernel, by decide, by decide, rfl⟩
theorem dX9_requireRange_21 : At mX9_requireRange 21 .return_ 1 22 := ⟨by decide +kernel, rfl⟩
theorem dX9_requireDay_0 : AtI mX9_requireDay 0 0 1 := Or.inr ⟨0, by decide +kernel, rfl, rfl⟩
theorem dX9_requireDay_1 : AtK mX9_requireDay 1 (iZ 1600) 4 := Or.inr (Or.inr (Or.inl ⟨1600, by decide +kernel, by decide, rfl⟩))
theorem dX9_requireDay_4 : AtK mX9_requireDay 4 (iZ 2399) 7 := Or.inr (Or.inr (Or.inl ⟨2399, by decide +kernel, by decide, rfl⟩))
theorem dX9_requireDay_7 : AtS mX9_requireDay 7 mX9_requireRange 3 10 := ⟨43, 224, 225, by decide +kernel, rfl, by decide +kernel, by decide +kernel, rfl, ⟨⟨226, by decide +kernel⟩, ⟨56, by decide +kernel⟩, ⟨by decide, by decide⟩, by decide +kernel, by decide, by decide⟩⟩
theorem dX9_requireDay_10 : AtI mX9_requireDay 10 1 11 := Or.inr ⟨1, by decide +kernel, rfl, rfl⟩
theorem dX9_requireDay_11 : AtK mX9_requireDay 11 (iZ 1) 12 := Or.inl ⟨1, by decide +kernel, by decide, rfl⟩
theorem dX9_requireDay_12 : AtK mX9_requireDay 12 (iZ 12) 14 := Or.inr (Or.inl ⟨12, by decide +kernel, by decide, rfl⟩)
theorem dX9_requireDay_14 : AtS mX9_requireDay 14 mX9_requireRange 3 17 := ⟨43, 224, 225, by decide +kernel, rfl, by decide +kernel, by decide +kernel, rfl, ⟨⟨226, by decide +kernel⟩, ⟨56, by decide +kernel⟩, ⟨by decide, by decide⟩, by decide +kernel, by decide, by decide⟩⟩
theorem dX9_requireDay_17 : AtI mX9_requireDay 17 2 18 := Or.inr ⟨2, by decide +kernel, rfl, rfl⟩
theorem dX9_requireDay_18 : AtK mX9_requireDay 18 (iZ 1) 19 := Or.inl ⟨1, by decide +kernel, by decide, rfl⟩
theorem dX9_requireDay_19 : AtI mX9_requireDay 19 0 20 := Or.inr ⟨0, by decide +kernel, rfl, rfl⟩
theorem dX9_requireDay_20 : AtI mX9_requireDay 20 1 21 := Or.inr ⟨1, by decide +kernel, rfl, rfl⟩
theorem dX9_requireDay_21 : AtSN mX9_requireDay 21 mX0_monthLength 2 24 := ⟨201, 622, 623, "Hymnwright", by decide +kernel, rfl, by decide +kernel, by decide +kernel, rfl, ⟨⟨624, by decide +kernel⟩, ⟨80, by decide +kernel⟩, ⟨by decide, by decide⟩, by decide +kernel, by decide, by decide⟩⟩
theorem dX9_requireDay_24 : AtS mX9_requireDay 24 mX9_requireRange 3 27 := ⟨43, 224, 225, by decide +kernel, rfl, by decide +kernel, by decide +kernel, rfl, ⟨⟨226, by decide +kernel⟩, ⟨56, by decide +kernel⟩, ⟨by decide, by decide⟩, by decide +kernel, by decide, by decide⟩⟩
theorem dX9_requireDay_27 : At mX9_requireDay 27 .return_ 1 28 := ⟨by decide +kernel, rfl⟩
theorem dX9_requireIndex_0 : AtI mX9_requireIndex 0 0 1 := Or.inr ⟨0, by decide +kernel, rfl, rfl⟩
theorem dX9_requireIndex_1 : AtJ mX9_requireIndex 1 (.ifCond .lt) 4 9 := ⟨8, by decide +kernel, rfl, by decide⟩
theorem dX9_requireIndex_4 : AtI mX9_requireIndex 4 0 5 := Or.inr ⟨0, by decide +kernel, rfl, rfl⟩
theorem dX9_requireIndex_5 : AtI mX9_requireIndex 5 1 6 := Or.inr ⟨1, by decide +kernel, rfl, rfl⟩
theorem dX9_requireIndex_6 : AtJ mX9_requireIndex 6 (.if_icmp .lt) 9 20 := ⟨14, by decide +kernel, rfl, by decide⟩
theorem dX9_requireIndex_9 : AtT mX9_requireIndex 9 "java/lang/IndexOutOfBoundsException" := ⟨258, 262, 260, 439, 75, "there is none of that number", ["java/lang/RuntimeException", "java/lang/Exception"], true, by decide +kernel, by decide +kernel, ⟨by decide +kernel, by decide +kernel, by decide +kernel⟩, by decide +kernel, by decide +kernel, by decide +kernel, by decide +kernel, by decide +kernel, by decide +kernel, by decide +kernel, by decide, by decide, rfl⟩
theorem dX9_requireIndex_20 : At mX9_requireIndex 20 .return_ 1 21 := ⟨by decide +kernel, rfl⟩
theorem dX9_textAt_0 : AtI mX9_textAt 0 1 1 := Or.inr ⟨1, by decide +kernel, rfl, rfl⟩
theorem dX9_textAt_1 : AtA mX9_textAt 1 0 2 := Or.inr ⟨0, by decide +kernel, rfl, rfl⟩
theorem dX9_textAt_2 : AtF mX9_textAt 2 9 0 5 := ⟨10, (RX9, TX9, 7), by decide +kernel, rfl, rfl, by decide, Or.inl (Or.inl ⟨153, by decide +kernel⟩)⟩
theorem dX9_textAt_5 : AtV mX9_textAt 5 mJx4a65c_size_8abf5 0 0 8 := ⟨48, 179, 180, 181, (RJx4a65c, TJx4a65c, 3), by decide +kernel, rfl, rfl, by decide +kernel, by decide +kernel, by decide +kernel, rfl, ⟨⟨182, by decide +kernel⟩, ⟨59, by decide +kernel⟩, ⟨by decide, by decide⟩, by decide +kernel, by decide, by decide⟩⟩
theorem dX9_textAt_8 : AtS mX9_textAt 8 mX9_requireIndex 2 11 := ⟨191, 436, 437, by decide +kernel, rfl, by decide +kernel, by decide +kernel, rfl, ⟨⟨438, by decide +kernel⟩, ⟨56, by decide +kernel⟩, ⟨by decide, by decide⟩, by decide +kernel, by decide, by decide⟩⟩
theorem dX9_textAt_11 : AtA mX9_textAt 11 0 12 := Or.inr ⟨0, by decide +kernel, rfl, rfl⟩
theorem dX9_textAt_12 : AtF mX9_textAt 12 9 0 15 := ⟨10, (RX9, TX9, 7), by decide +kernel, rfl, rfl, by decide, Or.inl (Or.inl ⟨153, by decide +kernel⟩)⟩
theorem dX9_textAt_15 : AtI mX9_textAt 15 1 16 := Or.inr ⟨1, by decide +kernel, rfl, rfl⟩
theorem dX9_textAt_16 : AtV mX9_textAt 16 mJx4a65c_get_915e3 1 0 19 := ⟨109, 183, 184, 185, (RJx4a65c, TJx4a65c, 3), by decide +kernel, rfl, rfl, by decide +kernel, by decide +kernel, by decide +kernel, rfl, ⟨⟨186, by decide +kernel⟩, ⟨59, by decide +kernel⟩, ⟨by decide, by decide⟩, by decide +kernel, by decide, by decide⟩⟩
theorem dX9_textAt_19 : AtC mX9_textAt 19 6 22 := ⟨59, 312, (RX6, TX6, 4), by decide +kernel, rfl, rfl, by decide +kernel⟩
theorem dX9_textAt_22 : At mX9_textAt 22 .areturn 1 23 := ⟨by decide +kernel, rfl⟩
theorem dX9_tuneAt_0 : AtI mX9_tuneAt 0 1 1 := Or.inr ⟨1, by decide +kernel, rfl, rfl⟩
theorem dX9_tuneAt_1 : AtA mX9_tuneAt 1 0 2 := Or.inr ⟨0, by decide +kernel, rfl, rfl⟩
theorem dX9_tuneAt_2 : AtF mX9_tuneAt 2 9 1 5 := ⟨16, (RX9, TX9, 7), by decide +kernel, rfl, rfl, by decide, Or.inl (Or.inl ⟨154, by decide +kernel⟩)⟩
theorem dX9_tuneAt_5 : AtV mX9_tuneAt 5 mJx4a65c_size_8abf5 0 0 8 := ⟨48, 179, 180, 181, (RJx4a65c, TJx4a65c, 3), by decide +kernel, rfl, rfl, by decide +kernel, by decide +kernel, by decide +kernel, rfl, ⟨⟨182, by decide +kernel⟩, ⟨59, by decide +kernel⟩, ⟨by decide, by decide⟩, by decide +kernel, by decide, by decide⟩⟩
theorem dX9_tuneAt_8 : AtS mX9_tuneAt 8 mX9_requireIndex 2 11 := ⟨191, 436, 437, by decide +kernel, rfl, by decide +kernel, by decide +kernel, rfl, ⟨⟨438, by decide +kernel⟩, ⟨56, by decide +kernel⟩, ⟨by decide, by decide⟩, by decide +kernel, by decide, by decide⟩⟩
theorem dX9_tuneAt_11 : AtA mX9_tuneAt 11 0 12 := Or.inr ⟨0, by decide +kernel, rfl, rfl⟩
theorem dX9_tuneAt_12 : AtF mX9_tuneAt 12 9 1 15 := ⟨16, (RX9, TX9, 7), by decide +kernel, rfl, rfl, by decide, Or.inl (Or.inl ⟨154, by decide +kernel⟩)⟩
theorem dX9_tuneAt_15 : AtI mX9_tuneAt 15 1 16 := Or.inr ⟨1, by decide +kernel, rfl, rfl⟩
theorem dX9_tuneAt_16 : AtV mX9_tuneAt 16 mJx4a65c_get_915e3 1 0 19 := ⟨109, 183, 184, 185, (RJx4a65c, TJx4a65c, 3), by decide +kernel, rfl, rfl, by decide +kernel, by decide +kernel, by decide +kernel, rfl, ⟨⟨186, by decide +kernel⟩, ⟨59, by decide +kernel⟩, ⟨by decide, by decide⟩, by decide +kernel, by decide, by decide⟩⟩
theorem dX9_tuneAt_19 : AtC mX9_tuneAt 19 7 22 := ⟨81, 197, (RX7, TX7, 5), by decide +kernel, rfl, rfl, by decide +kernel⟩
theorem dX9_tuneAt_22 : At mX9_tuneAt 22 .areturn 1 23 := ⟨by decide +kernel, rfl⟩
theorem dX9_feastAt_0 : AtI mX9_feastAt 0 1 1 := Or.inr ⟨1, by decide +kernel, rfl, rfl⟩
theorem dX9_feastAt_1 : AtA mX9_feastAt 1 0 2 := Or.inr ⟨0, by decide +kernel, rfl, rfl⟩
theorem dX9_feastAt_2 : AtF mX9_feastAt 2 9 2 5 := ⟨19, (RX9, TX9, 7), by decide +kernel, rfl, rfl, by decide, Or.inl (Or.inl ⟨155, by decide +kernel⟩)⟩
theorem dX9_feastAt_5 : AtV mX9_feastAt 5 mJx4a65c_size_8abf5 0 0 8 := ⟨48, 179, 180, 181, (RJx4a65c, TJx4a65c, 3), by decide +kernel, rfl, rfl, by decide +kernel, by decide +kernel, by decide +kernel, rfl, ⟨⟨182, by decide +kernel⟩, ⟨59, by decide +kernel⟩, ⟨by decide, by decide⟩, by decide +kernel, by decide, by decide⟩⟩
theorem dX9_feastAt_8 : AtS mX9_feastAt 8 mX9_requireIndex 2 11 := ⟨191, 436, 437, by decide +kernel, rfl, by decide +kernel, by decide +kernel, rfl, ⟨⟨438, by decide +kernel⟩, ⟨56, by decide +kernel⟩, ⟨by decide, by decide⟩, by decide +kernel, by decide, by decide⟩⟩
theorem dX9_feastAt_11 : AtA mX9_feastAt 11 0 12 := Or.inr ⟨0, by decide +kernel, rfl, rfl⟩
theorem dX9_feastAt_12 : AtF mX9_feastAt 12 9 2 15 := ⟨19, (RX9, TX9, 7), by decide +kernel, rfl, rfl, by decide, Or.inl (Or.inl ⟨155, by decide +kernel⟩)⟩
theorem dX9_feastAt_15 : AtI mX9_feastAt 15 1 16 := Or.inr ⟨1, by decide +kernel, rfl, rfl⟩
theorem dX9_feastAt_16 : AtV mX9_feastAt 16 mJx4a65c_get_915e3 1 0 19 := ⟨109, 183, 184, 185, (RJx4a65c, TJx4a65c, 3), by decide +kernel, rfl, rfl, by decide +kernel, by decide +kernel, by decide +kernel, rfl, ⟨⟨186, by decide +kernel⟩, ⟨59, by decide +kernel⟩, ⟨by decide, by decide⟩, by decide +kernel, by decide, by decide⟩⟩
theorem dX9_feastAt_19 : AtC mX9_feastAt 19 1 22 := ⟨165, 646, (RX1, TX1, 5), by decide +kernel, rfl, rfl, by decide +kernel⟩
theorem dX9_feastAt_22 : At mX9_feastAt 22 .areturn 1 23 := ⟨by decide +kernel, rfl⟩
theorem dX9_addRow_0 : AtI mX9_addRow 0 1 1 := Or.inr ⟨1, by decide +kernel, rfl, rfl⟩
theorem dX9_addRow_1 : AtK mX9_addRow 1 (iZ 1) 2 := Or.inl ⟨1, by decide +kernel, by decide, rfl⟩
theorem dX9_addRow_2 : AtK mX9_addRow 2 (iZ 12) 4 := Or.inr (Or.inl ⟨12, by decide +kernel, by decide, rfl⟩)
theorem dX9_addRow_4 : AtS mX9_addRow 4 mX9_requireRange 3 7 := ⟨43, 224, 225, by decide +kernel, rfl, by decide +kernel, by decide +kernel, rfl, ⟨⟨226, by decide +kernel⟩, ⟨56, by decide +kernel⟩, ⟨by decide, by decide⟩, by decide +kernel, by decide, by decide⟩⟩
theorem dX9_addRow_7 : AtI mX9_addRow 7 2 8 := Or.inr ⟨2, by decide +kernel, rfl, rfl⟩
theorem dX9_addRow_8 : AtK mX9_addRow 8 (iZ 0) 9 := Or.inl ⟨0, by decide +kernel, by decide, rfl⟩
theorem dX9_addRow_9 : AtK mX9_addRow 9 (iZ 1) 10 := Or.inl ⟨1, by decide +kernel, by decide, rfl⟩
theorem dX9_addRow_10 : AtI mX9_addRow 10 1 11 := Or.inr ⟨1, by decide +kernel, rfl, rfl⟩
theorem dX9_addRow_11 : At mX9_addRow 11 .ishl 1 12 := ⟨by decide +kernel, rfl⟩
theorem dX9_addRow_12 : AtK mX9_addRow 12 (iZ 1) 13 := Or.inl ⟨1, by decide +kernel, by decide, rfl⟩
theorem dX9_addRow_13 : At mX9_addRow 13 .isub 1 14 := ⟨by decide +kernel, rfl⟩
theorem dX9_addRow_14 : AtS mX9_addRow 14 mX9_requireRange 3 17 := ⟨43, 224, 225, by decide +kernel, rfl, by decide +kernel, by decide +kernel, rfl, ⟨⟨226, by decide +kernel⟩, ⟨56, by decide +kernel⟩, ⟨by decide, by decide⟩, by decide +kernel, by decide, by decide⟩⟩
theorem dX9_addRow_17 : AtA mX9_addRow 17 0 18 := Or.inr ⟨0, by decide +kernel, rfl, rfl⟩
theorem dX9_addRow_18 : AtF mX9_addRow 18 4 2 21 := ⟨263, (RX4, TX4, 3), by decide +kernel, rfl, rfl, by decide, Or.inr ⟨326, "Hymnwright", by decide +kernel⟩⟩
theorem dX9_addRow_21 : AtK mX9_addRow 21 (iZ 8) 23 := Or.inr (Or.inl ⟨8, by decide +kernel, by decide, rfl⟩)
theorem dX9_addRow_23 : AtJ mX9_addRow 23 (.if_icmp .lt) 26 37 := ⟨14, by decide +kernel, rfl, by decide⟩
theorem dX9_addRow_26 : AtT mX9_addRow 26 "java/lang/IllegalStateException" := ⟨52, 56, 266, 296, 68, "there are 8 lines or phrases", ["java/lang/RuntimeException", "java/lang/Exception"], true, by decide +kernel, by decide +kernel, ⟨by decide +kernel, by decide +kernel, by decide +kernel⟩, by decide +kernel, by decide +kernel, by decide +kernel, by decide +kernel, by decide +kernel, by decide +kernel, by decide +kernel, by decide, by decide, rfl⟩
theorem dX9_addRow_37 : AtA mX9_addRow 37 0 38 := Or.inr ⟨0, by decide +kernel, rfl, rfl⟩
theorem dX9_addRow_38 : AtI mX9_addRow 38 1 39 := Or.inr ⟨1, by decide +kernel, rfl, rfl⟩
theorem dX9_addRow_39 : AtI mX9_addRow 39 2 40 := Or.inr ⟨2, by decide +kernel, rfl, rfl⟩
theorem dX9_addRow_40 : AtVN mX9_addRow 40 mX4_append 2 4 43 := ⟨268, 459, 461, 9, (RX4, TX4, 3), "Hymnwright", by decide +kernel, rfl, rfl, by decide +kernel, by decide +kernel, by decide +kernel, rfl, ⟨⟨462, by decide +kernel⟩, ⟨70, by decide +kernel⟩, ⟨by decide, by decide⟩, by decide +kernel, by decide, by decide⟩⟩
theorem dX9_addRow_43 : AtA mX9_addRow 43 0 44 := Or.inr ⟨0, by decide +kernel, rfl, rfl⟩
theorem dX9_addRow_44 : AtF mX9_addRow 44 4 2 47 := ⟨263, (RX4, TX4, 3), by decide +kernel, rfl, rfl, by decide, Or.inr ⟨326, "Hymnwright", by decide +kernel⟩⟩
theorem dX9_addRow_47 : At mX9_addRow 47 .ireturn 1 48 := ⟨by decide +kernel, rfl⟩
theorem dX9_addFeast_0 : AtA mX9_addFeast 0 0 1 := Or.inr ⟨0, by decide +kernel, rfl, rfl⟩
theorem dX9_addFeast_1 : AtF mX9_addFeast 1 9 2 4 := ⟨19, (RX9, TX9, 7), by decide +kernel, rfl, rfl, by decide, Or.inl (Or.inl ⟨155, by decide +kernel⟩)⟩
theorem dX9_addFeast_4 : AtV mX9_addFeast 4 mJx4a65c_size_8abf5 0 0 7 := ⟨48, 179, 180, 181, (RJx4a65c, TJx4a65c, 3), by decide +kernel, rfl, rfl, by decide +kernel, by decide +kernel, by decide +kernel, rfl, ⟨⟨182, by decide +kernel⟩, ⟨59, by decide +kernel⟩, ⟨by decide, by decide⟩, by decide +kernel, by decide, by decide⟩⟩
theorem dX9_addFeast_7 : AtK mX9_addFeast 7 (iZ 20) 9 := Or.inr (Or.inl ⟨20, by decide +kernel, by decide, rfl⟩)
theorem dX9_addFeast_9 : AtJ mX9_addFeast 9 (.if_icmp .lt) 12 23 := ⟨14, by decide +kernel, rfl, by decide⟩
theorem dX9_addFeast_12 : AtT mX9_addFeast 12 "java/lang/IllegalStateException" := ⟨52, 56, 271, 296, 68, "there are 20 feasts", ["java/lang/RuntimeException", "java/lang/Exception"], true, by decide +kernel, by decide +kernel, ⟨by decide +kernel, by decide +kernel, by decide +kernel⟩, by decide +kernel, by decide +kernel, by decide +kernel, by decide +kernel, by decide +kernel, by decide +kernel, by decide +kernel, by decide, by decide, rfl⟩
theorem dX9_addFeast_23 : AtA mX9_addFeast 23 0 24 := Or.inr ⟨0, by decide +kernel, rfl, rfl⟩
theorem dX9_addFeast_24 : AtF mX9_addFeast 24 9 2 27 := ⟨19, (RX9, TX9, 7), by decide +kernel, rfl, rfl, by decide, Or.inl (Or.inl ⟨155, by decide +kernel⟩)⟩
theorem dX9_addFeast_27 : AtA mX9_addFeast 27 1 28 := Or.inr ⟨1, by decide +kernel, rfl, rfl⟩
theorem dX9_addFeast_28 : AtV mX9_addFeast 28 mJx4a65c_add_9ea2d 1 0 31 := ⟨63, 363, 364, 365, (RJx4a65c, TJx4a65c, 3), by decide +kernel, rfl, rfl, by decide +kernel, by decide +kernel, by decide +kernel, rfl, ⟨⟨366, by decide +kernel⟩, ⟨59, by decide +kernel⟩, ⟨by decide, by decide⟩, by decide +kernel, by decide, by decide⟩⟩
theorem dX9_addFeast_31 : At mX9_addFeast 31 .pop 1 32 := ⟨by decide +kernel, rfl⟩
theorem dX9_addFeast_32 : AtA mX9_addFeast 32 0 33 := Or.inr ⟨0, by decide +kernel, rfl, rfl⟩
theorem dX9_addFeast_33 : AtF mX9_addFeast 33 9 2 36 := ⟨19, (RX9, TX9, 7), by decide +kernel, rfl, rfl, by decide, Or.inl (Or.inl ⟨155, by decide +kernel⟩)⟩
theorem dX9_addFeast_36 : AtV mX9_addFeast 36 mJx4a65c_size_8abf5 0 0 39 := ⟨48, 179, 180, 181, (RJx4a65c, TJx4a65c, 3), by decide +kernel, rfl, rfl, by decide +kernel, by decide +kernel, by decide +kernel, rfl, ⟨⟨182, by decide +kernel⟩, ⟨59, by decide +kernel⟩, ⟨by decide, by decide⟩, by decide +kernel, by decide, by decide⟩⟩
theorem dX9_addFeast_39 : AtK mX9_addFeast 39 (iZ 1) 40 := Or.inl ⟨1, by decide +kernel, by decide, rfl⟩
theorem dX9_addFeast_40 : At mX9_addFeast 40 .isub 1 41 := ⟨by decide +kernel, rfl⟩
theorem dX9_addFeast_41 : At mX9_addFeast 41 .ireturn 1 42 := ⟨by decide +kernel, rfl⟩
theorem dX9_timesThrough_0 : AtA mX9_timesThrough 0 0 1 := Or.inr ⟨0, by decide +kernel, rfl, rfl⟩
theorem dX9_timesThrough_1 : AtF mX9_timesThrough 1 6 3 4 := ⟨71, (RX6, TX6, 4), by decide +kernel, rfl, rfl, by decide, Or.inr ⟨353, "Hymnwright", by decide +kernel⟩⟩
theorem dX9_timesThrough_4 : AtSA mX9_timesThrough 4 2 5 := ⟨Or.inr ⟨2, by decide +kernel, rfl, rfl⟩, by decide⟩
theorem dX9_timesThrough_5 : AtA mX9_timesThrough 5 1 6 := Or.inr ⟨1, by decide +kernel, rfl, rfl⟩
theorem dX9_timesThrough_6 : AtF mX9_timesThrough 6 7 4 9 := ⟨90, (RX7, TX7, 5), by decide +kernel, rfl, rfl, by decide, Or.inr ⟨489, "Hymnwright", by decide +kernel⟩⟩
theorem dX9_timesThrough_9 : AtSA mX9_timesThrough 9 3 10 := ⟨Or.inr ⟨3, by decide +kernel, rfl, rfl⟩, by decide⟩
theorem dX9_timesThrough_10 : AtA mX9_timesThrough 10 2 11 := Or.inr ⟨2, by decide +kernel, rfl, rfl⟩
theorem dX9_timesThrough_11 : AtF mX9_timesThrough 11 4 2 14 := ⟨263, (RX4, TX4, 3), by decide +kernel, rfl, rfl, by decide, Or.inr ⟨326, "Hymnwright", by decide +kernel⟩⟩
theorem dX9_timesThrough_14 : AtJ mX9_timesThrough 14 (.ifCond .eq) 17 26 := ⟨12, by decide +kernel, rfl, by decide⟩
theorem dX9_timesThrough_17 : AtA mX9_timesThrough 17 2 18 := Or.inr ⟨2, by decide +kernel, rfl, rfl⟩
theorem dX9_timesThrough_18 : AtK mX9_timesThrough 18 (iZ 0) 19 := Or.inl ⟨0, by decide +kernel, by decide, rfl⟩
theorem dX9_timesThrough_19 : AtA mX9_timesThrough 19 3 20 := Or.inr ⟨3, by decide +kernel, rfl, rfl⟩
theorem dX9_timesThrough_20 : AtVN mX9_timesThrough 20 mX4_hasMetreFrom 2 4 23 := ⟨273, 522, 209, 2, (RX4, TX4, 3), "Hymnwright", by decide +kernel, rfl, rfl, by decide +kernel, by decide +kernel, by decide +kernel, rfl, ⟨⟨210, by decide +kernel⟩, ⟨70, by decide +kernel⟩, ⟨by decide, by decide⟩, by decide +kernel, by decide, by decide⟩⟩
theorem dX9_timesThrough_23 : AtJ mX9_timesThrough 23 (.ifCond .ne) 26 28 := ⟨5, by decide +kernel, rfl, by decide⟩
theorem dX9_timesThrough_26 : AtK mX9_timesThrough 26 (iZ 0) 27 := Or.inl ⟨0, by decide +kernel, by decide, rfl⟩
theorem dX9_timesThrough_27 : At mX9_timesThrough 27 .ireturn 1 28 := ⟨by decide +kernel, rfl⟩
theorem dX9_timesThrough_28 : AtA mX9_timesThrough 28 2 29 := Or.inr ⟨2, by decide +kernel, rfl, rfl⟩
theorem dX9_timesThrough_29 : AtF mX9_timesThrough 29 4 2 32 := ⟨263, (RX4, TX4, 3), by decide +kernel, rfl, rfl, by decide, Or.inr ⟨326, "Hymnwright", by decide +kernel⟩⟩
theorem dX9_timesThrough_32 : AtA mX9_timesThrough 32 3 33 := Or.inr ⟨3, by decide +kernel, rfl, rfl⟩
theorem dX9_timesThrough_33 : AtF mX9_timesThrough 33 4 2 36 := ⟨263, (RX4, TX4, 3), by decide +kernel, rfl, rfl, by decide, Or.inr ⟨326, "Hymnwright", by decide +kernel⟩⟩
theorem dX9_timesThrough_36 : AtJ mX9_timesThrough 36 (.if_icmp .ne) 39 41 := ⟨5, by decide +kernel, rfl, by decide⟩
theorem dX9_timesThrough_39 : AtK mX9_timesThrough 39 (iZ 1) 40 := Or.inl ⟨1, by decide +kernel, by decide, rfl⟩
theorem dX9_timesThrough_40 : At mX9_timesThrough 40 .ireturn 1 41 := ⟨by decide +kernel, rfl⟩
theorem dX9_timesThrough_41 : AtA mX9_timesThrough 41 2 42 := Or.inr ⟨2, by decide +kernel, rfl, rfl⟩
theorem dX9_timesThrough_42 : AtF mX9_timesThrough 42 4 2 45 := ⟨263, (RX4, TX4, 3), by decide +kernel, rfl, rfl, by decide, Or.inr ⟨326, "Hymnwright", by decide +kernel⟩⟩
theorem dX9_timesThrough_45 : AtK mX9_timesThrough 45 (iZ 2) 46 := Or.inl ⟨2, by decide +kernel, by decide, rfl⟩
theorem dX9_timesThrough_46 : AtA mX9_timesThrough 46 3 47 := Or.inr ⟨3, by decide +kernel, rfl, rfl⟩
theorem dX9_timesThrough_47 : AtF mX9_timesThrough 47 4 2 50 := ⟨263, (RX4, TX4, 3), by decide +kernel, rfl, rfl, by decide, Or.inr ⟨326, "Hymnwright", by decide +kernel⟩⟩
theorem dX9_timesThrough_50 : At mX9_timesThrough 50 .imul 1 51 := ⟨by decide +kernel, rfl⟩
theorem dX9_timesThrough_51 : AtJ mX9_timesThrough 51 (.if_icmp .ne) 54 70 := ⟨19, by decide +kernel, rfl, by decide⟩
theorem dX9_timesThrough_54 : AtA mX9_timesThrough 54 2 55 := Or.inr ⟨2, by decide +kernel, rfl, rfl⟩
theorem dX9_timesThrough_55 : AtA mX9_timesThrough 55 3 56 := Or.inr ⟨3, by decide +kernel, rfl, rfl⟩
theorem dX9_timesThrough_56 : AtF mX9_timesThrough 56 4 2 59 := ⟨263, (RX4, TX4, 3), by decide +kernel, rfl, rfl, by decide, Or.inr ⟨326, "Hymnwright", by decide +kernel⟩⟩
theorem dX9_timesThrough_59 : AtA mX9_timesThrough 59 3 60 := Or.inr ⟨3, by decide +kernel, rfl, rfl⟩
theorem dX9_timesThrough_60 : AtVN mX9_timesThrough 60 mX4_hasMetreFrom 2 4 63 := ⟨273, 522, 209, 2, (RX4, TX4, 3), "Hymnwright", by decide +kernel, rfl, rfl, by decide +kernel, by decide +kernel, by decide +kernel, rfl, ⟨⟨210, by decide +kernel⟩, ⟨70, by decide +kernel⟩, ⟨by decide, by decide⟩, by decide +kernel, by decide, by decide⟩⟩
theorem dX9_timesThrough_63 : AtJ mX9_timesThrough 63 (.ifCond .eq) 66 70 := ⟨7, by decide +kernel, rfl, by decide⟩
theorem dX9_timesThrough_66 : AtK mX9_timesThrough 66 (iZ 1) 67 := Or.inl ⟨1, by decide +kernel, by decide, rfl⟩
theorem dX9_timesThrough_67 : AtG mX9_timesThrough 67 71 := ⟨4, by decide +kernel, by decide⟩
theorem dX9_timesThrough_70 : AtK mX9_timesThrough 70 (iZ 0) 71 := Or.inl ⟨0, by decide +kernel, by decide, rfl⟩
theorem dX9_timesThrough_71 : AtSI mX9_timesThrough 71 4 73 := ⟨Or.inl ⟨by decide +kernel, rfl⟩, by decide⟩
theorem dX9_timesThrough_73 : AtI mX9_timesThrough 73 4 75 := Or.inl ⟨by decide +kernel, rfl⟩
theorem dX9_timesThrough_75 : AtJ mX9_timesThrough 75 (.ifCond .eq) 78 82 := ⟨7, by decide +kernel, rfl, by decide⟩
theorem dX9_timesThrough_78 : AtK mX9_timesThrough 78 (iZ 2) 79 := Or.inl ⟨2, by decide +kernel, by decide, rfl⟩
theorem dX9_timesThrough_79 : AtG mX9_timesThrough 79 83 := ⟨4, by decide +kernel, by decide⟩
theorem dX9_timesThrough_82 : AtK mX9_timesThrough 82 (iZ 0) 83 := Or.inl ⟨0, by decide +kernel, by decide, rfl⟩
theorem dX9_timesThrough_83 : At mX9_timesThrough 83 .ireturn 1 84 := ⟨by decide +kernel, rfl⟩
theorem dX9_countClashes_0 : AtA mX9_countClashes 0 0 1 := Or.inr ⟨0, by decide +kernel, rfl, rfl⟩
theorem dX9_countClashes_1 : AtF mX9_countClashes 1 6 3 4 := ⟨71, (RX6, TX6, 4), by decide +kernel, rfl, rfl, by decide, Or.inr ⟨353, "Hymnwright", by decide +kernel⟩⟩
theorem dX9_countClashes_4 : AtSA mX9_countClashes 4 2 5 := ⟨Or.inr ⟨2, by decide +kernel, rfl, rfl⟩, by decide⟩
theorem dX9_countClashes_5 : AtA mX9_countClashes 5 1 6 := Or.inr ⟨1, by decide +kernel, rfl, rfl⟩
theorem dX9_countClashes_6 : AtF mX9_countClashes 6 7 4 9 := ⟨90, (RX7, TX7, 5), by decide +kernel, rfl, rfl, by decide, Or.inr ⟨489, "Hymnwright", by decide +kernel⟩⟩
theorem dX9_countClashes_9 : AtSA mX9_countClashes 9 3 10 := ⟨Or.inr ⟨3, by decide +kernel, rfl, rfl⟩, by decide⟩
theorem dX9_countClashes_10 : AtK mX9_countClashes 10 (iZ 0) 11 := Or.inl ⟨0, by decide +kernel, by decide, rfl⟩
theorem dX9_countClashes_11 : AtSI mX9_countClashes 11 4 13 := ⟨Or.inl ⟨by decide +kernel, rfl⟩, by decide⟩
theorem dX9_countClashes_13 : AtK mX9_countClashes 13 (iZ 0) 14 := Or.inl ⟨0, by decide +kernel, by decide, rfl⟩
theorem dX9_countClashes_14 : AtSI mX9_countClashes 14 5 16 := ⟨Or.inl ⟨by decide +kernel, rfl⟩, by decide⟩
theorem dX9_countClashes_16 : AtI mX9_countClashes 16 5 18 := Or.inl ⟨by decide +kernel, rfl⟩
theorem dX9_countClashes_18 : AtA mX9_countClashes 18 2 19 := Or.inr ⟨2, by decide +kernel, rfl, rfl⟩
theorem dX9_countClashes_19 : AtF mX9_countClashes 19 4 2 22 := ⟨263, (RX4, TX4, 3), by decide +kernel, rfl, rfl, by decide, Or.inr ⟨326, "Hymnwright", by decide +kernel⟩⟩
theorem dX9_countClashes_22 : AtJ mX9_countClashes 22 (.if_icmp .ge) 25 75 := ⟨53, by decide +kernel, rfl, by decide⟩
theorem dX9_countClashes_25 : AtI mX9_countClashes 25 5 27 := Or.inl ⟨by decide +kernel, rfl⟩
theorem dX9_countClashes_27 : AtA mX9_countClashes 27 3 28 := Or.inr ⟨3, by decide +kernel, rfl, rfl⟩
theorem dX9_countClashes_28 : AtF mX9_countClashes 28 4 2 31 := ⟨263, (RX4, TX4, 3), by decide +kernel, rfl, rfl, by decide, Or.inr ⟨326, "Hymnwright", by decide +kernel⟩⟩
theorem dX9_countClashes_31 : AtJ mX9_countClashes 31 (.if_icmp .ge) 34 39 := ⟨8, by decide +kernel, rfl, by decide⟩
theorem dX9_countClashes_34 : AtI mX9_countClashes 34 5 36 := Or.inl ⟨by decide +kernel, rfl⟩
theorem dX9_countClashes_36 : AtG mX9_countClashes 36 46 := ⟨10, by decide +kernel, by decide⟩
theorem dX9_countClashes_39 : AtI mX9_countClashes 39 5 41 := Or.inl ⟨by decide +kernel, rfl⟩
theorem dX9_countClashes_41 : AtA mX9_countClashes 41 3 42 := Or.inr ⟨3, by decide +kernel, rfl, rfl⟩
theorem dX9_countClashes_42 : AtF mX9_countClashes 42 4 2 45 := ⟨263, (RX4, TX4, 3), by decide +kernel, rfl, rfl, by decide, Or.inr ⟨326, "Hymnwright", by decide +kernel⟩⟩
theorem dX9_countClashes_45 : At mX9_countClashes 45 .isub 1 46 := ⟨by decide +kernel, rfl⟩
theorem dX9_countClashes_46 : AtSI mX9_countClashes 46 6 48 := ⟨Or.inl ⟨by decide +kernel, rfl⟩, by decide⟩
theorem dX9_countClashes_48 : AtI mX9_countClashes 48 4 50 := Or.inl ⟨by decide +kernel, rfl⟩
theorem dX9_countClashes_50 : AtA mX9_countClashes 50 2 51 := Or.inr ⟨2, by decide +kernel, rfl, rfl⟩
theorem dX9_countClashes_51 : AtI mX9_countClashes 51 5 53 := Or.inl ⟨by decide +kernel, rfl⟩
theorem dX9_countClashes_53 : AtVN mX9_countClashes 53 mX4_marksAt 1 4 56 := ⟨277, 534, 536, 11, (RX4, TX4, 3), "Hymnwright", by decide +kernel, rfl, rfl, by decide +kernel, by decide +kernel, by decide +kernel, rfl, ⟨⟨537, by decide +kernel⟩, ⟨70, by decide +kernel⟩, ⟨by decide, by decide⟩, by decide +kernel, by decide, by decide⟩⟩
theorem dX9_countClashes_56 : AtA mX9_countClashes 56 3 57 := Or.inr ⟨3, by decide +kernel, rfl, rfl⟩
theorem dX9_countClashes_57 : AtI mX9_countClashes 57 6 59 := Or.inl ⟨by decide +kernel, rfl⟩
theorem dX9_countClashes_59 : AtVN mX9_countClashes 59 mX4_marksAt 1 4 62 := ⟨277, 534, 536, 11, (RX4, TX4, 3), "Hymnwright", by decide +kernel, rfl, rfl, by decide +kernel, by decide +kernel, by decide +kernel, rfl, ⟨⟨537, by decide +kernel⟩, ⟨70, by decide +kernel⟩, ⟨by decide, by decide⟩, by decide +kernel, by decide, by decide⟩⟩
theorem dX9_countClashes_62 : At mX9_countClashes 62 .ixor 1 63 := ⟨by decide +kernel, rfl⟩
theorem dX9_countClashes_63 : AtS mX9_countClashes 63 mJ6_bitCount_0f7a4 1 66 := ⟨280, 538, 539, by decide +kernel, rfl, by decide +kernel, by decide +kernel, rfl, ⟨⟨540, by decide +kernel⟩, ⟨79, by decide +kernel⟩, ⟨by decide, by decide⟩, by decide +kernel, by decide, by decide⟩⟩
theorem dX9_countClashes_66 : At mX9_countClashes 66 .iadd 1 67 := ⟨by decide +kernel, rfl⟩
theorem dX9_countClashes_67 : AtSI mX9_countClashes 67 4 69 := ⟨Or.inl ⟨by decide +kernel, rfl⟩, by decide⟩
theorem dX9_countClashes_69 : AtInc mX9_countClashes 69 5 (iZ 1) 72 := ⟨1, by decide +kernel, by decide, rfl, by decide⟩
theorem dX9_countClashes_72 : AtG mX9_countClashes 72 16 := ⟨(-56), by decide +kernel, by decide⟩
theorem dX9_countClashes_75 : AtI mX9_countClashes 75 4 77 := Or.inl ⟨by decide +kernel, rfl⟩
theorem dX9_countClashes_77 : At mX9_countClashes 77 .ireturn 1 78 := ⟨by decide +kernel, rfl⟩
theorem dX9_bestTune_0 : At mX9_bestTune 0 .aconst_null 1 1 := ⟨by decide +kernel, rfl⟩
theorem dX9_bestTune_1 : AtSA mX9_bestTune 1 4 3 := ⟨Or.inl ⟨by decide +kernel, rfl⟩, by decide⟩
theorem dX9_bestTune_3 : AtK mX9_bestTune 3 (iZ 0) 4 := Or.inl ⟨0, by decide +kernel, by decide, rfl⟩
theorem dX9_bestTune_4 : AtSI mX9_bestTune 4 5 6 := ⟨Or.inl ⟨by decide +kernel, rfl⟩, by decide⟩
theorem dX9_bestTune_6 : AtK mX9_bestTune 6 (iZ 0) 7 := Or.inl ⟨0, by decide +kernel, by decide, rfl⟩
theorem dX9_bestTune_7 : AtSI mX9_bestTune 7 6 9 := ⟨Or.inl ⟨by decide +kernel, rfl⟩, by decide⟩
theorem dX9_bestTune_9 : AtI mX9_bestTune 9 6 11 := Or.inl ⟨by decide +kernel, rfl⟩
theorem dX9_bestTune_11 : AtA mX9_bestTune 11 0 12 := Or.inr ⟨0, by decide +kernel, rfl, rfl⟩
theorem dX9_bestTune_12 : AtF mX9_bestTune 12 9 1 15 := ⟨16, (RX9, TX9, 7), by decide +kernel, rfl, rfl, by decide, Or.inl (Or.inl ⟨154, by decide +kernel⟩)⟩
theorem dX9_bestTune_15 : AtV mX9_bestTune 15 mJx4a65c_size_8abf5 0 0 18 := ⟨48, 179, 180, 181, (RJx4a65c, TJx4a65c, 3), by decide +kernel, rfl, rfl, by decide +kernel, by decide +kernel, by decide +kernel, rfl, ⟨⟨182, by decide +kernel⟩, ⟨59, by decide +kernel⟩, ⟨by decide, by decide⟩, by decide +kernel, by decide, by decide⟩⟩
theorem dX9_bestTune_18 : AtJ mX9_bestTune 18 (.if_icmp .ge) 21 106 := ⟨88, by decide +kernel, rfl, by decide⟩
theorem dX9_bestTune_21 : AtA mX9_bestTune 21 0 22 := Or.inr ⟨0, by decide +kernel, rfl, rfl⟩
theorem dX9_bestTune_22 : AtF mX9_bestTune 22 9 1 25 := ⟨16, (RX9, TX9, 7), by decide +kernel, rfl, rfl, by decide, Or.inl (Or.inl ⟨154, by decide +kernel⟩)⟩
theorem dX9_bestTune_25 : AtI mX9_bestTune 25 6 27 := Or.inl ⟨by decide +kernel, rfl⟩
theorem dX9_bestTune_27 : AtV mX9_bestTune 27 mJx4a65c_get_915e3 1 0 30 := ⟨109, 183, 184, 185, (RJx4a65c, TJx4a65c, 3), by decide +kernel, rfl, rfl, by decide +kernel, by decide +kernel, by decide +kernel, rfl, ⟨⟨186, by decide +kernel⟩, ⟨59, by decide +kernel⟩, ⟨by decide, by decide⟩, by decide +kernel, by decide, by decide⟩⟩
theorem dX9_bestTune_30 : AtC mX9_bestTune 30 7 33 := ⟨81, 197, (RX7, TX7, 5), by decide +kernel, rfl, rfl, by decide +kernel⟩
theorem dX9_bestTune_33 : AtSA mX9_bestTune 33 7 35 := ⟨Or.inl ⟨by decide +kernel, rfl⟩, by decide⟩
theorem dX9_bestTune_35 : AtI mX9_bestTune 35 2 36 := Or.inr ⟨2, by decide +kernel, rfl, rfl⟩
theorem dX9_bestTune_36 : AtJ mX9_bestTune 36 (.ifCond .eq) 39 51 := ⟨15, by decide +kernel, rfl, by decide⟩
theorem dX9_bestTune_39 : AtA mX9_bestTune 39 7 41 := Or.inl ⟨by decide +kernel, rfl⟩
theorem dX9_bestTune_41 : AtF mX9_bestTune 41 7 3 44 := ⟨133, (RX7, TX7, 5), by decide +kernel, rfl, rfl, by decide, Or.inr ⟨487, "Hymnwright", by decide +kernel⟩⟩
theorem dX9_bestTune_44 : AtI mX9_bestTune 44 3 45 := Or.inr ⟨3, by decide +kernel, rfl, rfl⟩
theorem dX9_bestTune_45 : AtVN mX9_bestTune 45 mX3_isFreeIn 1 3 48 := ⟨285, 555, 557, 13, (RX3, TX3, 2), "Hymnwright", by decide +kernel, rfl, rfl, by decide +kernel, by decide +kernel, by decide +kernel, rfl, ⟨⟨558, by decide +kernel⟩, ⟨71, by decide +kernel⟩, ⟨by decide, by decide⟩, by decide +kernel, by decide, by decide⟩⟩
theorem dX9_bestTune_48 : AtJ mX9_bestTune 48 (.ifCond .eq) 51 55 := ⟨7, by decide +kernel, rfl, by decide⟩
theorem dX9_bestTune_51 : AtK mX9_bestTune 51 (iZ 1) 52 := Or.inl ⟨1, by decide +kernel, by decide, rfl⟩
theorem dX9_bestTune_52 : AtG mX9_bestTune 52 56 := ⟨4, by decide +kernel, by decide⟩
theorem dX9_bestTune_55 : AtK mX9_bestTune 55 (iZ 0) 56 := Or.inl ⟨0, by decide +kernel, by decide, rfl⟩
theorem dX9_bestTune_56 : AtSI mX9_bestTune 56 8 58 := ⟨Or.inl ⟨by decide +kernel, rfl⟩, by decide⟩
theorem dX9_bestTune_58 : AtI mX9_bestTune 58 8 60 := Or.inl ⟨by decide +kernel, rfl⟩
theorem dX9_bestTune_60 : AtJ mX9_bestTune 60 (.ifCond .eq) 63 100 := ⟨40, by decide +kernel, rfl, by decide⟩
theorem dX9_bestTune_63 : AtA mX9_bestTune 63 1 64 := Or.inr ⟨1, by decide +kernel, rfl, rfl⟩
theorem dX9_bestTune_64 : AtA mX9_bestTune 64 7 66 := Or.inl ⟨by decide +kernel, rfl⟩
theorem dX9_bestTune_66 : AtS mX9_bestTune 66 mX9_timesThrough 2 69 := ⟨93, 519, 520, by decide +kernel, rfl, by decide +kernel, by decide +kernel, rfl, ⟨⟨521, by decide +kernel⟩, ⟨56, by decide +kernel⟩, ⟨by decide, by decide⟩, by decide +kernel, by decide, by decide⟩⟩
theorem dX9_bestTune_69 : AtJ mX9_bestTune 69 (.ifCond .eq) 72 100 := ⟨31, by decide +kernel, rfl, by decide⟩
theorem dX9_bestTune_72 : AtA mX9_bestTune 72 1 73 := Or.inr ⟨1, by decide +kernel, rfl, rfl⟩
theorem dX9_bestTune_73 : AtA mX9_bestTune 73 7 75 := Or.inl ⟨by decide +kernel, rfl⟩
theorem dX9_bestTune_75 : AtS mX9_bestTune 75 mX9_countClashes 2 78 := ⟨99, 531, 532, by decide +kernel, rfl, by decide +kernel, by decide +kernel, rfl, ⟨⟨533, by decide +kernel⟩, ⟨56, by decide +kernel⟩, ⟨by decide, by decide⟩, by decide +kernel, by decide, by decide⟩⟩
theorem dX9_bestTune_78 : AtSI mX9_bestTune 78 9 80 := ⟨Or.inl ⟨by decide +kernel, rfl⟩, by decide⟩
theorem dX9_bestTune_80 : AtA mX9_bestTune 80 4 82 := Or.inl ⟨by decide +kernel, rfl⟩
theorem dX9_bestTune_82 : AtJ mX9_bestTune 82 .ifnull 85 92 := ⟨10, by decide +kernel, rfl, by decide⟩
theorem dX9_bestTune_85 : AtI mX9_bestTune 85 9 87 := Or.inl ⟨by decide +kernel, rfl⟩
theorem dX9_bestTune_87 : AtI mX9_bestTune 87 5 89 := Or.inl ⟨by decide +kernel, rfl⟩
theorem dX9_bestTune_89 : AtJ mX9_bestTune 89 (.if_icmp .ge) 92 100 := ⟨11, by decide +kernel, rfl, by decide⟩
theorem dX9_bestTune_92 : AtA mX9_bestTune 92 7 94 := Or.inl ⟨by decide +kernel, rfl⟩
theorem dX9_bestTune_94 : AtSA mX9_bestTune 94 4 96 := ⟨Or.inl ⟨by decide +kernel, rfl⟩, by decide⟩
theorem dX9_bestTune_96 : AtI mX9_bestTune 96 9 98 := Or.inl ⟨by decide +kernel, rfl⟩
theorem dX9_bestTune_98 : AtSI mX9_bestTune 98 5 100 := ⟨Or.inl ⟨by decide +kernel, rfl⟩, by decide⟩
theorem dX9_bestTune_100 : AtInc mX9_bestTune 100 6 (iZ 1) 103 := ⟨1, by decide +kernel, by decide, rfl, by decide⟩
theorem dX9_bestTune_103 : AtG mX9_bestTune 103 9 := ⟨(-94), by decide +kernel, by decide⟩
theorem dX9_bestTune_106 : AtA mX9_bestTune 106 4 108 := Or.inl ⟨by decide +kernel, rfl⟩
theorem dX9_bestTune_108 : At mX9_bestTune 108 .areturn 1 109 := ⟨by decide +kernel, rfl⟩
theorem dX9_isFirstOfItsMetre_0 : AtK mX9_isFirstOfItsMetre 0 (iZ 0) 1 := Or.inl ⟨0, by decide +kernel, by decide, rfl⟩
theorem dX9_isFirstOfItsMetre_1 : AtSI mX9_isFirstOfItsMetre 1 2 2 := ⟨Or.inr ⟨2, by decide +kernel, rfl, rfl⟩, by decide⟩
theorem dX9_isFirstOfItsMetre_2 : AtI mX9_isFirstOfItsMetre 2 2 3 := Or.inr ⟨2, by decide +kernel, rfl, rfl⟩
theorem dX9_isFirstOfItsMetre_3 : AtA mX9_isFirstOfItsMetre 3 0 4 := Or.inr ⟨0, by decide +kernel, rfl, rfl⟩
theorem dX9_isFirstOfItsMetre_4 : AtF mX9_isFirstOfItsMetre 4 9 1 7 := ⟨16, (RX9, TX9, 7), by decide +kernel, rfl, rfl, by decide, Or.inl (Or.inl ⟨154, by decide +kernel⟩)⟩
theorem dX9_isFirstOfItsMetre_7 : AtV mX9_isFirstOfItsMetre 7 mJx4a65c_size_8abf5 0 0 10 := ⟨48, 179, 180, 181, (RJx4a65c, TJx4a65c, 3), by decide +kernel, rfl, rfl, by decide +kernel, by decide +kernel, by decide +kernel, rfl, ⟨⟨182, by decide +kernel⟩, ⟨59, by decide +kernel⟩, ⟨by decide, by decide⟩, by decide +kernel, by decide, by decide⟩⟩
theorem dX9_isFirstOfItsMetre_10 : AtJ mX9_isFirstOfItsMetre 10 (.if_icmp .ge) 13 53 := ⟨43, by decide +kernel, rfl, by decide⟩
theorem dX9_isFirstOfItsMetre_13 : AtI mX9_isFirstOfItsMetre 13 2 14 := Or.inr ⟨2, by decide +kernel, rfl, rfl⟩
theorem dX9_isFirstOfItsMetre_14 : AtA mX9_isFirstOfItsMetre 14 1 15 := Or.inr ⟨1, by decide +kernel, rfl, rfl⟩
theorem dX9_isFirstOfItsMetre_15 : AtF mX9_isFirstOfItsMetre 15 7 0 18 := ⟨106, (RX7, TX7, 5), by decide +kernel, rfl, rfl, by decide, Or.inr ⟨481, "Hymnwright", by decide +kernel⟩⟩
theorem dX9_isFirstOfItsMetre_18 : AtJ mX9_isFirstOfItsMetre 18 (.if_icmp .ge) 21 53 := ⟨35, by decide +kernel, rfl, by decide⟩
theorem dX9_isFirstOfItsMetre_21 : AtA mX9_isFirstOfItsMetre 21 0 22 := Or.inr ⟨0, by decide +kernel, rfl, rfl⟩
theorem dX9_isFirstOfItsMetre_22 : AtF mX9_isFirstOfItsMetre 22 9 1 25 := ⟨16, (RX9, TX9, 7), by decide +kernel, rfl, rfl, by decide, Or.inl (Or.inl ⟨154, by decide +kernel⟩)⟩
theorem dX9_isFirstOfItsMetre_25 : AtI mX9_isFirstOfItsMetre 25 2 26 := Or.inr ⟨2, by decide +kernel, rfl, rfl⟩
theorem dX9_isFirstOfItsMetre_26 : AtV mX9_isFirstOfItsMetre 26 mJx4a65c_get_915e3 1 0 29 := ⟨109, 183, 184, 185, (RJx4a65c, TJx4a65c, 3), by decide +kernel, rfl, rfl, by decide +kernel, by decide +kernel, by decide +kernel, rfl, ⟨⟨186, by decide +kernel⟩, ⟨59, by decide +kernel⟩, ⟨by decide, by decide⟩, by decide +kernel, by decide, by decide⟩⟩
theorem dX9_isFirstOfItsMetre_29 : AtC mX9_isFirstOfItsMetre 29 7 32 := ⟨81, 197, (RX7, TX7, 5), by decide +kernel, rfl, rfl, by decide +kernel⟩
theorem dX9_isFirstOfItsMetre_32 : AtF mX9_isFirstOfItsMetre 32 7 4 35 := ⟨90, (RX7, TX7, 5), by decide +kernel, rfl, rfl, by decide, Or.inr ⟨489, "Hymnwright", by decide +kernel⟩⟩
theorem dX9_isFirstOfItsMetre_35 : AtA mX9_isFirstOfItsMetre 35 1 36 := Or.inr ⟨1, by decide +kernel, rfl, rfl⟩
theorem dX9_isFirstOfItsMetre_36 : AtF mX9_isFirstOfItsMetre 36 7 4 39 := ⟨90, (RX7, TX7, 5), by decide +kernel, rfl, rfl, by decide, Or.inr ⟨489, "Hymnwright", by decide +kernel⟩⟩
theorem dX9_isFirstOfItsMetre_39 : AtVN mX9_isFirstOfItsMetre 39 mX4_hasMetreOf 1 4 42 := ⟨113, 202, 204, 1, (RX4, TX4, 3), "Hymnwright", by decide +kernel, rfl, rfl, by decide +kernel, by decide +kernel, by decide +kernel, rfl, ⟨⟨206, by decide +kernel⟩, ⟨70, by decide +kernel⟩, ⟨by decide, by decide⟩, by decide +kernel, by decide, by decide⟩⟩
theorem dX9_isFirstOfItsMetre_42 : AtJ mX9_isFirstOfItsMetre 42 (.ifCond .eq) 45 47 := ⟨5, by decide +kernel, rfl, by decide⟩
theorem dX9_isFirstOfItsMetre_45 : AtK mX9_isFirstOfItsMetre 45 (iZ 0) 46 := Or.inl ⟨0, by decide +kernel, by decide, rfl⟩
theorem dX9_isFirstOfItsMetre_46 : At mX9_isFirstOfItsMetre 46 .ireturn 1 47 := ⟨by decide +kernel, rfl⟩
theorem dX9_isFirstOfItsMetre_47 : AtInc mX9_isFirstOfItsMetre 47 2 (iZ 1) 50 := ⟨1, by decide +kernel, by decide, rfl, by decide⟩
theorem dX9_isFirstOfItsMetre_50 : AtG mX9_isFirstOfItsMetre 50 2 := ⟨(-48), by decide +kernel, by decide⟩
theorem dX9_isFirstOfItsMetre_53 : AtK mX9_isFirstOfItsMetre 53 (iZ 1) 54 := Or.inl ⟨1, by decide +kernel, by decide, rfl⟩
theorem dX9_isFirstOfItsMetre_54 : At mX9_isFirstOfItsMetre 54 .ireturn 1 55 := ⟨by decide +kernel, rfl⟩
theorem dX9_themeOf_0 : AtA mX9_themeOf 0 0 1 := Or.inr ⟨0, by decide +kernel, rfl, rfl⟩
theorem dX9_themeOf_1 : AtF mX9_themeOf 1 9 5 4 := ⟨35, (RX9, TX9, 7), by decide +kernel, rfl, rfl, by decide, Or.inl (Or.inl ⟨158, by decide +kernel⟩)⟩
theorem dX9_themeOf_4 : AtI mX9_themeOf 4 1 5 := Or.inr ⟨1, by decide +kernel, rfl, rfl⟩
theorem dX9_themeOf_5 : AtA mX9_themeOf 5 0 6 := Or.inr ⟨0, by decide +kernel, rfl, rfl⟩
theorem dX9_themeOf_6 : AtF mX9_themeOf 6 9 2 9 := ⟨19, (RX9, TX9, 7), by decide +kernel, rfl, rfl, by decide, Or.inl (Or.inl ⟨155, by decide +kernel⟩)⟩
theorem dX9_themeOf_9 : AtA mX9_themeOf 9 0 10 := Or.inr ⟨0, by decide +kernel, rfl, rfl⟩
theorem dX9_themeOf_10 : AtF mX9_themeOf 10 9 6 13 := ⟨39, (RX9, TX9, 7), by decide +kernel, rfl, rfl, by decide, Or.inl (Or.inl ⟨159, by decide +kernel⟩)⟩
theorem dX9_themeOf_13 : AtVN mX9_themeOf 13 mX8_layOut 3 8 16 := ⟨184, 718, 720, 19, (RX8, TX8, 5), "Hymnwright", by decide +kernel, rfl, rfl, by decide +kernel, by decide +kernel, by decide +kernel, rfl, ⟨⟨721, by decide +kernel⟩, ⟨62, by decide +kernel⟩, ⟨by decide, by decide⟩, by decide +kernel, by decide, by decide⟩⟩
theorem dX9_themeOf_16 : AtA mX9_themeOf 16 0 17 := Or.inr ⟨0, by decide +kernel, rfl, rfl⟩
theorem dX9_themeOf_17 : AtF mX9_themeOf 17 9 5 20 := ⟨35, (RX9, TX9, 7), by decide +kernel, rfl, rfl, by decide, Or.inl (Or.inl ⟨158, by decide +kernel⟩)⟩
theorem dX9_themeOf_20 : AtI mX9_themeOf 20 2 21 := Or.inr ⟨2, by decide +kernel, rfl, rfl⟩
theorem dX9_themeOf_21 : AtVN mX9_themeOf 21 mX8_keptOn 1 8 24 := ⟨188, 750, 752, 24, (RX8, TX8, 5), "Hymnwright", by decide +kernel, rfl, rfl, by decide +kernel, by decide +kernel, by decide +kernel, rfl, ⟨⟨753, by decide +kernel⟩, ⟨62, by decide +kernel⟩, ⟨by decide, by decide⟩, by decide +kernel, by decide, by decide⟩⟩
theorem dX9_themeOf_24 : AtSI mX9_themeOf 24 3 25 := ⟨Or.inr ⟨3, by decide +kernel, rfl, rfl⟩, by decide⟩
theorem dX9_themeOf_25 : AtI mX9_themeOf 25 3 26 := Or.inr ⟨3, by decide +kernel, rfl, rfl⟩
theorem dX9_themeOf_26 : AtK mX9_themeOf 26 (iZ (-2)) 28 := Or.inr (Or.inl ⟨(-2), by decide +kernel, by decide, rfl⟩)
theorem dX9_themeOf_28 : AtJ mX9_themeOf 28 (.if_icmp .ne) 31 42 := ⟨14, by decide +kernel, rfl, by decide⟩
theorem dX9_themeOf_31 : AtA mX9_themeOf 31 0 32 := Or.inr ⟨0, by decide +kernel, rfl, rfl⟩
theorem dX9_themeOf_32 : AtF mX9_themeOf 32 9 4 35 := ⟨28, (RX9, TX9, 7), by decide +kernel, rfl, rfl, by decide, Or.inl (Or.inl ⟨157, by decide +kernel⟩)⟩
theorem dX9_themeOf_35 : AtI mX9_themeOf 35 1 36 := Or.inr ⟨1, by decide +kernel, rfl, rfl⟩
theorem dX9_themeOf_36 : AtK mX9_themeOf 36 (iZ 3) 37 := Or.inl ⟨3, by decide +kernel, by decide, rfl⟩
theorem dX9_themeOf_37 : At mX9_themeOf 37 .irem 1 38 := ⟨by decide +kernel, rfl⟩
theorem dX9_themeOf_38 : AtVN mX9_themeOf 38 mX2_themeIn 1 2 41 := ⟨288, 787, 709, 18, (RX2, TX2, 1), "Hymnwright", by decide +kernel, rfl, rfl, by decide +kernel, by decide +kernel, by decide +kernel, rfl, ⟨⟨710, by decide +kernel⟩, ⟨60, by decide +kernel⟩, ⟨by decide, by decide⟩, by decide +kernel, by decide, by decide⟩⟩
theorem dX9_themeOf_41 : At mX9_themeOf 41 .ireturn 1 42 := ⟨by decide +kernel, rfl⟩
theorem dX9_themeOf_42 : AtI mX9_themeOf 42 3 43 := Or.inr ⟨3, by decide +kernel, rfl, rfl⟩
theorem dX9_themeOf_43 : AtJ mX9_themeOf 43 (.ifCond .lt) 46 61 := ⟨18, by decide +kernel, rfl, by decide⟩
theorem dX9_themeOf_46 : AtI mX9_themeOf 46 3 47 := Or.inr ⟨3, by decide +kernel, rfl, rfl⟩
theorem dX9_themeOf_47 : AtA mX9_themeOf 47 0 48 := Or.inr ⟨0, by decide +kernel, rfl, rfl⟩
theorem dX9_themeOf_48 : AtF mX9_themeOf 48 9 2 51 := ⟨19, (RX9, TX9, 7), by decide +kernel, rfl, rfl, by decide, Or.inl (Or.inl ⟨155, by decide +kernel⟩)⟩
theorem dX9_themeOf_51 : AtV mX9_themeOf 51 mJx4a65c_size_8abf5 0 0 54 := ⟨48, 179, 180, 181, (RJx4a65c, TJx4a65c, 3), by decide +kernel, rfl, rfl, by decide +kernel, by decide +kernel, by decide +kernel, rfl, ⟨⟨182, by decide +kernel⟩, ⟨59, by decide +kernel⟩, ⟨by decide, by decide⟩, by decide +kernel, by decide, by decide⟩⟩
theorem dX9_themeOf_54 : AtJ mX9_themeOf 54 (.if_icmp .ge) 57 61 := ⟨7, by decide +kernel, rfl, by decide⟩
theorem dX9_themeOf_57 : AtK mX9_themeOf 57 (iZ 1) 58 := Or.inl ⟨1, by decide +kernel, by decide, rfl⟩
theorem dX9_themeOf_58 : AtG mX9_themeOf 58 62 := ⟨4, by decide +kernel, by decide⟩
theorem dX9_themeOf_61 : AtK mX9_themeOf 61 (iZ 0) 62 := Or.inl ⟨0, by decide +kernel, by decide, rfl⟩
theorem dX9_themeOf_62 : AtSI mX9_themeOf 62 4 64 := ⟨Or.inl ⟨by decide +kernel, rfl⟩, by decide⟩
theorem dX9_themeOf_64 : AtI mX9_themeOf 64 4 66 := Or.inl ⟨by decide +kernel, rfl⟩
theorem dX9_themeOf_66 : AtJ mX9_themeOf 66 (.ifCond .eq) 69 92 := ⟨26, by decide +kernel, rfl, by decide⟩
theorem dX9_themeOf_69 : AtA mX9_themeOf 69 0 70 := Or.inr ⟨0, by decide +kernel, rfl, rfl⟩
theorem dX9_themeOf_70 : AtF mX9_themeOf 70 9 2 73 := ⟨19, (RX9, TX9, 7), by decide +kernel, rfl, rfl, by decide, Or.inl (Or.inl ⟨155, by decide +kernel⟩)⟩
theorem dX9_themeOf_73 : AtI mX9_themeOf 73 3 74 := Or.inr ⟨3, by decide +kernel, rfl, rfl⟩
theorem dX9_themeOf_74 : AtV mX9_themeOf 74 mJx4a65c_get_915e3 1 0 77 := ⟨109, 183, 184, 185, (RJx4a65c, TJx4a65c, 3), by decide +kernel, rfl, rfl, by decide +kernel, by decide +kernel, by decide +kernel, rfl, ⟨⟨186, by decide +kernel⟩, ⟨59, by decide +kernel⟩, ⟨by decide, by decide⟩, by decide +kernel, by decide, by decide⟩⟩
theorem dX9_themeOf_77 : AtC mX9_themeOf 77 1 80 := ⟨165, 646, (RX1, TX1, 5), by decide +kernel, rfl, rfl, by decide +kernel⟩
theorem dX9_themeOf_80 : AtF mX9_themeOf 80 1 4 83 := ⟨178, (RX1, TX1, 5), by decide +kernel, rfl, rfl, by decide, Or.inr ⟨661, "Hymnwright", by decide +kernel⟩⟩
theorem dX9_themeOf_83 : AtI mX9_themeOf 83 1 84 := Or.inr ⟨1, by decide +kernel, rfl, rfl⟩
theorem dX9_themeOf_84 : AtK mX9_themeOf 84 (iZ 3) 85 := Or.inl ⟨3, by decide +kernel, by decide, rfl⟩
theorem dX9_themeOf_85 : At mX9_themeOf 85 .irem 1 86 := ⟨by decide +kernel, rfl⟩
theorem dX9_themeOf_86 : AtVN mX9_themeOf 86 mX2_themeIn 1 2 89 := ⟨288, 787, 709, 18, (RX2, TX2, 1), "Hymnwright", by decide +kernel, rfl, rfl, by decide +kernel, by decide +kernel, by decide +kernel, rfl, ⟨⟨710, by decide +kernel⟩, ⟨60, by decide +kernel⟩, ⟨by decide, by decide⟩, by decide +kernel, by decide, by decide⟩⟩
theorem dX9_themeOf_89 : AtG mX9_themeOf 89 94 := ⟨5, by decide +kernel, by decide⟩
theorem dX9_themeOf_92 : AtK mX9_themeOf 92 (iZ (-100)) 94 := Or.inr (Or.inl ⟨(-100), by decide +kernel, by decide, rfl⟩)
theorem dX9_themeOf_94 : At mX9_themeOf 94 .ireturn 1 95 := ⟨by decide +kernel, rfl⟩
theorem dX9_reasonAgainst_0 : AtA mX9_reasonAgainst 0 1 1 := Or.inr ⟨1, by decide +kernel, rfl, rfl⟩
theorem dX9_reasonAgainst_1 : AtI mX9_reasonAgainst 1 2 2 := Or.inr ⟨2, by decide +kernel, rfl, rfl⟩
theorem dX9_reasonAgainst_2 : AtVN mX9_reasonAgainst 2 mX6_hasTheme 1 6 5 := ⟨291, 801, 803, 28, (RX6, TX6, 4), "Hymnwright", by decide +kernel, rfl, rfl, by decide +kernel, by decide +kernel, by decide +kernel, rfl, ⟨⟨804, by decide +kernel⟩, ⟨69, by decide +kernel⟩, ⟨by decide, by decide⟩, by decide +kernel, by decide, by decide⟩⟩
theorem dX9_reasonAgainst_5 : AtJ mX9_reasonAgainst 5 (.ifCond .ne) 8 10 := ⟨5, by decide +kernel, rfl, by decide⟩
theorem dX9_reasonAgainst_8 : AtK mX9_reasonAgainst 8 (iZ 1) 9 := Or.inl ⟨1, by decide +kernel, by decide, rfl⟩
theorem dX9_reasonAgainst_9 : At mX9_reasonAgainst 9 .ireturn 1 10 := ⟨by decide +kernel, rfl⟩
theorem dX9_reasonAgainst_10 : AtA mX9_reasonAgainst 10 1 11 := Or.inr ⟨1, by decide +kernel, rfl, rfl⟩
theorem dX9_reasonAgainst_11 : AtF mX9_reasonAgainst 11 6 2 14 := ⟨123, (RX6, TX6, 4), by decide +kernel, rfl, rfl, by decide, Or.inr ⟨351, "Hymnwright", by decide +kernel⟩⟩
theorem dX9_reasonAgainst_14 : AtI mX9_reasonAgainst 14 3 15 := Or.inr ⟨3, by decide +kernel, rfl, rfl⟩
theorem dX9_reasonAgainst_15 : AtVN mX9_reasonAgainst 15 mX3_isFreeIn 1 3 18 := ⟨285, 555, 557, 13, (RX3, TX3, 2), "Hymnwright", by decide +kernel, rfl, rfl, by decide +kernel, by decide +kernel, by decide +kernel, rfl, ⟨⟨558, by decide +kernel⟩, ⟨71, by decide +kernel⟩, ⟨by decide, by decide⟩, by decide +kernel, by decide, by decide⟩⟩
theorem dX9_reasonAgainst_18 : AtJ mX9_reasonAgainst 18 (.ifCond .ne) 21 23 := ⟨5, by decide +kernel, rfl, by decide⟩
theorem dX9_reasonAgainst_21 : AtK mX9_reasonAgainst 21 (iZ 2) 22 := Or.inl ⟨2, by decide +kernel, by decide, rfl⟩
theorem dX9_reasonAgainst_22 : At mX9_reasonAgainst 22 .ireturn 1 23 := ⟨by decide +kernel, rfl⟩
theorem dX9_reasonAgainst_23 : AtA mX9_reasonAgainst 23 0 24 := Or.inr ⟨0, by decide +kernel, rfl, rfl⟩
theorem dX9_reasonAgainst_24 : AtA mX9_reasonAgainst 24 1 25 := Or.inr ⟨1, by decide +kernel, rfl, rfl⟩
theorem dX9_reasonAgainst_25 : AtK mX9_reasonAgainst 25 (iZ 1) 26 := Or.inl ⟨1, by decide +kernel, by decide, rfl⟩
theorem dX9_reasonAgainst_26 : AtI mX9_reasonAgainst 26 3 27 := Or.inr ⟨3, by decide +kernel, rfl, rfl⟩
theorem dX9_reasonAgainst_27 : AtV mX9_reasonAgainst 27 mX9_bestTune 3 9 30 := ⟨102, 551, 553, 12, (RX9, TX9, 7), by decide +kernel, rfl, rfl, by decide +kernel, by decide +kernel, by decide +kernel, rfl, ⟨⟨554, by decide +kernel⟩, ⟨56, by decide +kernel⟩, ⟨by decide, by decide⟩, by decide +kernel, by decide, by decide⟩⟩
theorem dX9_reasonAgainst_30 : AtJ mX9_reasonAgainst 30 .ifnonnull 33 35 := ⟨5, by decide +kernel, rfl, by decide⟩
theorem dX9_reasonAgainst_33 : AtK mX9_reasonAgainst 33 (iZ 3) 34 := Or.inl ⟨3, by decide +kernel, by decide, rfl⟩
theorem dX9_reasonAgainst_34 : At mX9_reasonAgainst 34 .ireturn 1 35 := ⟨by decide +kernel, rfl⟩
theorem dX9_reasonAgainst_35 : AtA mX9_reasonAgainst 35 0 36 := Or.inr ⟨0, by decide +kernel, rfl, rfl⟩
theorem dX9_reasonAgainst_36 : AtA mX9_reasonAgainst 36 1 37 := Or.inr ⟨1, by decide +kernel, rfl, rfl⟩
theorem dX9_reasonAgainst_37 : AtI mX9_reasonAgainst 37 4 39 := Or.inl ⟨by decide +kernel, rfl⟩
theorem dX9_reasonAgainst_39 : AtV mX9_reasonAgainst 39 mX9_wasSungLately 2 9 42 := ⟨294, 805, 807, 29, (RX9, TX9, 7), by decide +kernel, rfl, rfl, by decide +kernel, by decide +kernel, by decide +kernel, rfl, ⟨⟨808, by decide +kernel⟩, ⟨56, by decide +kernel⟩, ⟨by decide, by decide⟩, by decide +kernel, by decide, by decide⟩⟩
theorem dX9_reasonAgainst_42 : AtJ mX9_reasonAgainst 42 (.ifCond .eq) 45 49 := ⟨7, by decide +kernel, rfl, by decide⟩
theorem dX9_reasonAgainst_45 : AtK mX9_reasonAgainst 45 (iZ 4) 46 := Or.inl ⟨4, by decide +kernel, by decide, rfl⟩
theorem dX9_reasonAgainst_46 : AtG mX9_reasonAgainst 46 50 := ⟨4, by decide +kernel, by decide⟩
theorem dX9_reasonAgainst_49 : AtK mX9_reasonAgainst 49 (iZ 0) 50 := Or.inl ⟨0, by decide +kernel, by decide, rfl⟩
theorem dX9_reasonAgainst_50 : At mX9_reasonAgainst 50 .ireturn 1 51 := ⟨by decide +kernel, rfl⟩
theorem dX9_wasSungLately_0 : AtK mX9_wasSungLately 0 (iZ 0) 1 := Or.inl ⟨0, by decide +kernel, by decide, rfl⟩
theorem dX9_wasSungLately_1 : AtSI mX9_wasSungLately 1 3 2 := ⟨Or.inr ⟨3, by decide +kernel, rfl, rfl⟩, by decide⟩
theorem dX9_wasSungLately_2 : AtI mX9_wasSungLately 2 3 3 := Or.inr ⟨3, by decide +kernel, rfl, rfl⟩
theorem dX9_wasSungLately_3 : AtA mX9_wasSungLately 3 0 4 := Or.inr ⟨0, by decide +kernel, rfl, rfl⟩
theorem dX9_wasSungLately_4 : AtF mX9_wasSungLately 4 9 3 7 := ⟨22, (RX9, TX9, 7), by decide +kernel, rfl, rfl, by decide, Or.inl (Or.inl ⟨156, by decide +kernel⟩)⟩
theorem dX9_wasSungLately_7 : AtV mX9_wasSungLately 7 mJx4a65c_size_8abf5 0 0 10 := ⟨48, 179, 180, 181, (RJx4a65c, TJx4a65c, 3), by decide +kernel, rfl, rfl, by decide +kernel, by decide +kernel, by decide +kernel, rfl, ⟨⟨182, by decide +kernel⟩, ⟨59, by decide +kernel⟩, ⟨by decide, by decide⟩, by decide +kernel, by decide, by decide⟩⟩
theorem dX9_wasSungLately_10 : AtJ mX9_wasSungLately 10 (.if_icmp .ge) 13 64 := ⟨54, by decide +kernel, rfl, by decide⟩
theorem dX9_wasSungLately_13 : AtA mX9_wasSungLately 13 0 14 := Or.inr ⟨0, by decide +kernel, rfl, rfl⟩
theorem dX9_wasSungLately_14 : AtF mX9_wasSungLately 14 9 3 17 := ⟨22, (RX9, TX9, 7), by decide +kernel, rfl, rfl, by decide, Or.inl (Or.inl ⟨156, by decide +kernel⟩)⟩
theorem dX9_wasSungLately_17 : AtI mX9_wasSungLately 17 3 18 := Or.inr ⟨3, by decide +kernel, rfl, rfl⟩
theorem dX9_wasSungLately_18 : AtV mX9_wasSungLately 18 mJx4a65c_get_915e3 1 0 21 := ⟨109, 183, 184, 185, (RJx4a65c, TJx4a65c, 3), by decide +kernel, rfl, rfl, by decide +kernel, by decide +kernel, by decide +kernel, rfl, ⟨⟨186, by decide +kernel⟩, ⟨59, by decide +kernel⟩, ⟨by decide, by decide⟩, by decide +kernel, by decide, by decide⟩⟩
theorem dX9_wasSungLately_21 : AtC mX9_wasSungLately 21 5 24 := ⟨228, 809, (RX5, TX5, 5), by decide +kernel, rfl, rfl, by decide +kernel⟩
theorem dX9_wasSungLately_24 : AtSA mX9_wasSungLately 24 4 26 := ⟨Or.inl ⟨by decide +kernel, rfl⟩, by decide⟩
theorem dX9_wasSungLately_26 : AtI mX9_wasSungLately 26 2 27 := Or.inr ⟨2, by decide +kernel, rfl, rfl⟩
theorem dX9_wasSungLately_27 : AtA mX9_wasSungLately 27 4 29 := Or.inl ⟨by decide +kernel, rfl⟩
theorem dX9_wasSungLately_29 : AtF mX9_wasSungLately 29 5 4 32 := ⟨298, (RX5, TX5, 5), by decide +kernel, rfl, rfl, by decide, Or.inr ⟨849, "Hymnwright", by decide +kernel⟩⟩
theorem dX9_wasSungLately_32 : At mX9_wasSungLately 32 .isub 1 33 := ⟨by decide +kernel, rfl⟩
theorem dX9_wasSungLately_33 : AtSI mX9_wasSungLately 33 5 35 := ⟨Or.inl ⟨by decide +kernel, rfl⟩, by decide⟩
theorem dX9_wasSungLately_35 : AtA mX9_wasSungLately 35 4 37 := Or.inl ⟨by decide +kernel, rfl⟩
theorem dX9_wasSungLately_37 : AtF mX9_wasSungLately 37 5 0 40 := ⟨234, (RX5, TX5, 5), by decide +kernel, rfl, rfl, by decide, Or.inr ⟨841, "Hymnwright", by decide +kernel⟩⟩
theorem dX9_wasSungLately_40 : AtA mX9_wasSungLately 40 1 41 := Or.inr ⟨1, by decide +kernel, rfl, rfl⟩
theorem dX9_wasSungLately_41 : AtJ mX9_wasSungLately 41 (.if_acmp .ne) 44 58 := ⟨17, by decide +kernel, rfl, by decide⟩
theorem dX9_wasSungLately_44 : AtI mX9_wasSungLately 44 5 46 := Or.inl ⟨by decide +kernel, rfl⟩
theorem dX9_wasSungLately_46 : AtJ mX9_wasSungLately 46 (.ifCond .lt) 49 58 := ⟨12, by decide +kernel, rfl, by decide⟩
theorem dX9_wasSungLately_49 : AtI mX9_wasSungLately 49 5 51 := Or.inl ⟨by decide +kernel, rfl⟩
theorem dX9_wasSungLately_51 : AtK mX9_wasSungLately 51 (iZ 28) 53 := Or.inr (Or.inl ⟨28, by decide +kernel, by decide, rfl⟩)
theorem dX9_wasSungLately_53 : AtJ mX9_wasSungLately 53 (.if_icmp .gt) 56 58 := ⟨5, by decide +kernel, rfl, by decide⟩
theorem dX9_wasSungLately_56 : AtK mX9_wasSungLately 56 (iZ 1) 57 := Or.inl ⟨1, by decide +kernel, by decide, rfl⟩
theorem dX9_wasSungLately_57 : At mX9_wasSungLately 57 .ireturn 1 58 := ⟨by decide +kernel, rfl⟩
theorem dX9_wasSungLately_58 : AtInc mX9_wasSungLately 58 3 (iZ 1) 61 := ⟨1, by decide +kernel, by decide, rfl, by decide⟩
theorem dX9_wasSungLately_61 : AtG mX9_wasSungLately 61 2 := ⟨(-59), by decide +kernel, by decide⟩
theorem dX9_wasSungLately_64 : AtK mX9_wasSungLately 64 (iZ 0) 65 := Or.inl ⟨0, by decide +kernel, by decide, rfl⟩
theorem dX9_wasSungLately_65 : At mX9_wasSungLately 65 .ireturn 1 66 := ⟨by decide +kernel, rfl⟩
theorem dX9_chooseText_0 : At mX9_chooseText 0 .aconst_null 1 1 := ⟨by decide +kernel, rfl⟩
theorem dX9_chooseText_1 : AtSA mX9_chooseText 1 4 3 := ⟨Or.inl ⟨by decide +kernel, rfl⟩, by decide⟩
theorem dX9_chooseText_3 : AtK mX9_chooseText 3 (iZ 0) 4 := Or.inl ⟨0, by decide +kernel, by decide, rfl⟩
theorem dX9_chooseText_4 : AtSI mX9_chooseText 4 5 6 := ⟨Or.inl ⟨by decide +kernel, rfl⟩, by decide⟩
theorem dX9_chooseText_6 : AtK mX9_chooseText 6 (iZ 0) 7 := Or.inl ⟨0, by decide +kernel, by decide, rfl⟩
theorem dX9_chooseText_7 : AtSI mX9_chooseText 7 6 9 := ⟨Or.inl ⟨by decide +kernel, rfl⟩, by decide⟩
theorem dX9_chooseText_9 : AtK mX9_chooseText 9 (iZ 0) 10 := Or.inl ⟨0, by decide +kernel, by decide, rfl⟩
theorem dX9_chooseText_10 : AtSI mX9_chooseText 10 7 12 := ⟨Or.inl ⟨by decide +kernel, rfl⟩, by decide⟩
theorem dX9_chooseText_12 : AtI mX9_chooseText 12 7 14 := Or.inl ⟨by decide +kernel, rfl⟩
theorem dX9_chooseText_14 : AtA mX9_chooseText 14 0 15 := Or.inr ⟨0, by decide +kernel, rfl, rfl⟩
theorem dX9_chooseText_15 : AtF mX9_chooseText 15 9 0 18 := ⟨10, (RX9, TX9, 7), by decide +kernel, rfl, rfl, by decide, Or.inl (Or.inl ⟨153, by decide +kernel⟩)⟩
theorem dX9_chooseText_18 : AtV mX9_chooseText 18 mJx4a65c_size_8abf5 0 0 21 := ⟨48, 179, 180, 181, (RJx4a65c, TJx4a65c, 3), by decide +kernel, rfl, rfl, by decide +kernel, by decide +kernel, by decide +kernel, rfl, ⟨⟨182, by decide +kernel⟩, ⟨59, by decide +kernel⟩, ⟨by decide, by decide⟩, by decide +kernel, by decide, by decide⟩⟩
theorem dX9_chooseText_21 : AtJ mX9_chooseText 21 (.if_icmp .ge) 24 138 := ⟨117, by decide +kernel, rfl, by decide⟩
theorem dX9_chooseText_24 : AtA mX9_chooseText 24 0 25 := Or.inr ⟨0, by decide +kernel, rfl, rfl⟩
theorem dX9_chooseText_25 : AtF mX9_chooseText 25 9 0 28 := ⟨10, (RX9, TX9, 7), by decide +kernel, rfl, rfl, by decide, Or.inl (Or.inl ⟨153, by decide +kernel⟩)⟩
theorem dX9_chooseText_28 : AtI mX9_chooseText 28 7 30 := Or.inl ⟨by decide +kernel, rfl⟩
theorem dX9_chooseText_30 : AtV mX9_chooseText 30 mJx4a65c_get_915e3 1 0 33 := ⟨109, 183, 184, 185, (RJx4a65c, TJx4a65c, 3), by decide +kernel, rfl, rfl, by decide +kernel, by decide +kernel, by decide +kernel, rfl, ⟨⟨186, by decide +kernel⟩, ⟨59, by decide +kernel⟩, ⟨by decide, by decide⟩, by decide +kernel, by decide, by decide⟩⟩
theorem dX9_chooseText_33 : AtC mX9_chooseText 33 6 36 := ⟨59, 312, (RX6, TX6, 4), by decide +kernel, rfl, rfl, by decide +kernel⟩
theorem dX9_chooseText_36 : AtSA mX9_chooseText 36 8 38 := ⟨Or.inl ⟨by decide +kernel, rfl⟩, by decide⟩
theorem dX9_chooseText_38 : AtA mX9_chooseText 38 0 39 := Or.inr ⟨0, by decide +kernel, rfl, rfl⟩
theorem dX9_chooseText_39 : AtA mX9_chooseText 39 8 41 := Or.inl ⟨by decide +kernel, rfl⟩
theorem dX9_chooseText_41 : AtK mX9_chooseText 41 (iZ 1) 42 := Or.inl ⟨1, by decide +kernel, by decide, rfl⟩
theorem dX9_chooseText_42 : AtI mX9_chooseText 42 2 43 := Or.inr ⟨2, by decide +kernel, rfl, rfl⟩
theorem dX9_chooseText_43 : AtV mX9_chooseText 43 mX9_bestTune 3 9 46 := ⟨102, 551, 553, 12, (RX9, TX9, 7), by decide +kernel, rfl, rfl, by decide +kernel, by decide +kernel, by decide +kernel, rfl, ⟨⟨554, by decide +kernel⟩, ⟨56, by decide +kernel⟩, ⟨by decide, by decide⟩, by decide +kernel, by decide, by decide⟩⟩
theorem dX9_chooseText_46 : AtSA mX9_chooseText 46 9 48 := ⟨Or.inl ⟨by decide +kernel, rfl⟩, by decide⟩
theorem dX9_chooseText_48 : AtA mX9_chooseText 48 9 50 := Or.inl ⟨by decide +kernel, rfl⟩
theorem dX9_chooseText_50 : AtJ mX9_chooseText 50 .ifnull 53 132 := ⟨82, by decide +kernel, rfl, by decide⟩
theorem dX9_chooseText_53 : AtA mX9_chooseText 53 0 54 := Or.inr ⟨0, by decide +kernel, rfl, rfl⟩
theorem dX9_chooseText_54 : AtA mX9_chooseText 54 8 56 := Or.inl ⟨by decide +kernel, rfl⟩
theorem dX9_chooseText_56 : AtI mX9_chooseText 56 1 57 := Or.inr ⟨1, by decide +kernel, rfl, rfl⟩
theorem dX9_chooseText_57 : AtI mX9_chooseText 57 2 58 := Or.inr ⟨2, by decide +kernel, rfl, rfl⟩
theorem dX9_chooseText_58 : AtI mX9_chooseText 58 3 59 := Or.inr ⟨3, by decide +kernel, rfl, rfl⟩
theorem dX9_chooseText_59 : AtV mX9_chooseText 59 mX9_reasonAgainst 4 9 62 := ⟨212, 797, 799, 27, (RX9, TX9, 7), by decide +kernel, rfl, rfl, by decide +kernel, by decide +kernel, by decide +kernel, rfl, ⟨⟨800, by decide +kernel⟩, ⟨56, by decide +kernel⟩, ⟨by decide, by decide⟩, by decide +kernel, by decide, by decide⟩⟩
theorem dX9_chooseText_62 : AtJ mX9_chooseText 62 (.ifCond .ne) 65 132 := ⟨70, by decide +kernel, rfl, by decide⟩
theorem dX9_chooseText_65 : AtA mX9_chooseText 65 0 66 := Or.inr ⟨0, by decide +kernel, rfl, rfl⟩
theorem dX9_chooseText_66 : AtA mX9_chooseText 66 8 68 := Or.inl ⟨by decide +kernel, rfl⟩
theorem dX9_chooseText_68 : AtV mX9_chooseText 68 mX9_countServices 1 9 71 := ⟨252, 830, 832, 32, (RX9, TX9, 7), by decide +kernel, rfl, rfl, by decide +kernel, by decide +kernel, by decide +kernel, rfl, ⟨⟨833, by decide +kernel⟩, ⟨56, by decide +kernel⟩, ⟨by decide, by decide⟩, by decide +kernel, by decide, by decide⟩⟩
theorem dX9_chooseText_71 : AtSI mX9_chooseText 71 10 73 := ⟨Or.inl ⟨by decide +kernel, rfl⟩, by decide⟩
theorem dX9_chooseText_73 : AtA mX9_chooseText 73 8 75 := Or.inl ⟨by decide +kernel, rfl⟩
theorem dX9_chooseText_75 : AtA mX9_chooseText 75 9 77 := Or.inl ⟨by decide +kernel, rfl⟩
theorem dX9_chooseText_77 : AtS mX9_chooseText 77 mX9_countClashes 2 80 := ⟨99, 531, 532, by decide +kernel, rfl, by decide +kernel, by decide +kernel, rfl, ⟨⟨533, by decide +kernel⟩, ⟨56, by decide +kernel⟩, ⟨by decide, by decide⟩, by decide +kernel, by decide, by decide⟩⟩
theorem dX9_chooseText_80 : AtSI mX9_chooseText 80 11 82 := ⟨Or.inl ⟨by decide +kernel, rfl⟩, by decide⟩
theorem dX9_chooseText_82 : AtI mX9_chooseText 82 10 84 := Or.inl ⟨by decide +kernel, rfl⟩
theorem dX9_chooseText_84 : AtI mX9_chooseText 84 5 86 := Or.inl ⟨by decide +kernel, rfl⟩
theorem dX9_chooseText_86 : AtJ mX9_chooseText 86 (.if_icmp .gt) 89 103 := ⟨17, by decide +kernel, rfl, by decide⟩
theorem dX9_chooseText_89 : AtI mX9_chooseText 89 10 91 := Or.inl ⟨by decide +kernel, rfl⟩
theorem dX9_chooseText_91 : AtI mX9_chooseText 91 5 93 := Or.inl ⟨by decide +kernel, rfl⟩
theorem dX9_chooseText_93 : AtJ mX9_chooseText 93 (.if_icmp .ne) 96 107 := ⟨14, by decide +kernel, rfl, by decide⟩
theorem dX9_chooseText_96 : AtI mX9_chooseText 96 11 98 := Or.inl ⟨by decide +kernel, rfl⟩
theorem dX9_chooseText_98 : AtI mX9_chooseText 98 6 100 := Or.inl ⟨by decide +kernel, rfl⟩
theorem dX9_chooseText_100 : AtJ mX9_chooseText 100 (.if_icmp .ge) 103 107 := ⟨7, by decide +kernel, rfl, by decide⟩
theorem dX9_chooseText_103 : AtK mX9_chooseText 103 (iZ 1) 104 := Or.inl ⟨1, by decide +kernel, by decide, rfl⟩
theorem dX9_chooseText_104 : AtG mX9_chooseText 104 108 := ⟨4, by decide +kernel, by decide⟩
theorem dX9_chooseText_107 : AtK mX9_chooseText 107 (iZ 0) 108 := Or.inl ⟨0, by decide +kernel, by decide, rfl⟩
theorem dX9_chooseText_108 : AtSI mX9_chooseText 108 12 110 := ⟨Or.inl ⟨by decide +kernel, rfl⟩, by decide⟩
theorem dX9_chooseText_110 : AtA mX9_chooseText 110 4 112 := Or.inl ⟨by decide +kernel, rfl⟩
theorem dX9_chooseText_112 : AtJ mX9_chooseText 112 .ifnull 115 120 := ⟨8, by decide +kernel, rfl, by decide⟩
theorem dX9_chooseText_115 : AtI mX9_chooseText 115 12 117 := Or.inl ⟨by decide +kernel, rfl⟩
theorem dX9_chooseText_117 : AtJ mX9_chooseText 117 (.ifCond .eq) 120 132 := ⟨15, by decide +kernel, rfl, by decide⟩
theorem dX9_chooseText_120 : AtA mX9_chooseText 120 8 122 := Or.inl ⟨by decide +kernel, rfl⟩
theorem dX9_chooseText_122 : AtSA mX9_chooseText 122 4 124 := ⟨Or.inl ⟨by decide +kernel, rfl⟩, by decide⟩
theorem dX9_chooseText_124 : AtI mX9_chooseText 124 10 126 := Or.inl ⟨by decide +kernel, rfl⟩
theorem dX9_chooseText_126 : AtSI mX9_chooseText 126 5 128 := ⟨Or.inl ⟨by decide +kernel, rfl⟩, by decide⟩
theorem dX9_chooseText_128 : AtI mX9_chooseText 128 11 130 := Or.inl ⟨by decide +kernel, rfl⟩
theorem dX9_chooseText_130 : AtSI mX9_chooseText 130 6 132 := ⟨Or.inl ⟨by decide +kernel, rfl⟩, by decide⟩
theorem dX9_chooseText_132 : AtInc mX9_chooseText 132 7 (iZ 1) 135 := ⟨1, by decide +kernel, by decide, rfl, by decide⟩
theorem dX9_chooseText_135 : AtG mX9_chooseText 135 12 := ⟨(-123), by decide +kernel, by decide⟩
theorem dX9_chooseText_138 : AtA mX9_chooseText 138 4 140 := Or.inl ⟨by decide +kernel, rfl⟩
theorem dX9_chooseText_140 : At mX9_chooseText 140 .areturn 1 141 := ⟨by decide +kernel, rfl⟩
theorem dX9_countServices_0 : AtK mX9_countServices 0 (iZ 0) 1 := Or.inl ⟨0, by decide +kernel, by decide, rfl⟩
theorem dX9_countServices_1 : AtSI mX9_countServices 1 2 2 := ⟨Or.inr ⟨2, by decide +kernel, rfl, rfl⟩, by decide⟩
theorem dX9_countServices_2 : AtK mX9_countServices 2 (iZ 0) 3 := Or.inl ⟨0, by decide +kernel, by decide, rfl⟩
theorem dX9_countServices_3 : AtSI mX9_countServices 3 3 4 := ⟨Or.inr ⟨3, by decide +kernel, rfl, rfl⟩, by decide⟩
theorem dX9_countServices_4 : AtI mX9_countServices 4 3 5 := Or.inr ⟨3, by decide +kernel, rfl, rfl⟩
theorem dX9_countServices_5 : AtA mX9_countServices 5 0 6 := Or.inr ⟨0, by decide +kernel, rfl, rfl⟩
theorem dX9_countServices_6 : AtF mX9_countServices 6 9 3 9 := ⟨22, (RX9, TX9, 7), by decide +kernel, rfl, rfl, by decide, Or.inl (Or.inl ⟨156, by decide +kernel⟩)⟩
theorem dX9_countServices_9 : AtV mX9_countServices 9 mJx4a65c_size_8abf5 0 0 12 := ⟨48, 179, 180, 181, (RJx4a65c, TJx4a65c, 3), by decide +kernel, rfl, rfl, by decide +kernel, by decide +kernel, by decide +kernel, rfl, ⟨⟨182, by decide +kernel⟩, ⟨59, by decide +kernel⟩, ⟨by decide, by decide⟩, by decide +kernel, by decide, by decide⟩⟩
theorem dX9_countServices_12 : AtJ mX9_countServices 12 (.if_icmp .ge) 15 42 := ⟨30, by decide +kernel, rfl, by decide⟩
theorem dX9_countServices_15 : AtA mX9_countServices 15 0 16 := Or.inr ⟨0, by decide +kernel, rfl, rfl⟩
theorem dX9_countServices_16 : AtF mX9_countServices 16 9 3 19 := ⟨22, (RX9, TX9, 7), by decide +kernel, rfl, rfl, by decide, Or.inl (Or.inl ⟨156, by decide +kernel⟩)⟩
theorem dX9_countServices_19 : AtI mX9_countServices 19 3 20 := Or.inr ⟨3, by decide +kernel, rfl, rfl⟩
theorem dX9_countServices_20 : AtV mX9_countServices 20 mJx4a65c_get_915e3 1 0 23 := ⟨109, 183, 184, 185, (RJx4a65c, TJx4a65c, 3), by decide +kernel, rfl, rfl, by decide +kernel, by decide +kernel, by decide +kernel, rfl, ⟨⟨186, by decide +kernel⟩, ⟨59, by decide +kernel⟩, ⟨by decide, by decide⟩, by decide +kernel, by decide, by decide⟩⟩
theorem dX9_countServices_23 : AtC mX9_countServices 23 5 26 := ⟨228, 809, (RX5, TX5, 5), by decide +kernel, rfl, rfl, by decide +kernel⟩
theorem dX9_countServices_26 : AtF mX9_countServices 26 5 0 29 := ⟨234, (RX5, TX5, 5), by decide +kernel, rfl, rfl, by decide, Or.inr ⟨841, "Hymnwright", by decide +kernel⟩⟩
theorem dX9_countServices_29 : AtA mX9_countServices 29 1 30 := Or.inr ⟨1, by decide +kernel, rfl, rfl⟩
theorem dX9_countServices_30 : AtJ mX9_countServices 30 (.if_acmp .ne) 33 36 := ⟨6, by decide +kernel, rfl, by decide⟩
theorem dX9_countServices_33 : AtInc mX9_countServices 33 2 (iZ 1) 36 := ⟨1, by decide +kernel, by decide, rfl, by decide⟩
theorem dX9_countServices_36 : AtInc mX9_countServices 36 3 (iZ 1) 39 := ⟨1, by decide +kernel, by decide, rfl, by decide⟩
theorem dX9_countServices_39 : AtG mX9_countServices 39 4 := ⟨(-35), by decide +kernel, by decide⟩
theorem dX9_countServices_42 : AtI mX9_countServices 42 2 43 := Or.inr ⟨2, by decide +kernel, rfl, rfl⟩
theorem dX9_countServices_43 : At mX9_countServices 43 .ireturn 1 44 := ⟨by decide +kernel, rfl⟩
theorem dX9_isBehindLatestService_0 : AtA mX9_isBehindLatestService 0 0 1 := Or.inr ⟨0, by decide +kernel, rfl, rfl⟩
theorem dX9_isBehindLatestService_1 : AtF mX9_isBehindLatestService 1 9 3 4 := ⟨22, (RX9, TX9, 7), by decide +kernel, rfl, rfl, by decide, Or.inl (Or.inl ⟨156, by decide +kernel⟩)⟩
theorem dX9_isBehindLatestService_4 : AtV mX9_isBehindLatestService 4 mJx4a65c_isEmpty_aae02 0 0 7 := ⟨300, 821, 822, 823, (RJx4a65c, TJx4a65c, 3), by decide +kernel, rfl, rfl, by decide +kernel, by decide +kernel, by decide +kernel, rfl, ⟨⟨824, by decide +kernel⟩, ⟨59, by decide +kernel⟩, ⟨by decide, by decide⟩, by decide +kernel, by decide, by decide⟩⟩
theorem dX9_isBehindLatestService_7 : AtJ mX9_isBehindLatestService 7 (.ifCond .ne) 10 36 := ⟨29, by decide +kernel, rfl, by decide⟩
theorem dX9_isBehindLatestService_10 : AtA mX9_isBehindLatestService 10 0 11 := Or.inr ⟨0, by decide +kernel, rfl, rfl⟩
theorem dX9_isBehindLatestService_11 : AtF mX9_isBehindLatestService 11 9 3 14 := ⟨22, (RX9, TX9, 7), by decide +kernel, rfl, rfl, by decide, Or.inl (Or.inl ⟨156, by decide +kernel⟩)⟩
theorem dX9_isBehindLatestService_14 : AtA mX9_isBehindLatestService 14 0 15 := Or.inr ⟨0, by decide +kernel, rfl, rfl⟩
theorem dX9_isBehindLatestService_15 : AtF mX9_isBehindLatestService 15 9 3 18 := ⟨22, (RX9, TX9, 7), by decide +kernel, rfl, rfl, by decide, Or.inl (Or.inl ⟨156, by decide +kernel⟩)⟩
theorem dX9_isBehindLatestService_18 : AtV mX9_isBehindLatestService 18 mJx4a65c_size_8abf5 0 0 21 := ⟨48, 179, 180, 181, (RJx4a65c, TJx4a65c, 3), by decide +kernel, rfl, rfl, by decide +kernel, by decide +kernel, by decide +kernel, rfl, ⟨⟨182, by decide +kernel⟩, ⟨59, by decide +kernel⟩, ⟨by decide, by decide⟩, by decide +kernel, by decide, by decide⟩⟩
theorem dX9_isBehindLatestService_21 : AtK mX9_isBehindLatestService 21 (iZ 1) 22 := Or.inl ⟨1, by decide +kernel, by decide, rfl⟩
theorem dX9_isBehindLatestService_22 : At mX9_isBehindLatestService 22 .isub 1 23 := ⟨by decide +kernel, rfl⟩
theorem dX9_isBehindLatestService_23 : AtV mX9_isBehindLatestService 23 mJx4a65c_get_915e3 1 0 26 := ⟨109, 183, 184, 185, (RJx4a65c, TJx4a65c, 3), by decide +kernel, rfl, rfl, by decide +kernel, by decide +kernel, by decide +kernel, rfl, ⟨⟨186, by decide +kernel⟩, ⟨59, by decide +kernel⟩, ⟨by decide, by decide⟩, by decide +kernel, by decide, by decide⟩⟩
theorem dX9_isBehindLatestService_26 : AtC mX9_isBehindLatestService 26 5 29 := ⟨228, 809, (RX5, TX5, 5), by decide +kernel, rfl, rfl, by decide +kernel⟩
theorem dX9_isBehindLatestService_29 : AtF mX9_isBehindLatestService 29 5 4 32 := ⟨298, (RX5, TX5, 5), by decide +kernel, rfl, rfl, by decide, Or.inr ⟨849, "Hymnwright", by decide +kernel⟩⟩
theorem dX9_isBehindLatestService_32 : AtI mX9_isBehindLatestService 32 1 33 := Or.inr ⟨1, by decide +kernel, rfl, rfl⟩
theorem dX9_isBehindLatestService_33 : AtJ mX9_isBehindLatestService 33 (.if_icmp .ge) 36 40 := ⟨7, by decide +kernel, rfl, by decide⟩
theorem dX9_isBehindLatestService_36 : AtK mX9_isBehindLatestService 36 (iZ 1) 37 := Or.inl ⟨1, by decide +kernel, by decide, rfl⟩
theorem dX9_isBehindLatestService_37 : AtG mX9_isBehindLatestService 37 41 := ⟨4, by decide +kernel, by decide⟩
theorem dX9_isBehindLatestService_40 : AtK mX9_isBehindLatestService 40 (iZ 0) 41 := Or.inl ⟨0, by decide +kernel, by decide, rfl⟩
theorem dX9_isBehindLatestService_41 : At mX9_isBehindLatestService 41 .ireturn 1 42 := ⟨by decide +kernel, rfl⟩
end
section
/-! what stands at each pc (printed) -/
theorem dX10_init_0 : AtA mX10_init 0 0 1 := Or.inr ⟨0, by decide +kernel, rfl, rfl⟩
theorem dX10_init_1 : AtO mX10_init 1 4 := ⟨1, 881, 89, 90, by decide +kernel, rfl, by decide +kernel, by decide +kernel, by decide +kernel, by decide, by decide⟩
theorem dX10_init_4 : AtA mX10_init 4 0 5 := Or.inr ⟨0, by decide +kernel, rfl, rfl⟩
theorem dX10_init_5 : AtK mX10_init 5 (iZ 12) 7 := Or.inr (Or.inl ⟨12, by decide +kernel, by decide, rfl⟩)
theorem dX10_init_7 : AtNA mX10_init 7 0 9 := ⟨.int, 130, by decide +kernel, rfl, by decide +kernel, by decide, rfl, by decide⟩
theorem dX10_init_9 : AtP mX10_init 9 10 1 (.array .int) 12 := ⟨7, (RX10, TX10, 31), by decide +kernel, rfl, rfl, by decide, Or.inl ⟨883, by decide +kernel⟩, by decide +kernel, Or.inr ⟨rfl, rfl, rfl⟩⟩
theorem dX10_init_12 : AtA mX10_init 12 0 13 := Or.inr ⟨0, by decide +kernel, rfl, rfl⟩
theorem dX10_init_13 : AtK mX10_init 13 (iZ 12) 15 := Or.inr (Or.inl ⟨12, by decide +kernel, by decide, rfl⟩)
theorem dX10_init_15 : AtNA mX10_init 15 0 17 := ⟨.int, 130, by decide +kernel, rfl, by decide +kernel, by decide, rfl, by decide⟩
theorem dX10_init_17 : AtP mX10_init 17 10 2 (.array .int) 20 := ⟨13, (RX10, TX10, 31), by decide +kernel, rfl, rfl, by decide, Or.inl ⟨884, by decide +kernel⟩, by decide +kernel, Or.inr ⟨rfl, rfl, rfl⟩⟩
theorem dX10_init_20 : AtA mX10_init 20 0 21 := Or.inr ⟨0, by decide +kernel, rfl, rfl⟩
theorem dX10_init_21 : AtK mX10_init 21 (iZ 12) 23 := Or.inr (Or.inl ⟨12, by decide +kernel, by decide, rfl⟩)
theorem dX10_init_23 : AtNA mX10_init 23 1 25 := ⟨.boolean, 976, by decide +kernel, rfl, by decide +kernel, by decide, rfl, by decide⟩
theorem dX10_init_25 : AtP mX10_init 25 10 3 (.array .boolean) 28 := ⟨16, (RX10, TX10, 31), by decide +kernel, rfl, rfl, by decide, Or.inl ⟨885, by decide +kernel⟩, by decide +kernel, Or.inr ⟨rfl, rfl, rfl⟩⟩
theorem dX10_init_28 : AtA mX10_init 28 0 29 := Or.inr ⟨0, by decide +kernel, rfl, rfl⟩
theorem dX10_init_29 : AtK mX10_init 29 (iZ 12) 31 := Or.inr (Or.inl ⟨12, by decide +kernel, by decide, rfl⟩)
theorem dX10_init_31 : AtNA mX10_init 31 0 33 := ⟨.int, 130, by decide +kernel, rfl, by decide +kernel, by decide, rfl, by decide⟩
theorem dX10_init_33 : AtP mX10_init 33 10 4 (.array .int) 36 := ⟨20, (RX10, TX10, 31), by decide +kernel, rfl, rfl, by decide, Or.inl ⟨886, by decide +kernel⟩, by decide +kernel, Or.inr ⟨rfl, rfl, rfl⟩⟩
theorem dX10_init_36 : AtA mX10_init 36 0 37 := Or.inr ⟨0, by decide +kernel, rfl, rfl⟩
theorem dX10_init_37 : AtK mX10_init 37 (iZ 96) 39 := Or.inr (Or.inl ⟨96, by decide +kernel, by decide, rfl⟩)
theorem dX10_init_39 : AtNA mX10_init 39 0 41 := ⟨.int, 130, by decide +kernel, rfl, by decide +kernel, by decide, rfl, by decide⟩
theorem dX10_init_41 : AtP mX10_init 41 10 5 (.array .int) 44 := ⟨23, (RX10, TX10, 31), by decide +kernel, rfl, rfl, by decide, Or.inl ⟨887, by decide +kernel⟩, by decide +kernel, Or.inr ⟨rfl, rfl, rfl⟩⟩
theorem dX10_init_44 : AtA mX10_init 44 0 45 := Or.inr ⟨0, by decide +kernel, rfl, rfl⟩
theorem dX10_init_45 : AtK mX10_init 45 (iZ 96) 47 := Or.inr (Or.inl ⟨96, by decide +kernel, by decide, rfl⟩)
theorem dX10_init_47 : AtNA mX10_init 47 0 49 := ⟨.int, 130, by decide +kernel, rfl, by decide +kernel, by decide, rfl, by decide⟩
theorem dX10_init_49 : AtP mX10_init 49 10 6 (.array .int) 52 := ⟨26, (RX10, TX10, 31), by decide +kernel, rfl, rfl, by decide, Or.inl ⟨888, by decide +kernel⟩, by decide +kernel, Or.inr ⟨rfl, rfl, rfl⟩⟩
theorem dX10_init_52 : AtA mX10_init 52 0 53 := Or.inr ⟨0, by decide +kernel, rfl, rfl⟩
theorem dX10_init_53 : AtK mX10_init 53 (iZ 12) 55 := Or.inr (Or.inl ⟨12, by decide +kernel, by decide, rfl⟩)
theorem dX10_init_55 : AtNA mX10_init 55 0 57 := ⟨.int, 130, by decide +kernel, rfl, by decide +kernel, by decide, rfl, by decide⟩
theorem dX10_init_57 : AtP mX10_init 57 10 8 (.array .int) 60 := ⟨29, (RX10, TX10, 31), by decide +kernel, rfl, rfl, by decide, Or.inl ⟨890, by decide +kernel⟩, by decide +kernel, Or.inr ⟨rfl, rfl, rfl⟩⟩
theorem dX10_init_60 : AtA mX10_init 60 0 61 := Or.inr ⟨0, by decide +kernel, rfl, rfl⟩
theorem dX10_init_61 : AtK mX10_init 61 (iZ 12) 63 := Or.inr (Or.inl ⟨12, by decide +kernel, by decide, rfl⟩)
theorem dX10_init_63 : AtNA mX10_init 63 1 65 := ⟨.boolean, 976, by decide +kernel, rfl, by decide +kernel, by decide, rfl, by decide⟩
theorem dX10_init_65 : AtP mX10_init 65 10 9 (.array .boolean) 68 := ⟨32, (RX10, TX10, 31), by decide +kernel, rfl, rfl, by decide, Or.inl ⟨891, by decide +kernel⟩, by decide +kernel, Or.inr ⟨rfl, rfl, rfl⟩⟩
theorem dX10_init_68 : AtA mX10_init 68 0 69 := Or.inr ⟨0, by decide +kernel, rfl, rfl⟩
theorem dX10_init_69 : AtK mX10_init 69 (iZ 12) 71 := Or.inr (Or.inl ⟨12, by decide +kernel, by decide, rfl⟩)
theorem dX10_init_71 : AtNA mX10_init 71 0 73 := ⟨.int, 130, by decide +kernel, rfl, by decide +kernel, by decide, rfl, by decide⟩
theorem dX10_init_73 : AtP mX10_init 73 10 10 (.array .int) 76 := ⟨35, (RX10, TX10, 31), by decide +kernel, rfl, rfl, by decide, Or.inl ⟨892, by decide +kernel⟩, by decide +kernel, Or.inr ⟨rfl, rfl, rfl⟩⟩
theorem dX10_init_76 : AtA mX10_init 76 0 77 := Or.inr ⟨0, by decide +kernel, rfl, rfl⟩
theorem dX10_init_77 : AtK mX10_init 77 (iZ 12) 79 := Or.inr (Or.inl ⟨12, by decide +kernel, by decide, rfl⟩)
theorem dX10_init_79 : AtNA mX10_init 79 0 81 := ⟨.int, 130, by decide +kernel, rfl, by decide +kernel, by decide, rfl, by decide⟩
theorem dX10_init_81 : AtP mX10_init 81 10 11 (.array .int) 84 := ⟨38, (RX10, TX10, 31), by decide +kernel, rfl, rfl, by decide, Or.inl ⟨893, by decide +kernel⟩, by decide +kernel, Or.inr ⟨rfl, rfl, rfl⟩⟩
theorem dX10_init_84 : AtA mX10_init 84 0 85 := Or.inr ⟨0, by decide +kernel, rfl, rfl⟩
theorem dX10_init_85 : AtK mX10_init 85 (iZ 12) 87 := Or.inr (Or.inl ⟨12, by decide +kernel, by decide, rfl⟩)
theorem dX10_init_87 : AtNA mX10_init 87 0 89 := ⟨.int, 130, by decide +kernel, rfl, by decide +kernel, by decide, rfl, by decide⟩
theorem dX10_init_89 : AtP mX10_init 89 10 12 (.array .int) 92 := ⟨41, (RX10, TX10, 31), by decide +kernel, rfl, rfl, by decide, Or.inl ⟨894, by decide +kernel⟩, by decide +kernel, Or.inr ⟨rfl, rfl, rfl⟩⟩
theorem dX10_init_92 : AtA mX10_init 92 0 93 := Or.inr ⟨0, by decide +kernel, rfl, rfl⟩
theorem dX10_init_93 : AtK mX10_init 93 (iZ 96) 95 := Or.inr (Or.inl ⟨96, by decide +kernel, by decide, rfl⟩)
theorem dX10_init_95 : AtNA mX10_init 95 0 97 := ⟨.int, 130, by decide +kernel, rfl, by decide +kernel, by decide, rfl, by decide⟩
theorem dX10_init_97 : AtP mX10_init 97 10 13 (.array .int) 100 := ⟨44, (RX10, TX10, 31), by decide +kernel, rfl, rfl, by decide, Or.inl ⟨895, by decide +kernel⟩, by decide +kernel, Or.inr ⟨rfl, rfl, rfl⟩⟩
theorem dX10_init_100 : AtA mX10_init 100 0 101 := Or.inr ⟨0, by decide +kernel, rfl, rfl⟩
theorem dX10_init_101 : AtK mX10_init 101 (iZ 96) 103 := Or.inr (Or.inl ⟨96, by decide +kernel, by decide, rfl⟩)
theorem dX10_init_103 : AtNA mX10_init 103 0 105 := ⟨.int, 130, by decide +kernel, rfl, by decide +kernel, by decide, rfl, by decide⟩
theorem dX10_init_105 : AtP mX10_init 105 10 14 (.array .int) 108 := ⟨47, (RX10, TX10, 31), by decide +kernel, rfl, rfl, by decide, Or.inl ⟨896, by decide +kernel⟩, by decide +kernel, Or.inr ⟨rfl, rfl, rfl⟩⟩
theorem dX10_init_108 : AtA mX10_init 108 0 109 := Or.inr ⟨0, by decide +kernel, rfl, rfl⟩
theorem dX10_init_109 : AtK mX10_init 109 (iZ 20) 111 := Or.inr (Or.inl ⟨20, by decide +kernel, by decide, rfl⟩)
theorem dX10_init_111 : AtNA mX10_init 111 0 113 := ⟨.int, 130, by decide +kernel, rfl, by decide +kernel, by decide, rfl, by decide⟩
theorem dX10_init_113 : AtP mX10_init 113 10 16 (.array .int) 116 := ⟨50, (RX10, TX10, 31), by decide +kernel, rfl, rfl, by decide, Or.inl ⟨898, by decide +kernel⟩, by decide +kernel, Or.inr ⟨rfl, rfl, rfl⟩⟩
theorem dX10_init_116 : AtA mX10_init 116 0 117 := Or.inr ⟨0, by decide +kernel, rfl, rfl⟩
theorem dX10_init_117 : AtK mX10_init 117 (iZ 20) 119 := Or.inr (Or.inl ⟨20, by decide +kernel, by decide, rfl⟩)
theorem dX10_init_119 : AtNA mX10_init 119 1 121 := ⟨.boolean, 976, by decide +kernel, rfl, by decide +kernel, by decide, rfl, by decide⟩
theorem dX10_init_121 : AtP mX10_init 121 10 17 (.array .boolean) 124 := ⟨53, (RX10, TX10, 31), by decide +kernel, rfl, rfl, by decide, Or.inl ⟨899, by decide +kernel⟩, by decide +kernel, Or.inr ⟨rfl, rfl, rfl⟩⟩
theorem dX10_init_124 : AtA mX10_init 124 0 125 := Or.inr ⟨0, by decide +kernel, rfl, rfl⟩
theorem dX10_init_125 : AtK mX10_init 125 (iZ 20) 127 := Or.inr (Or.inl ⟨20, by decide +kernel, by decide, rfl⟩)
theorem dX10_init_127 : AtNA mX10_init 127 1 129 := ⟨.boolean, 976, by decide +kernel, rfl, by decide +kernel, by decide, rfl, by decide⟩
theorem dX10_init_129 : AtP mX10_init 129 10 18 (.array .boolean) 132 := ⟨56, (RX10, TX10, 31), by decide +kernel, rfl, rfl, by decide, Or.inl ⟨900, by decide +kernel⟩, by decide +kernel, Or.inr ⟨rfl, rfl, rfl⟩⟩
theorem dX10_init_132 : AtA mX10_init 132 0 133 := Or.inr ⟨0, by decide +kernel, rfl, rfl⟩
theorem dX10_init_133 : AtK mX10_init 133 (iZ 20) 135 := Or.inr (Or.inl ⟨20, by decide +kernel, by decide, rfl⟩)
theorem dX10_init_135 : AtNA mX10_init 135 0 137 := ⟨.int, 130, by decide +kernel, rfl, by decide +kernel, by decide, rfl, by decide⟩
theorem dX10_init_137 : AtP mX10_init 137 10 19 (.array .int) 140 := ⟨59, (RX10, TX10, 31), by decide +kernel, rfl, rfl, by decide, Or.inl ⟨901, by decide +kernel⟩, by decide +kernel, Or.inr ⟨rfl, rfl, rfl⟩⟩
theorem dX10_init_140 : AtA mX10_init 140 0 141 := Or.inr ⟨0, by decide +kernel, rfl, rfl⟩
theorem dX10_init_141 : AtK mX10_init 141 (iZ 20) 143 := Or.inr (Or.inl ⟨20, by decide +kernel, by decide, rfl⟩)
theorem dX10_init_143 : AtNA mX10_init 143 0 145 := ⟨.int, 130, by decide +kernel, rfl, by decide +kernel, by decide, rfl, by decide⟩
theorem dX10_init_145 : AtP mX10_init 145 10 20 (.array .int) 148 := ⟨62, (RX10, TX10, 31), by decide +kernel, rfl, rfl, by decide, Or.inl ⟨902, by decide +kernel⟩, by decide +kernel, Or.inr ⟨rfl, rfl, rfl⟩⟩
theorem dX10_init_148 : AtA mX10_init 148 0 149 := Or.inr ⟨0, by decide +kernel, rfl, rfl⟩
theorem dX10_init_149 : AtK mX10_init 149 (iZ 63) 151 := Or.inr (Or.inl ⟨63, by decide +kernel, by decide, rfl⟩)
theorem dX10_init_151 : AtNA mX10_init 151 0 153 := ⟨.int, 130, by decide +kernel, rfl, by decide +kernel, by decide, rfl, by decide⟩
theorem dX10_init_153 : AtP mX10_init 153 10 22 (.array .int) 156 := ⟨65, (RX10, TX10, 31), by decide +kernel, rfl, rfl, by decide, Or.inl ⟨904, by decide +kernel⟩, by decide +kernel, Or.inr ⟨rfl, rfl, rfl⟩⟩
theorem dX10_init_156 : AtA mX10_init 156 0 157 := Or.inr ⟨0, by decide +kernel, rfl, rfl⟩
theorem dX10_init_157 : AtK mX10_init 157 (iZ 366) 160 := Or.inr (Or.inr (Or.inl ⟨366, by decide +kernel, by decide, rfl⟩))
theorem dX10_init_160 : AtNA mX10_init 160 0 162 := ⟨.int, 130, by decide +kernel, rfl, by decide +kernel, by decide, rfl, by decide⟩
theorem dX10_init_162 : AtP mX10_init 162 10 23 (.array .int) 165 := ⟨68, (RX10, TX10, 31), by decide +kernel, rfl, rfl, by decide, Or.inl ⟨905, by decide +kernel⟩, by decide +kernel, Or.inr ⟨rfl, rfl, rfl⟩⟩
theorem dX10_init_165 : AtA mX10_init 165 0 166 := Or.inr ⟨0, by decide +kernel, rfl, rfl⟩
theorem dX10_init_166 : AtK mX10_init 166 (iZ 20) 168 := Or.inr (Or.inl ⟨20, by decide +kernel, by decide, rfl⟩)
theorem dX10_init_168 : AtNA mX10_init 168 0 170 := ⟨.int, 130, by decide +kernel, rfl, by decide +kernel, by decide, rfl, by decide⟩
theorem dX10_init_170 : AtP mX10_init 170 10 24 (.array .int) 173 := ⟨71, (RX10, TX10, 31), by decide +kernel, rfl, rfl, by decide, Or.inl ⟨906, by decide +kernel⟩, by decide +kernel, Or.inr ⟨rfl, rfl, rfl⟩⟩
theorem dX10_init_173 : AtA mX10_init 173 0 174 := Or.inr ⟨0, by decide +kernel, rfl, rfl⟩
theorem dX10_init_174 : AtK mX10_init 174 (iZ 60) 176 := Or.inr (Or.inl ⟨60, by decide +kernel, by decide, rfl⟩)
theorem dX10_init_176 : AtNA mX10_init 176 0 178 := ⟨.int, 130, by decide +kernel, rfl, by decide +kernel, by decide, rfl, by decide⟩
theorem dX10_init_178 : AtP mX10_init 178 10 26 (.array .int) 181 := ⟨74, (RX10, TX10, 31), by decide +kernel, rfl, rfl, by decide, Or.inl ⟨908, by decide +kernel⟩, by decide +kernel, Or.inr ⟨rfl, rfl, rfl⟩⟩
theorem dX10_init_181 : AtA mX10_init 181 0 182 := Or.inr ⟨0, by decide +kernel, rfl, rfl⟩
theorem dX10_init_182 : AtK mX10_init 182 (iZ 60) 184 := Or.inr (Or.inl ⟨60, by decide +kernel, by decide, rfl⟩)
theorem dX10_init_184 : AtNA mX10_init 184 0 186 := ⟨.int, 130, by decide +kernel, rfl, by decide +kernel, by decide, rfl, by decide⟩
theorem dX10_init_186 : AtP mX10_init 186 10 27 (.array .int) 189 := ⟨77, (RX10, TX10, 31), by decide +kernel, rfl, rfl, by decide, Or.inl ⟨909, by decide +kernel⟩, by decide +kernel, Or.inr ⟨rfl, rfl, rfl⟩⟩
theorem dX10_init_189 : AtA mX10_init 189 0 190 := Or.inr ⟨0, by decide +kernel, rfl, rfl⟩
theorem dX10_init_190 : AtK mX10_init 190 (iZ 60) 192 := Or.inr (Or.inl ⟨60, by decide +kernel, by decide, rfl⟩)
theorem dX10_init_192 : AtNA mX10_init 192 0 194 := ⟨.int, 130, by decide +kernel, rfl, by decide +kernel, by decide, rfl, by decide⟩
theorem dX10_init_194 : AtP mX10_init 194 10 28 (.array .int) 197 := ⟨80, (RX10, TX10, 31), by decide +kernel, rfl, rfl, by decide, Or.inl ⟨910, by decide +kernel⟩, by decide +kernel, Or.inr ⟨rfl, rfl, rfl⟩⟩
theorem dX10_init_197 : AtA mX10_init 197 0 198 := Or.inr ⟨0, by decide +kernel, rfl, rfl⟩
theorem dX10_init_198 : AtK mX10_init 198 (iZ 60) 200 := Or.inr (Or.inl ⟨60, by decide +kernel, by decide, rfl⟩)
theorem dX10_init_200 : AtNA mX10_init 200 0 202 := ⟨.int, 130, by decide +kernel, rfl, by decide +kernel, by decide, rfl, by decide⟩
theorem dX10_init_202 : AtP mX10_init 202 10 29 (.array .int) 205 := ⟨83, (RX10, TX10, 31), by decide +kernel, rfl, rfl, by decide, Or.inl ⟨911, by decide +kernel⟩, by decide +kernel, Or.inr ⟨rfl, rfl, rfl⟩⟩
theorem dX10_init_205 : AtK mX10_init 205 (iZ 0) 206 := Or.inl ⟨0, by decide +kernel, by decide, rfl⟩
theorem dX10_init_206 : AtSI mX10_init 206 1 207 := ⟨Or.inr ⟨1, by decide +kernel, rfl, rfl⟩, by decide⟩
theorem dX10_init_207 : AtI mX10_init 207 1 208 := Or.inr ⟨1, by decide +kernel, rfl, rfl⟩
theorem dX10_init_208 : AtK mX10_init 208 (iZ 63) 210 := Or.inr (Or.inl ⟨63, by decide +kernel, by decide, rfl⟩)
theorem dX10_init_210 : AtJ mX10_init 210 (.if_icmp .ge) 213 227 := ⟨17, by decide +kernel, rfl, by decide⟩
theorem dX10_init_213 : AtA mX10_init 213 0 214 := Or.inr ⟨0, by decide +kernel, rfl, rfl⟩
theorem dX10_init_214 : AtF mX10_init 214 10 22 217 := ⟨65, (RX10, TX10, 31), by decide +kernel, rfl, rfl, by decide, Or.inl (Or.inl ⟨904, by decide +kernel⟩)⟩
theorem dX10_init_217 : AtI mX10_init 217 1 218 := Or.inr ⟨1, by decide +kernel, rfl, rfl⟩
theorem dX10_init_218 : AtK mX10_init 218 (iZ (-100)) 220 := Or.inr (Or.inl ⟨(-100), by decide +kernel, by decide, rfl⟩)
theorem dX10_init_220 : At mX10_init 220 .iastore 1 221 := ⟨by decide +kernel, rfl⟩
theorem dX10_init_221 : AtInc mX10_init 221 1 (iZ 1) 224 := ⟨1, by decide +kernel, by decide, rfl, by decide⟩
theorem dX10_init_224 : AtG mX10_init 224 207 := ⟨(-17), by decide +kernel, by decide⟩
theorem dX10_init_227 : At mX10_init 227 .return_ 1 228 := ⟨by decide +kernel, rfl⟩
theorem dX10_thrown_0 : AtA mX10_thrown 0 0 1 := Or.inr ⟨0, by decide +kernel, rfl, rfl⟩
theorem dX10_thrown_1 : AtF mX10_thrown 1 10 30 4 := ⟨86, (RX10, TX10, 31), by decide +kernel, rfl, rfl, by decide, Or.inl (Or.inl ⟨912, by decide +kernel⟩)⟩
theorem dX10_thrown_4 : At mX10_thrown 4 .ireturn 1 5 := ⟨by decide +kernel, rfl⟩
theorem dX10_isIn_0 : AtI mX10_isIn 0 0 1 := Or.inr ⟨0, by decide +kernel, rfl, rfl⟩
theorem dX10_isIn_1 : AtI mX10_isIn 1 1 2 := Or.inr ⟨1, by decide +kernel, rfl, rfl⟩
theorem dX10_isIn_2 : AtJ mX10_isIn 2 (.if_icmp .lt) 5 14 := ⟨12, by decide +kernel, rfl, by decide⟩
theorem dX10_isIn_5 : AtI mX10_isIn 5 0 6 := Or.inr ⟨0, by decide +kernel, rfl, rfl⟩
theorem dX10_isIn_6 : AtI mX10_isIn 6 2 7 := Or.inr ⟨2, by decide +kernel, rfl, rfl⟩
theorem dX10_isIn_7 : AtJ mX10_isIn 7 (.if_icmp .gt) 10 14 := ⟨7, by decide +kernel, rfl, by decide⟩
theorem dX10_isIn_10 : AtK mX10_isIn 10 (iZ 1) 11 := Or.inl ⟨1, by decide +kernel, by decide, rfl⟩
theorem dX10_isIn_11 : AtG mX10_isIn 11 15 := ⟨4, by decide +kernel, by decide⟩
theorem dX10_isIn_14 : AtK mX10_isIn 14 (iZ 0) 15 := Or.inl ⟨0, by decide +kernel, by decide, rfl⟩
theorem dX10_isIn_15 : At mX10_isIn 15 .ireturn 1 16 := ⟨by decide +kernel, rfl⟩
theorem dX10_isDeath_0 : AtI mX10_isDeath 0 0 1 := Or.inr ⟨0, by decide +kernel, rfl, rfl⟩
theorem dX10_isDeath_1 : AtK mX10_isDeath 1 (iZ 1500) 4 := Or.inr (Or.inr (Or.inl ⟨1500, by decide +kernel, by decide, rfl⟩))
theorem dX10_isDeath_4 : AtK mX10_isDeath 4 (iZ 2399) 7 := Or.inr (Or.inr (Or.inl ⟨2399, by decide +kernel, by decide, rfl⟩))
theorem dX10_isDeath_7 : AtS mX10_isDeath 7 mX10_isIn 3 10 := ⟨90, 988, 989, by decide +kernel, rfl, by decide +kernel, by decide +kernel, rfl, ⟨⟨990, by decide +kernel⟩, ⟨63, by decide +kernel⟩, ⟨by decide, by decide⟩, by decide +kernel, by decide, by decide⟩⟩
theorem dX10_isDeath_10 : At mX10_isDeath 10 .ireturn 1 11 := ⟨by decide +kernel, rfl⟩
theorem dX10_isText_0 : AtI mX10_isText 0 1 1 := Or.inr ⟨1, by decide +kernel, rfl, rfl⟩
theorem dX10_isText_1 : AtK mX10_isText 1 (iZ 0) 2 := Or.inl ⟨0, by decide +kernel, by decide, rfl⟩
theorem dX10_isText_2 : AtA mX10_isText 2 0 3 := Or.inr ⟨0, by decide +kernel, rfl, rfl⟩
theorem dX10_isText_3 : AtF mX10_isText 3 10 0 6 := ⟨94, (RX10, TX10, 31), by decide +kernel, rfl, rfl, by decide, Or.inl (Or.inl ⟨882, by decide +kernel⟩)⟩
theorem dX10_isText_6 : AtK mX10_isText 6 (iZ 1) 7 := Or.inl ⟨1, by decide +kernel, by decide, rfl⟩
theorem dX10_isText_7 : At mX10_isText 7 .isub 1 8 := ⟨by decide +kernel, rfl⟩
theorem dX10_isText_8 : AtS mX10_isText 8 mX10_isIn 3 11 := ⟨90, 988, 989, by decide +kernel, rfl, by decide +kernel, by decide +kernel, rfl, ⟨⟨990, by decide +kernel⟩, ⟨63, by decide +kernel⟩, ⟨by decide, by decide⟩, by decide +kernel, by decide, by decide⟩⟩
theorem dX10_isText_11 : At mX10_isText 11 .ireturn 1 12 := ⟨by decide +kernel, rfl⟩
theorem dX10_isTune_0 : AtI mX10_isTune 0 1 1 := Or.inr ⟨1, by decide +kernel, rfl, rfl⟩
theorem dX10_isTune_1 : AtK mX10_isTune 1 (iZ 0) 2 := Or.inl ⟨0, by decide +kernel, by decide, rfl⟩
theorem dX10_isTune_2 : AtA mX10_isTune 2 0 3 := Or.inr ⟨0, by decide +kernel, rfl, rfl⟩
theorem dX10_isTune_3 : AtF mX10_isTune 3 10 7 6 := ⟨97, (RX10, TX10, 31), by decide +kernel, rfl, rfl, by decide, Or.inl (Or.inl ⟨889, by decide +kernel⟩)⟩
theorem dX10_isTune_6 : AtK mX10_isTune 6 (iZ 1) 7 := Or.inl ⟨1, by decide +kernel, by decide, rfl⟩
theorem dX10_isTune_7 : At mX10_isTune 7 .isub 1 8 := ⟨by decide +kernel, rfl⟩
theorem dX10_isTune_8 : AtS mX10_isTune 8 mX10_isIn 3 11 := ⟨90, 988, 989, by decide +kernel, rfl, by decide +kernel, by decide +kernel, rfl, ⟨⟨990, by decide +kernel⟩, ⟨63, by decide +kernel⟩, ⟨by decide, by decide⟩, by decide +kernel, by decide, by decide⟩⟩
theorem dX10_isTune_11 : At mX10_isTune 11 .ireturn 1 12 := ⟨by decide +kernel, rfl⟩
theorem dX10_text_0 : AtA mX10_text 0 0 1 := Or.inr ⟨0, by decide +kernel, rfl, rfl⟩
theorem dX10_text_1 : AtI mX10_text 1 1 2 := Or.inr ⟨1, by decide +kernel, rfl, rfl⟩
theorem dX10_text_2 : AtS mX10_text 2 mX10_isDeath 1 5 := ⟨100, 985, 986, by decide +kernel, rfl, by decide +kernel, by decide +kernel, rfl, ⟨⟨987, by decide +kernel⟩, ⟨63, by decide +kernel⟩, ⟨by decide, by decide⟩, by decide +kernel, by decide, by decide⟩⟩
theorem dX10_text_5 : AtJ mX10_text 5 (.ifCond .eq) 8 18 := ⟨13, by decide +kernel, rfl, by decide⟩
theorem dX10_text_8 : AtI mX10_text 8 2 9 := Or.inr ⟨2, by decide +kernel, rfl, rfl⟩
theorem dX10_text_9 : AtK mX10_text 9 (iZ 0) 10 := Or.inl ⟨0, by decide +kernel, by decide, rfl⟩
theorem dX10_text_10 : AtK mX10_text 10 (iZ 65535) 12 := Or.inr (Or.inr (Or.inr (Or.inl ⟨104, 991, by decide +kernel, by decide +kernel, rfl⟩)))
theorem dX10_text_12 : AtS mX10_text 12 mX10_isIn 3 15 := ⟨90, 988, 989, by decide +kernel, rfl, by decide +kernel, by decide +kernel, rfl, ⟨⟨990, by decide +kernel⟩, ⟨63, by decide +kernel⟩, ⟨by decide, by decide⟩, by decide +kernel, by decide, by decide⟩⟩
theorem dX10_text_15 : AtJ mX10_text 15 (.ifCond .ne) 18 22 := ⟨7, by decide +kernel, rfl, by decide⟩
theorem dX10_text_18 : AtK mX10_text 18 (iZ 1) 19 := Or.inl ⟨1, by decide +kernel, by decide, rfl⟩
theorem dX10_text_19 : AtG mX10_text 19 36 := ⟨17, by decide +kernel, by decide⟩
theorem dX10_text_22 : AtA mX10_text 22 0 23 := Or.inr ⟨0, by decide +kernel, rfl, rfl⟩
theorem dX10_text_23 : AtF mX10_text 23 10 0 26 := ⟨94, (RX10, TX10, 31), by decide +kernel, rfl, rfl, by decide, Or.inl (Or.inl ⟨882, by decide +kernel⟩)⟩
theorem dX10_text_26 : AtK mX10_text 26 (iZ 12) 28 := Or.inr (Or.inl ⟨12, by decide +kernel, by decide, rfl⟩)
theorem dX10_text_28 : AtJ mX10_text 28 (.if_icmp .ne) 31 35 := ⟨7, by decide +kernel, rfl, by decide⟩
theorem dX10_text_31 : AtK mX10_text 31 (iZ 2) 32 := Or.inl ⟨2, by decide +kernel, by decide, rfl⟩
theorem dX10_text_32 : AtG mX10_text 32 36 := ⟨4, by decide +kernel, by decide⟩
theorem dX10_text_35 : AtK mX10_text 35 (iZ 0) 36 := Or.inl ⟨0, by decide +kernel, by decide, rfl⟩
theorem dX10_text_36 : AtP mX10_text 36 10 30 (.int) 39 := ⟨86, (RX10, TX10, 31), by decide +kernel, rfl, rfl, by decide, Or.inl ⟨912, by decide +kernel⟩, by decide +kernel, Or.inl rfl⟩
theorem dX10_text_39 : AtA mX10_text 39 0 40 := Or.inr ⟨0, by decide +kernel, rfl, rfl⟩
theorem dX10_text_40 : AtF mX10_text 40 10 30 43 := ⟨86, (RX10, TX10, 31), by decide +kernel, rfl, rfl, by decide, Or.inl (Or.inl ⟨912, by decide +kernel⟩)⟩
theorem dX10_text_43 : AtJ mX10_text 43 (.ifCond .le) 46 48 := ⟨5, by decide +kernel, rfl, by decide⟩
theorem dX10_text_46 : AtK mX10_text 46 (iZ 0) 47 := Or.inl ⟨0, by decide +kernel, by decide, rfl⟩
theorem dX10_text_47 : At mX10_text 47 .ireturn 1 48 := ⟨by decide +kernel, rfl⟩
theorem dX10_text_48 : AtA mX10_text 48 0 49 := Or.inr ⟨0, by decide +kernel, rfl, rfl⟩
theorem dX10_text_49 : AtF mX10_text 49 10 1 52 := ⟨7, (RX10, TX10, 31), by decide +kernel, rfl, rfl, by decide, Or.inl (Or.inl ⟨883, by decide +kernel⟩)⟩
theorem dX10_text_52 : AtA mX10_text 52 0 53 := Or.inr ⟨0, by decide +kernel, rfl, rfl⟩
theorem dX10_text_53 : AtF mX10_text 53 10 0 56 := ⟨94, (RX10, TX10, 31), by decide +kernel, rfl, rfl, by decide, Or.inl (Or.inl ⟨882, by decide +kernel⟩)⟩
theorem dX10_text_56 : AtI mX10_text 56 1 57 := Or.inr ⟨1, by decide +kernel, rfl, rfl⟩
theorem dX10_text_57 : At mX10_text 57 .iastore 1 58 := ⟨by decide +kernel, rfl⟩
theorem dX10_text_58 : AtA mX10_text 58 0 59 := Or.inr ⟨0, by decide +kernel, rfl, rfl⟩
theorem dX10_text_59 : AtF mX10_text 59 10 2 62 := ⟨13, (RX10, TX10, 31), by decide +kernel, rfl, rfl, by decide, Or.inl (Or.inl ⟨884, by decide +kernel⟩)⟩
theorem dX10_text_62 : AtA mX10_text 62 0 63 := Or.inr ⟨0, by decide +kernel, rfl, rfl⟩
theorem dX10_text_63 : AtF mX10_text 63 10 0 66 := ⟨94, (RX10, TX10, 31), by decide +kernel, rfl, rfl, by decide, Or.inl (Or.inl ⟨882, by decide +kernel⟩)⟩
theorem dX10_text_66 : AtI mX10_text 66 2 67 := Or.inr ⟨2, by decide +kernel, rfl, rfl⟩
theorem dX10_text_67 : At mX10_text 67 .iastore 1 68 := ⟨by decide +kernel, rfl⟩
theorem dX10_text_68 : AtA mX10_text 68 0 69 := Or.inr ⟨0, by decide +kernel, rfl, rfl⟩
theorem dX10_text_69 : At mX10_text 69 .dup 1 70 := ⟨by decide +kernel, rfl⟩
theorem dX10_text_70 : AtF mX10_text 70 10 0 73 := ⟨94, (RX10, TX10, 31), by decide +kernel, rfl, rfl, by decide, Or.inl (Or.inl ⟨882, by decide +kernel⟩)⟩
theorem dX10_text_73 : AtK mX10_text 73 (iZ 1) 74 := Or.inl ⟨1, by decide +kernel, by decide, rfl⟩
theorem dX10_text_74 : At mX10_text 74 .iadd 1 75 := ⟨by decide +kernel, rfl⟩
theorem dX10_text_75 : AtP mX10_text 75 10 0 (.int) 78 := ⟨94, (RX10, TX10, 31), by decide +kernel, rfl, rfl, by decide, Or.inl ⟨882, by decide +kernel⟩, by decide +kernel, Or.inl rfl⟩
theorem dX10_text_78 : AtA mX10_text 78 0 79 := Or.inr ⟨0, by decide +kernel, rfl, rfl⟩
theorem dX10_text_79 : AtF mX10_text 79 10 0 82 := ⟨94, (RX10, TX10, 31), by decide +kernel, rfl, rfl, by decide, Or.inl (Or.inl ⟨882, by decide +kernel⟩)⟩
theorem dX10_text_82 : AtK mX10_text 82 (iZ 1) 83 := Or.inl ⟨1, by decide +kernel, by decide, rfl⟩
theorem dX10_text_83 : At mX10_text 83 .isub 1 84 := ⟨by decide +kernel, rfl⟩
theorem dX10_text_84 : At mX10_text 84 .ireturn 1 85 := ⟨by decide +kernel, rfl⟩
theorem dX10_isLine_0 : AtI mX10_isLine 0 0 1 := Or.inr ⟨0, by decide +kernel, rfl, rfl⟩
theorem dX10_isLine_1 : AtK mX10_isLine 1 (iZ 1) 2 := Or.inl ⟨1, by decide +kernel, by decide, rfl⟩
theorem dX10_isLine_2 : AtK mX10_isLine 2 (iZ 12) 4 := Or.inr (Or.inl ⟨12, by decide +kernel, by decide, rfl⟩)
theorem dX10_isLine_4 : AtS mX10_isLine 4 mX10_isIn 3 7 := ⟨90, 988, 989, by decide +kernel, rfl, by decide +kernel, by decide +kernel, rfl, ⟨⟨990, by decide +kernel⟩, ⟨63, by decide +kernel⟩, ⟨by decide, by decide⟩, by decide +kernel, by decide, by decide⟩⟩
theorem dX10_isLine_7 : AtJ mX10_isLine 7 (.ifCond .eq) 10 27 := ⟨20, by decide +kernel, rfl, by decide⟩
theorem dX10_isLine_10 : AtI mX10_isLine 10 1 11 := Or.inr ⟨1, by decide +kernel, rfl, rfl⟩
theorem dX10_isLine_11 : AtK mX10_isLine 11 (iZ 0) 12 := Or.inl ⟨0, by decide +kernel, by decide, rfl⟩
theorem dX10_isLine_12 : AtK mX10_isLine 12 (iZ 1) 13 := Or.inl ⟨1, by decide +kernel, by decide, rfl⟩
theorem dX10_isLine_13 : AtI mX10_isLine 13 0 14 := Or.inr ⟨0, by decide +kernel, rfl, rfl⟩
theorem dX10_isLine_14 : At mX10_isLine 14 .ishl 1 15 := ⟨by decide +kernel, rfl⟩
theorem dX10_isLine_15 : AtK mX10_isLine 15 (iZ 1) 16 := Or.inl ⟨1, by decide +kernel, by decide, rfl⟩
theorem dX10_isLine_16 : At mX10_isLine 16 .isub 1 17 := ⟨by decide +kernel, rfl⟩
theorem dX10_isLine_17 : AtS mX10_isLine 17 mX10_isIn 3 20 := ⟨90, 988, 989, by decide +kernel, rfl, by decide +kernel, by decide +kernel, rfl, ⟨⟨990, by decide +kernel⟩, ⟨63, by decide +kernel⟩, ⟨by decide, by decide⟩, by decide +kernel, by decide, by decide⟩⟩
theorem dX10_isLine_20 : AtJ mX10_isLine 20 (.ifCond .eq) 23 27 := ⟨7, by decide +kernel, rfl, by decide⟩
theorem dX10_isLine_23 : AtK mX10_isLine 23 (iZ 1) 24 := Or.inl ⟨1, by decide +kernel, by decide, rfl⟩
theorem dX10_isLine_24 : AtG mX10_isLine 24 28 := ⟨4, by decide +kernel, by decide⟩
theorem dX10_isLine_27 : AtK mX10_isLine 27 (iZ 0) 28 := Or.inl ⟨0, by decide +kernel, by decide, rfl⟩
theorem dX10_isLine_28 : At mX10_isLine 28 .ireturn 1 29 := ⟨by decide +kernel, rfl⟩
theorem dX10_line_0 : AtA mX10_line 0 0 1 := Or.inr ⟨0, by decide +kernel, rfl, rfl⟩
theorem dX10_line_1 : AtA mX10_line 1 0 2 := Or.inr ⟨0, by decide +kernel, rfl, rfl⟩
theorem dX10_line_2 : AtI mX10_line 2 1 3 := Or.inr ⟨1, by decide +kernel, rfl, rfl⟩
theorem dX10_line_3 : AtV mX10_line 3 mX10_isText 1 10 6 := ⟨105, 996, 998, 33, (RX10, TX10, 31), by decide +kernel, rfl, rfl, by decide +kernel, by decide +kernel, by decide +kernel, rfl, ⟨⟨999, by decide +kernel⟩, ⟨63, by decide +kernel⟩, ⟨by decide, by decide⟩, by decide +kernel, by decide, by decide⟩⟩
theorem dX10_line_6 : AtJ mX10_line 6 (.ifCond .ne) 9 13 := ⟨7, by decide +kernel, rfl, by decide⟩
theorem dX10_line_9 : AtK mX10_line 9 (iZ 1) 10 := Or.inl ⟨1, by decide +kernel, by decide, rfl⟩
theorem dX10_line_10 : AtG mX10_line 10 41 := ⟨31, by decide +kernel, by decide⟩
theorem dX10_line_13 : AtI mX10_line 13 2 14 := Or.inr ⟨2, by decide +kernel, rfl, rfl⟩
theorem dX10_line_14 : AtI mX10_line 14 3 15 := Or.inr ⟨3, by decide +kernel, rfl, rfl⟩
theorem dX10_line_15 : AtS mX10_line 15 mX10_isLine 2 18 := ⟨108, 1000, 1001, by decide +kernel, rfl, by decide +kernel, by decide +kernel, rfl, ⟨⟨1002, by decide +kernel⟩, ⟨63, by decide +kernel⟩, ⟨by decide, by decide⟩, by decide +kernel, by decide, by decide⟩⟩
theorem dX10_line_18 : AtJ mX10_line 18 (.ifCond .ne) 21 25 := ⟨7, by decide +kernel, rfl, by decide⟩
theorem dX10_line_21 : AtK mX10_line 21 (iZ 2) 22 := Or.inl ⟨2, by decide +kernel, by decide, rfl⟩
theorem dX10_line_22 : AtG mX10_line 22 41 := ⟨19, by decide +kernel, by decide⟩
theorem dX10_line_25 : AtA mX10_line 25 0 26 := Or.inr ⟨0, by decide +kernel, rfl, rfl⟩
theorem dX10_line_26 : AtF mX10_line 26 10 4 29 := ⟨20, (RX10, TX10, 31), by decide +kernel, rfl, rfl, by decide, Or.inl (Or.inl ⟨886, by decide +kernel⟩)⟩
theorem dX10_line_29 : AtI mX10_line 29 1 30 := Or.inr ⟨1, by decide +kernel, rfl, rfl⟩
theorem dX10_line_30 : At mX10_line 30 .iaload 1 31 := ⟨by decide +kernel, rfl⟩
theorem dX10_line_31 : AtK mX10_line 31 (iZ 8) 33 := Or.inr (Or.inl ⟨8, by decide +kernel, by decide, rfl⟩)
theorem dX10_line_33 : AtJ mX10_line 33 (.if_icmp .ne) 36 40 := ⟨7, by decide +kernel, rfl, by decide⟩
theorem dX10_line_36 : AtK mX10_line 36 (iZ 3) 37 := Or.inl ⟨3, by decide +kernel, by decide, rfl⟩
theorem dX10_line_37 : AtG mX10_line 37 41 := ⟨4, by decide +kernel, by decide⟩
theorem dX10_line_40 : AtK mX10_line 40 (iZ 0) 41 := Or.inl ⟨0, by decide +kernel, by decide, rfl⟩
theorem dX10_line_41 : AtP mX10_line 41 10 30 (.int) 44 := ⟨86, (RX10, TX10, 31), by decide +kernel, rfl, rfl, by decide, Or.inl ⟨912, by decide +kernel⟩, by decide +kernel, Or.inl rfl⟩
theorem dX10_line_44 : AtA mX10_line 44 0 45 := Or.inr ⟨0, by decide +kernel, rfl, rfl⟩
theorem dX10_line_45 : AtF mX10_line 45 10 30 48 := ⟨86, (RX10, TX10, 31), by decide +kernel, rfl, rfl, by decide, Or.inl (Or.inl ⟨912, by decide +kernel⟩)⟩
theorem dX10_line_48 : AtJ mX10_line 48 (.ifCond .le) 51 53 := ⟨5, by decide +kernel, rfl, by decide⟩
theorem dX10_line_51 : AtK mX10_line 51 (iZ 0) 52 := Or.inl ⟨0, by decide +kernel, by decide, rfl⟩
theorem dX10_line_52 : At mX10_line 52 .ireturn 1 53 := ⟨by decide +kernel, rfl⟩
theorem dX10_line_53 : AtA mX10_line 53 0 54 := Or.inr ⟨0, by decide +kernel, rfl, rfl⟩
theorem dX10_line_54 : AtF mX10_line 54 10 5 57 := ⟨23, (RX10, TX10, 31), by decide +kernel, rfl, rfl, by decide, Or.inl (Or.inl ⟨887, by decide +kernel⟩)⟩
theorem dX10_line_57 : AtK mX10_line 57 (iZ 8) 59 := Or.inr (Or.inl ⟨8, by decide +kernel, by decide, rfl⟩)
theorem dX10_line_59 : AtI mX10_line 59 1 60 := Or.inr ⟨1, by decide +kernel, rfl, rfl⟩
theorem dX10_line_60 : At mX10_line 60 .imul 1 61 := ⟨by decide +kernel, rfl⟩
theorem dX10_line_61 : AtA mX10_line 61 0 62 := Or.inr ⟨0, by decide +kernel, rfl, rfl⟩
theorem dX10_line_62 : AtF mX10_line 62 10 4 65 := ⟨20, (RX10, TX10, 31), by decide +kernel, rfl, rfl, by decide, Or.inl (Or.inl ⟨886, by decide +kernel⟩)⟩
theorem dX10_line_65 : AtI mX10_line 65 1 66 := Or.inr ⟨1, by decide +kernel, rfl, rfl⟩
theorem dX10_line_66 : At mX10_line 66 .iaload 1 67 := ⟨by decide +kernel, rfl⟩
theorem dX10_line_67 : At mX10_line 67 .iadd 1 68 := ⟨by decide +kernel, rfl⟩
theorem dX10_line_68 : AtI mX10_line 68 2 69 := Or.inr ⟨2, by decide +kernel, rfl, rfl⟩
theorem dX10_line_69 : At mX10_line 69 .iastore 1 70 := ⟨by decide +kernel, rfl⟩
theorem dX10_line_70 : AtA mX10_line 70 0 71 := Or.inr ⟨0, by decide +kernel, rfl, rfl⟩
theorem dX10_line_71 : AtF mX10_line 71 10 6 74 := ⟨26, (RX10, TX10, 31), by decide +kernel, rfl, rfl, by decide, Or.inl (Or.inl ⟨888, by decide +kernel⟩)⟩
theorem dX10_line_74 : AtK mX10_line 74 (iZ 8) 76 := Or.inr (Or.inl ⟨8, by decide +kernel, by decide, rfl⟩)
theorem dX10_line_76 : AtI mX10_line 76 1 77 := Or.inr ⟨1, by decide +kernel, rfl, rfl⟩
theorem dX10_line_77 : At mX10_line 77 .imul 1 78 := ⟨by decide +kernel, rfl⟩
theorem dX10_line_78 : AtA mX10_line 78 0 79 := Or.inr ⟨0, by decide +kernel, rfl, rfl⟩
theorem dX10_line_79 : AtF mX10_line 79 10 4 82 := ⟨20, (RX10, TX10, 31), by decide +kernel, rfl, rfl, by decide, Or.inl (Or.inl ⟨886, by decide +kernel⟩)⟩
theorem dX10_line_82 : AtI mX10_line 82 1 83 := Or.inr ⟨1, by decide +kernel, rfl, rfl⟩
theorem dX10_line_83 : At mX10_line 83 .iaload 1 84 := ⟨by decide +kernel, rfl⟩
theorem dX10_line_84 : At mX10_line 84 .iadd 1 85 := ⟨by decide +kernel, rfl⟩
theorem dX10_line_85 : AtI mX10_line 85 3 86 := Or.inr ⟨3, by decide +kernel, rfl, rfl⟩
theorem dX10_line_86 : At mX10_line 86 .iastore 1 87 := ⟨by decide +kernel, rfl⟩
theorem dX10_line_87 : AtA mX10_line 87 0 88 := Or.inr ⟨0, by decide +kernel, rfl, rfl⟩
theorem dX10_line_88 : AtF mX10_line 88 10 4 91 := ⟨20, (RX10, TX10, 31), by decide +kernel, rfl, rfl, by decide, Or.inl (Or.inl ⟨886, by decide +kernel⟩)⟩
theorem dX10_line_91 : AtI mX10_line 91 1 92 := Or.inr ⟨1, by decide +kernel, rfl, rfl⟩
theorem dX10_line_92 : At mX10_line 92 .dup2 1 93 := ⟨by decide +kernel, rfl⟩
theorem dX10_line_93 : At mX10_line 93 .iaload 1 94 := ⟨by decide +kernel, rfl⟩
theorem dX10_line_94 : AtK mX10_line 94 (iZ 1) 95 := Or.inl ⟨1, by decide +kernel, by decide, rfl⟩
theorem dX10_line_95 : At mX10_line 95 .iadd 1 96 := ⟨by decide +kernel, rfl⟩
theorem dX10_line_96 : At mX10_line 96 .iastore 1 97 := ⟨by decide +kernel, rfl⟩
theorem dX10_line_97 : AtA mX10_line 97 0 98 := Or.inr ⟨0, by decide +kernel, rfl, rfl⟩
theorem dX10_line_98 : AtF mX10_line 98 10 4 101 := ⟨20, (RX10, TX10, 31), by decide +kernel, rfl, rfl, by decide, Or.inl (Or.inl ⟨886, by decide +kernel⟩)⟩
theorem dX10_line_101 : AtI mX10_line 101 1 102 := Or.inr ⟨1, by decide +kernel, rfl, rfl⟩
theorem dX10_line_102 : At mX10_line 102 .iaload 1 103 := ⟨by decide +kernel, rfl⟩
theorem dX10_line_103 : At mX10_line 103 .ireturn 1 104 := ⟨by decide +kernel, rfl⟩
theorem dX10_tune_0 : AtA mX10_tune 0 0 1 := Or.inr ⟨0, by decide +kernel, rfl, rfl⟩
theorem dX10_tune_1 : AtI mX10_tune 1 1 2 := Or.inr ⟨1, by decide +kernel, rfl, rfl⟩
theorem dX10_tune_2 : AtS mX10_tune 2 mX10_isDeath 1 5 := ⟨100, 985, 986, by decide +kernel, rfl, by decide +kernel, by decide +kernel, rfl, ⟨⟨987, by decide +kernel⟩, ⟨63, by decide +kernel⟩, ⟨by decide, by decide⟩, by decide +kernel, by decide, by decide⟩⟩
theorem dX10_tune_5 : AtJ mX10_tune 5 (.ifCond .eq) 8 28 := ⟨23, by decide +kernel, rfl, by decide⟩
theorem dX10_tune_8 : AtI mX10_tune 8 2 9 := Or.inr ⟨2, by decide +kernel, rfl, rfl⟩
theorem dX10_tune_9 : AtK mX10_tune 9 (iZ 0) 10 := Or.inl ⟨0, by decide +kernel, by decide, rfl⟩
theorem dX10_tune_10 : AtK mX10_tune 10 (iZ 40) 12 := Or.inr (Or.inl ⟨40, by decide +kernel, by decide, rfl⟩)
theorem dX10_tune_12 : AtS mX10_tune 12 mX10_isIn 3 15 := ⟨90, 988, 989, by decide +kernel, rfl, by decide +kernel, by decide +kernel, rfl, ⟨⟨990, by decide +kernel⟩, ⟨63, by decide +kernel⟩, ⟨by decide, by decide⟩, by decide +kernel, by decide, by decide⟩⟩
theorem dX10_tune_15 : AtJ mX10_tune 15 (.ifCond .eq) 18 28 := ⟨13, by decide +kernel, rfl, by decide⟩
theorem dX10_tune_18 : AtI mX10_tune 18 3 19 := Or.inr ⟨3, by decide +kernel, rfl, rfl⟩
theorem dX10_tune_19 : AtI mX10_tune 19 2 20 := Or.inr ⟨2, by decide +kernel, rfl, rfl⟩
theorem dX10_tune_20 : AtK mX10_tune 20 (iZ 40) 22 := Or.inr (Or.inl ⟨40, by decide +kernel, by decide, rfl⟩)
theorem dX10_tune_22 : AtS mX10_tune 22 mX10_isIn 3 25 := ⟨90, 988, 989, by decide +kernel, rfl, by decide +kernel, by decide +kernel, rfl, ⟨⟨990, by decide +kernel⟩, ⟨63, by decide +kernel⟩, ⟨by decide, by decide⟩, by decide +kernel, by decide, by decide⟩⟩
theorem dX10_tune_25 : AtJ mX10_tune 25 (.ifCond .ne) 28 32 := ⟨7, by decide +kernel, rfl, by decide⟩
theorem dX10_tune_28 : AtK mX10_tune 28 (iZ 1) 29 := Or.inl ⟨1, by decide +kernel, by decide, rfl⟩
theorem dX10_tune_29 : AtG mX10_tune 29 46 := ⟨17, by decide +kernel, by decide⟩
theorem dX10_tune_32 : AtA mX10_tune 32 0 33 := Or.inr ⟨0, by decide +kernel, rfl, rfl⟩
theorem dX10_tune_33 : AtF mX10_tune 33 10 7 36 := ⟨97, (RX10, TX10, 31), by decide +kernel, rfl, rfl, by decide, Or.inl (Or.inl ⟨889, by decide +kernel⟩)⟩
theorem dX10_tune_36 : AtK mX10_tune 36 (iZ 12) 38 := Or.inr (Or.inl ⟨12, by decide +kernel, by decide, rfl⟩)
theorem dX10_tune_38 : AtJ mX10_tune 38 (.if_icmp .ne) 41 45 := ⟨7, by decide +kernel, rfl, by decide⟩
theorem dX10_tune_41 : AtK mX10_tune 41 (iZ 2) 42 := Or.inl ⟨2, by decide +kernel, by decide, rfl⟩
theorem dX10_tune_42 : AtG mX10_tune 42 46 := ⟨4, by decide +kernel, by decide⟩
theorem dX10_tune_45 : AtK mX10_tune 45 (iZ 0) 46 := Or.inl ⟨0, by decide +kernel, by decide, rfl⟩
theorem dX10_tune_46 : AtP mX10_tune 46 10 30 (.int) 49 := ⟨86, (RX10, TX10, 31), by decide +kernel, rfl, rfl, by decide, Or.inl ⟨912, by decide +kernel⟩, by decide +kernel, Or.inl rfl⟩
theorem dX10_tune_49 : AtA mX10_tune 49 0 50 := Or.inr ⟨0, by decide +kernel, rfl, rfl⟩
theorem dX10_tune_50 : AtF mX10_tune 50 10 30 53 := ⟨86, (RX10, TX10, 31), by decide +kernel, rfl, rfl, by decide, Or.inl (Or.inl ⟨912, by decide +kernel⟩)⟩
theorem dX10_tune_53 : AtJ mX10_tune 53 (.ifCond .le) 56 58 := ⟨5, by decide +kernel, rfl, by decide⟩
theorem dX10_tune_56 : AtK mX10_tune 56 (iZ 0) 57 := Or.inl ⟨0, by decide +kernel, by decide, rfl⟩
theorem dX10_tune_57 : At mX10_tune 57 .ireturn 1 58 := ⟨by decide +kernel, rfl⟩
theorem dX10_tune_58 : AtA mX10_tune 58 0 59 := Or.inr ⟨0, by decide +kernel, rfl, rfl⟩
theorem dX10_tune_59 : AtF mX10_tune 59 10 8 62 := ⟨29, (RX10, TX10, 31), by decide +kernel, rfl, rfl, by decide, Or.inl (Or.inl ⟨890, by decide +kernel⟩)⟩
theorem dX10_tune_62 : AtA mX10_tune 62 0 63 := Or.inr ⟨0, by decide +kernel, rfl, rfl⟩
theorem dX10_tune_63 : AtF mX10_tune 63 10 7 66 := ⟨97, (RX10, TX10, 31), by decide +kernel, rfl, rfl, by decide, Or.inl (Or.inl ⟨889, by decide +kernel⟩)⟩
theorem dX10_tune_66 : AtI mX10_tune 66 1 67 := Or.inr ⟨1, by decide +kernel, rfl, rfl⟩
theorem dX10_tune_67 : At mX10_tune 67 .iastore 1 68 := ⟨by decide +kernel, rfl⟩
theorem dX10_tune_68 : AtA mX10_tune 68 0 69 := Or.inr ⟨0, by decide +kernel, rfl, rfl⟩
theorem dX10_tune_69 : AtF mX10_tune 69 10 10 72 := ⟨35, (RX10, TX10, 31), by decide +kernel, rfl, rfl, by decide, Or.inl (Or.inl ⟨892, by decide +kernel⟩)⟩
theorem dX10_tune_72 : AtA mX10_tune 72 0 73 := Or.inr ⟨0, by decide +kernel, rfl, rfl⟩
theorem dX10_tune_73 : AtF mX10_tune 73 10 7 76 := ⟨97, (RX10, TX10, 31), by decide +kernel, rfl, rfl, by decide, Or.inl (Or.inl ⟨889, by decide +kernel⟩)⟩
theorem dX10_tune_76 : AtI mX10_tune 76 2 77 := Or.inr ⟨2, by decide +kernel, rfl, rfl⟩
theorem dX10_tune_77 : At mX10_tune 77 .iastore 1 78 := ⟨by decide +kernel, rfl⟩
theorem dX10_tune_78 : AtA mX10_tune 78 0 79 := Or.inr ⟨0, by decide +kernel, rfl, rfl⟩
theorem dX10_tune_79 : AtF mX10_tune 79 10 11 82 := ⟨38, (RX10, TX10, 31), by decide +kernel, rfl, rfl, by decide, Or.inl (Or.inl ⟨893, by decide +kernel⟩)⟩
theorem dX10_tune_82 : AtA mX10_tune 82 0 83 := Or.inr ⟨0, by decide +kernel, rfl, rfl⟩
theorem dX10_tune_83 : AtF mX10_tune 83 10 7 86 := ⟨97, (RX10, TX10, 31), by decide +kernel, rfl, rfl, by decide, Or.inl (Or.inl ⟨889, by decide +kernel⟩)⟩
theorem dX10_tune_86 : AtI mX10_tune 86 3 87 := Or.inr ⟨3, by decide +kernel, rfl, rfl⟩
theorem dX10_tune_87 : At mX10_tune 87 .iastore 1 88 := ⟨by decide +kernel, rfl⟩
theorem dX10_tune_88 : AtA mX10_tune 88 0 89 := Or.inr ⟨0, by decide +kernel, rfl, rfl⟩
theorem dX10_tune_89 : At mX10_tune 89 .dup 1 90 := ⟨by decide +kernel, rfl⟩
theorem dX10_tune_90 : AtF mX10_tune 90 10 7 93 := ⟨97, (RX10, TX10, 31), by decide +kernel, rfl, rfl, by decide, Or.inl (Or.inl ⟨889, by decide +kernel⟩)⟩
theorem dX10_tune_93 : AtK mX10_tune 93 (iZ 1) 94 := Or.inl ⟨1, by decide +kernel, by decide, rfl⟩
theorem dX10_tune_94 : At mX10_tune 94 .iadd 1 95 := ⟨by decide +kernel, rfl⟩
theorem dX10_tune_95 : AtP mX10_tune 95 10 7 (.int) 98 := ⟨97, (RX10, TX10, 31), by decide +kernel, rfl, rfl, by decide, Or.inl ⟨889, by decide +kernel⟩, by decide +kernel, Or.inl rfl⟩
theorem dX10_tune_98 : AtA mX10_tune 98 0 99 := Or.inr ⟨0, by decide +kernel, rfl, rfl⟩
theorem dX10_tune_99 : AtF mX10_tune 99 10 7 102 := ⟨97, (RX10, TX10, 31), by decide +kernel, rfl, rfl, by decide, Or.inl (Or.inl ⟨889, by decide +kernel⟩)⟩
theorem dX10_tune_102 : AtK mX10_tune 102 (iZ 1) 103 := Or.inl ⟨1, by decide +kernel, by decide, rfl⟩
theorem dX10_tune_103 : At mX10_tune 103 .isub 1 104 := ⟨by decide +kernel, rfl⟩
theorem dX10_tune_104 : At mX10_tune 104 .ireturn 1 105 := ⟨by decide +kernel, rfl⟩
theorem dX10_phrase_0 : AtA mX10_phrase 0 0 1 := Or.inr ⟨0, by decide +kernel, rfl, rfl⟩
theorem dX10_phrase_1 : AtA mX10_phrase 1 0 2 := Or.inr ⟨0, by decide +kernel, rfl, rfl⟩
theorem dX10_phrase_2 : AtI mX10_phrase 2 1 3 := Or.inr ⟨1, by decide +kernel, rfl, rfl⟩
theorem dX10_phrase_3 : AtV mX10_phrase 3 mX10_isTune 1 10 6 := ⟨112, 1011, 1013, 34, (RX10, TX10, 31), by decide +kernel, rfl, rfl, by decide +kernel, by decide +kernel, by decide +kernel, rfl, ⟨⟨1014, by decide +kernel⟩, ⟨63, by decide +kernel⟩, ⟨by decide, by decide⟩, by decide +kernel, by decide, by decide⟩⟩
theorem dX10_phrase_6 : AtJ mX10_phrase 6 (.ifCond .ne) 9 13 := ⟨7, by decide +kernel, rfl, by decide⟩
theorem dX10_phrase_9 : AtK mX10_phrase 9 (iZ 1) 10 := Or.inl ⟨1, by decide +kernel, by decide, rfl⟩
theorem dX10_phrase_10 : AtG mX10_phrase 10 41 := ⟨31, by decide +kernel, by decide⟩
theorem dX10_phrase_13 : AtI mX10_phrase 13 2 14 := Or.inr ⟨2, by decide +kernel, rfl, rfl⟩
theorem dX10_phrase_14 : AtI mX10_phrase 14 3 15 := Or.inr ⟨3, by decide +kernel, rfl, rfl⟩
theorem dX10_phrase_15 : AtS mX10_phrase 15 mX10_isLine 2 18 := ⟨108, 1000, 1001, by decide +kernel, rfl, by decide +kernel, by decide +kernel, rfl, ⟨⟨1002, by decide +kernel⟩, ⟨63, by decide +kernel⟩, ⟨by decide, by decide⟩, by decide +kernel, by decide, by decide⟩⟩
theorem dX10_phrase_18 : AtJ mX10_phrase 18 (.ifCond .ne) 21 25 := ⟨7, by decide +kernel, rfl, by decide⟩
theorem dX10_phrase_21 : AtK mX10_phrase 21 (iZ 2) 22 := Or.inl ⟨2, by decide +kernel, by decide, rfl⟩
theorem dX10_phrase_22 : AtG mX10_phrase 22 41 := ⟨19, by decide +kernel, by decide⟩
theorem dX10_phrase_25 : AtA mX10_phrase 25 0 26 := Or.inr ⟨0, by decide +kernel, rfl, rfl⟩
theorem dX10_phrase_26 : AtF mX10_phrase 26 10 12 29 := ⟨41, (RX10, TX10, 31), by decide +kernel, rfl, rfl, by decide, Or.inl (Or.inl ⟨894, by decide +kernel⟩)⟩
theorem dX10_phrase_29 : AtI mX10_phrase 29 1 30 := Or.inr ⟨1, by decide +kernel, rfl, rfl⟩
theorem dX10_phrase_30 : At mX10_phrase 30 .iaload 1 31 := ⟨by decide +kernel, rfl⟩
theorem dX10_phrase_31 : AtK mX10_phrase 31 (iZ 8) 33 := Or.inr (Or.inl ⟨8, by decide +kernel, by decide, rfl⟩)
theorem dX10_phrase_33 : AtJ mX10_phrase 33 (.if_icmp .ne) 36 40 := ⟨7, by decide +kernel, rfl, by decide⟩
theorem dX10_phrase_36 : AtK mX10_phrase 36 (iZ 3) 37 := Or.inl ⟨3, by decide +kernel, by decide, rfl⟩
theorem dX10_phrase_37 : AtG mX10_phrase 37 41 := ⟨4, by decide +kernel, by decide⟩
theorem dX10_phrase_40 : AtK mX10_phrase 40 (iZ 0) 41 := Or.inl ⟨0, by decide +kernel, by decide, rfl⟩
theorem dX10_phrase_41 : AtP mX10_phrase 41 10 30 (.int) 44 := ⟨86, (RX10, TX10, 31), by decide +kernel, rfl, rfl, by decide, Or.inl ⟨912, by decide +kernel⟩, by decide +kernel, Or.inl rfl⟩
theorem dX10_phrase_44 : AtA mX10_phrase 44 0 45 := Or.inr ⟨0, by decide +kernel, rfl, rfl⟩
theorem dX10_phrase_45 : AtF mX10_phrase 45 10 30 48 := ⟨86, (RX10, TX10, 31), by decide +kernel, rfl, rfl, by decide, Or.inl (Or.inl ⟨912, by decide +kernel⟩)⟩
theorem dX10_phrase_48 : AtJ mX10_phrase 48 (.ifCond .le) 51 53 := ⟨5, by decide +kernel, rfl, by decide⟩
theorem dX10_phrase_51 : AtK mX10_phrase 51 (iZ 0) 52 := Or.inl ⟨0, by decide +kernel, by decide, rfl⟩
theorem dX10_phrase_52 : At mX10_phrase 52 .ireturn 1 53 := ⟨by decide +kernel, rfl⟩
theorem dX10_phrase_53 : AtA mX10_phrase 53 0 54 := Or.inr ⟨0, by decide +kernel, rfl, rfl⟩
theorem dX10_phrase_54 : AtF mX10_phrase 54 10 13 57 := ⟨44, (RX10, TX10, 31), by decide +kernel, rfl, rfl, by decide, Or.inl (Or.inl ⟨895, by decide +kernel⟩)⟩
theorem dX10_phrase_57 : AtK mX10_phrase 57 (iZ 8) 59 := Or.inr (Or.inl ⟨8, by decide +kernel, by decide, rfl⟩)
theorem dX10_phrase_59 : AtI mX10_phrase 59 1 60 := Or.inr ⟨1, by decide +kernel, rfl, rfl⟩
theorem dX10_phrase_60 : At mX10_phrase 60 .imul 1 61 := ⟨by decide +kernel, rfl⟩
theorem dX10_phrase_61 : AtA mX10_phrase 61 0 62 := Or.inr ⟨0, by decide +kernel, rfl, rfl⟩
theorem dX10_phrase_62 : AtF mX10_phrase 62 10 12 65 := ⟨41, (RX10, TX10, 31), by decide +kernel, rfl, rfl, by decide, Or.inl (Or.inl ⟨894, by decide +kernel⟩)⟩
theorem dX10_phrase_65 : AtI mX10_phrase 65 1 66 := Or.inr ⟨1, by decide +kernel, rfl, rfl⟩
theorem dX10_phrase_66 : At mX10_phrase 66 .iaload 1 67 := ⟨by decide +kernel, rfl⟩
theorem dX10_phrase_67 : At mX10_phrase 67 .iadd 1 68 := ⟨by decide +kernel, rfl⟩
theorem dX10_phrase_68 : AtI mX10_phrase 68 2 69 := Or.inr ⟨2, by decide +kernel, rfl, rfl⟩
theorem dX10_phrase_69 : At mX10_phrase 69 .iastore 1 70 := ⟨by decide +kernel, rfl⟩
theorem dX10_phrase_70 : AtA mX10_phrase 70 0 71 := Or.inr ⟨0, by decide +kernel, rfl, rfl⟩
theorem dX10_phrase_71 : AtF mX10_phrase 71 10 14 74 := ⟨47, (RX10, TX10, 31), by decide +kernel, rfl, rfl, by decide, Or.inl (Or.inl ⟨896, by decide +kernel⟩)⟩
theorem dX10_phrase_74 : AtK mX10_phrase 74 (iZ 8) 76 := Or.inr (Or.inl ⟨8, by decide +kernel, by decide, rfl⟩)
theorem dX10_phrase_76 : AtI mX10_phrase 76 1 77 := Or.inr ⟨1, by decide +kernel, rfl, rfl⟩
theorem dX10_phrase_77 : At mX10_phrase 77 .imul 1 78 := ⟨by decide +kernel, rfl⟩
theorem dX10_phrase_78 : AtA mX10_phrase 78 0 79 := Or.inr ⟨0, by decide +kernel, rfl, rfl⟩
theorem dX10_phrase_79 : AtF mX10_phrase 79 10 12 82 := ⟨41, (RX10, TX10, 31), by decide +kernel, rfl, rfl, by decide, Or.inl (Or.inl ⟨894, by decide +kernel⟩)⟩
theorem dX10_phrase_82 : AtI mX10_phrase 82 1 83 := Or.inr ⟨1, by decide +kernel, rfl, rfl⟩
theorem dX10_phrase_83 : At mX10_phrase 83 .iaload 1 84 := ⟨by decide +kernel, rfl⟩
theorem dX10_phrase_84 : At mX10_phrase 84 .iadd 1 85 := ⟨by decide +kernel, rfl⟩
theorem dX10_phrase_85 : AtI mX10_phrase 85 3 86 := Or.inr ⟨3, by decide +kernel, rfl, rfl⟩
theorem dX10_phrase_86 : At mX10_phrase 86 .iastore 1 87 := ⟨by decide +kernel, rfl⟩
theorem dX10_phrase_87 : AtA mX10_phrase 87 0 88 := Or.inr ⟨0, by decide +kernel, rfl, rfl⟩
theorem dX10_phrase_88 : AtF mX10_phrase 88 10 12 91 := ⟨41, (RX10, TX10, 31), by decide +kernel, rfl, rfl, by decide, Or.inl (Or.inl ⟨894, by decide +kernel⟩)⟩
theorem dX10_phrase_91 : AtI mX10_phrase 91 1 92 := Or.inr ⟨1, by decide +kernel, rfl, rfl⟩
theorem dX10_phrase_92 : At mX10_phrase 92 .dup2 1 93 := ⟨by decide +kernel, rfl⟩
theorem dX10_phrase_93 : At mX10_phrase 93 .iaload 1 94 := ⟨by decide +kernel, rfl⟩
theorem dX10_phrase_94 : AtK mX10_phrase 94 (iZ 1) 95 := Or.inl ⟨1, by decide +kernel, by decide, rfl⟩
theorem dX10_phrase_95 : At mX10_phrase 95 .iadd 1 96 := ⟨by decide +kernel, rfl⟩
theorem dX10_phrase_96 : At mX10_phrase 96 .iastore 1 97 := ⟨by decide +kernel, rfl⟩
theorem dX10_phrase_97 : AtA mX10_phrase 97 0 98 := Or.inr ⟨0, by decide +kernel, rfl, rfl⟩
theorem dX10_phrase_98 : AtF mX10_phrase 98 10 12 101 := ⟨41, (RX10, TX10, 31), by decide +kernel, rfl, rfl, by decide, Or.inl (Or.inl ⟨894, by decide +kernel⟩)⟩
theorem dX10_phrase_101 : AtI mX10_phrase 101 1 102 := Or.inr ⟨1, by decide +kernel, rfl, rfl⟩
theorem dX10_phrase_102 : At mX10_phrase 102 .iaload 1 103 := ⟨by decide +kernel, rfl⟩
theorem dX10_phrase_103 : At mX10_phrase 103 .ireturn 1 104 := ⟨by decide +kernel, rfl⟩
theorem dX10_fit_0 : AtA mX10_fit 0 0 1 := Or.inr ⟨0, by decide +kernel, rfl, rfl⟩
theorem dX10_fit_1 : AtF mX10_fit 1 10 12 4 := ⟨41, (RX10, TX10, 31), by decide +kernel, rfl, rfl, by decide, Or.inl (Or.inl ⟨894, by decide +kernel⟩)⟩
theorem dX10_fit_4 : AtI mX10_fit 4 2 5 := Or.inr ⟨2, by decide +kernel, rfl, rfl⟩
theorem dX10_fit_5 : At mX10_fit 5 .iaload 1 6 := ⟨by decide +kernel, rfl⟩
theorem dX10_fit_6 : AtSI mX10_fit 6 3 7 := ⟨Or.inr ⟨3, by decide +kernel, rfl, rfl⟩, by decide⟩
theorem dX10_fit_7 : AtI mX10_fit 7 3 8 := Or.inr ⟨3, by decide +kernel, rfl, rfl⟩
theorem dX10_fit_8 : AtJ mX10_fit 8 (.ifCond .ne) 11 15 := ⟨7, by decide +kernel, rfl, by decide⟩
theorem dX10_fit_11 : AtK mX10_fit 11 (iZ 0) 12 := Or.inl ⟨0, by decide +kernel, by decide, rfl⟩
theorem dX10_fit_12 : AtG mX10_fit 12 46 := ⟨34, by decide +kernel, by decide⟩
theorem dX10_fit_15 : AtA mX10_fit 15 0 16 := Or.inr ⟨0, by decide +kernel, rfl, rfl⟩
theorem dX10_fit_16 : AtF mX10_fit 16 10 4 19 := ⟨20, (RX10, TX10, 31), by decide +kernel, rfl, rfl, by decide, Or.inl (Or.inl ⟨886, by decide +kernel⟩)⟩
theorem dX10_fit_19 : AtI mX10_fit 19 1 20 := Or.inr ⟨1, by decide +kernel, rfl, rfl⟩
theorem dX10_fit_20 : At mX10_fit 20 .iaload 1 21 := ⟨by decide +kernel, rfl⟩
theorem dX10_fit_21 : AtI mX10_fit 21 3 22 := Or.inr ⟨3, by decide +kernel, rfl, rfl⟩
theorem dX10_fit_22 : AtJ mX10_fit 22 (.if_icmp .ne) 25 29 := ⟨7, by decide +kernel, rfl, by decide⟩
theorem dX10_fit_25 : AtK mX10_fit 25 (iZ 1) 26 := Or.inl ⟨1, by decide +kernel, by decide, rfl⟩
theorem dX10_fit_26 : AtG mX10_fit 26 46 := ⟨20, by decide +kernel, by decide⟩
theorem dX10_fit_29 : AtA mX10_fit 29 0 30 := Or.inr ⟨0, by decide +kernel, rfl, rfl⟩
theorem dX10_fit_30 : AtF mX10_fit 30 10 4 33 := ⟨20, (RX10, TX10, 31), by decide +kernel, rfl, rfl, by decide, Or.inl (Or.inl ⟨886, by decide +kernel⟩)⟩
theorem dX10_fit_33 : AtI mX10_fit 33 1 34 := Or.inr ⟨1, by decide +kernel, rfl, rfl⟩
theorem dX10_fit_34 : At mX10_fit 34 .iaload 1 35 := ⟨by decide +kernel, rfl⟩
theorem dX10_fit_35 : AtK mX10_fit 35 (iZ 2) 36 := Or.inl ⟨2, by decide +kernel, by decide, rfl⟩
theorem dX10_fit_36 : AtI mX10_fit 36 3 37 := Or.inr ⟨3, by decide +kernel, rfl, rfl⟩
theorem dX10_fit_37 : At mX10_fit 37 .imul 1 38 := ⟨by decide +kernel, rfl⟩
theorem dX10_fit_38 : AtJ mX10_fit 38 (.if_icmp .ne) 41 45 := ⟨7, by decide +kernel, rfl, by decide⟩
theorem dX10_fit_41 : AtK mX10_fit 41 (iZ 2) 42 := Or.inl ⟨2, by decide +kernel, by decide, rfl⟩
theorem dX10_fit_42 : AtG mX10_fit 42 46 := ⟨4, by decide +kernel, by decide⟩
theorem dX10_fit_45 : AtK mX10_fit 45 (iZ 0) 46 := Or.inl ⟨0, by decide +kernel, by decide, rfl⟩
theorem dX10_fit_46 : AtSI mX10_fit 46 4 48 := ⟨Or.inl ⟨by decide +kernel, rfl⟩, by decide⟩
theorem dX10_fit_48 : AtI mX10_fit 48 4 50 := Or.inl ⟨by decide +kernel, rfl⟩
theorem dX10_fit_50 : AtJ mX10_fit 50 (.ifCond .le) 53 57 := ⟨7, by decide +kernel, rfl, by decide⟩
theorem dX10_fit_53 : AtK mX10_fit 53 (iZ 1) 54 := Or.inl ⟨1, by decide +kernel, by decide, rfl⟩
theorem dX10_fit_54 : AtG mX10_fit 54 58 := ⟨4, by decide +kernel, by decide⟩
theorem dX10_fit_57 : AtK mX10_fit 57 (iZ 0) 58 := Or.inl ⟨0, by decide +kernel, by decide, rfl⟩
theorem dX10_fit_58 : AtSI mX10_fit 58 5 60 := ⟨Or.inl ⟨by decide +kernel, rfl⟩, by decide⟩
theorem dX10_fit_60 : AtK mX10_fit 60 (iZ 0) 61 := Or.inl ⟨0, by decide +kernel, by decide, rfl⟩
theorem dX10_fit_61 : AtSI mX10_fit 61 6 63 := ⟨Or.inl ⟨by decide +kernel, rfl⟩, by decide⟩
theorem dX10_fit_63 : AtI mX10_fit 63 6 65 := Or.inl ⟨by decide +kernel, rfl⟩
theorem dX10_fit_65 : AtI mX10_fit 65 4 67 := Or.inl ⟨by decide +kernel, rfl⟩
theorem dX10_fit_67 : AtI mX10_fit 67 3 68 := Or.inr ⟨3, by decide +kernel, rfl, rfl⟩
theorem dX10_fit_68 : At mX10_fit 68 .imul 1 69 := ⟨by decide +kernel, rfl⟩
theorem dX10_fit_69 : AtJ mX10_fit 69 (.if_icmp .ge) 72 117 := ⟨48, by decide +kernel, rfl, by decide⟩
theorem dX10_fit_72 : AtI mX10_fit 72 5 74 := Or.inl ⟨by decide +kernel, rfl⟩
theorem dX10_fit_74 : AtA mX10_fit 74 0 75 := Or.inr ⟨0, by decide +kernel, rfl, rfl⟩
theorem dX10_fit_75 : AtF mX10_fit 75 10 5 78 := ⟨23, (RX10, TX10, 31), by decide +kernel, rfl, rfl, by decide, Or.inl (Or.inl ⟨887, by decide +kernel⟩)⟩
theorem dX10_fit_78 : AtK mX10_fit 78 (iZ 8) 80 := Or.inr (Or.inl ⟨8, by decide +kernel, by decide, rfl⟩)
theorem dX10_fit_80 : AtI mX10_fit 80 1 81 := Or.inr ⟨1, by decide +kernel, rfl, rfl⟩
theorem dX10_fit_81 : At mX10_fit 81 .imul 1 82 := ⟨by decide +kernel, rfl⟩
theorem dX10_fit_82 : AtI mX10_fit 82 6 84 := Or.inl ⟨by decide +kernel, rfl⟩
theorem dX10_fit_84 : At mX10_fit 84 .iadd 1 85 := ⟨by decide +kernel, rfl⟩
theorem dX10_fit_85 : At mX10_fit 85 .iaload 1 86 := ⟨by decide +kernel, rfl⟩
theorem dX10_fit_86 : AtA mX10_fit 86 0 87 := Or.inr ⟨0, by decide +kernel, rfl, rfl⟩
theorem dX10_fit_87 : AtF mX10_fit 87 10 13 90 := ⟨44, (RX10, TX10, 31), by decide +kernel, rfl, rfl, by decide, Or.inl (Or.inl ⟨895, by decide +kernel⟩)⟩
theorem dX10_fit_90 : AtK mX10_fit 90 (iZ 8) 92 := Or.inr (Or.inl ⟨8, by decide +kernel, by decide, rfl⟩)
theorem dX10_fit_92 : AtI mX10_fit 92 2 93 := Or.inr ⟨2, by decide +kernel, rfl, rfl⟩
theorem dX10_fit_93 : At mX10_fit 93 .imul 1 94 := ⟨by decide +kernel, rfl⟩
theorem dX10_fit_94 : AtI mX10_fit 94 6 96 := Or.inl ⟨by decide +kernel, rfl⟩
theorem dX10_fit_96 : AtI mX10_fit 96 3 97 := Or.inr ⟨3, by decide +kernel, rfl, rfl⟩
theorem dX10_fit_97 : At mX10_fit 97 .irem 1 98 := ⟨by decide +kernel, rfl⟩
theorem dX10_fit_98 : At mX10_fit 98 .iadd 1 99 := ⟨by decide +kernel, rfl⟩
theorem dX10_fit_99 : At mX10_fit 99 .iaload 1 100 := ⟨by decide +kernel, rfl⟩
theorem dX10_fit_100 : AtJ mX10_fit 100 (.if_icmp .ne) 103 107 := ⟨7, by decide +kernel, rfl, by decide⟩
theorem dX10_fit_103 : AtK mX10_fit 103 (iZ 1) 104 := Or.inl ⟨1, by decide +kernel, by decide, rfl⟩
theorem dX10_fit_104 : AtG mX10_fit 104 108 := ⟨4, by decide +kernel, by decide⟩
theorem dX10_fit_107 : AtK mX10_fit 107 (iZ 0) 108 := Or.inl ⟨0, by decide +kernel, by decide, rfl⟩
theorem dX10_fit_108 : At mX10_fit 108 .iand 1 109 := ⟨by decide +kernel, rfl⟩
theorem dX10_fit_109 : AtSI mX10_fit 109 5 111 := ⟨Or.inl ⟨by decide +kernel, rfl⟩, by decide⟩
theorem dX10_fit_111 : AtInc mX10_fit 111 6 (iZ 1) 114 := ⟨1, by decide +kernel, by decide, rfl, by decide⟩
theorem dX10_fit_114 : AtG mX10_fit 114 63 := ⟨(-51), by decide +kernel, by decide⟩
theorem dX10_fit_117 : AtI mX10_fit 117 5 119 := Or.inl ⟨by decide +kernel, rfl⟩
theorem dX10_fit_119 : AtJ mX10_fit 119 (.ifCond .eq) 122 127 := ⟨8, by decide +kernel, rfl, by decide⟩
theorem dX10_fit_122 : AtI mX10_fit 122 4 124 := Or.inl ⟨by decide +kernel, rfl⟩
theorem dX10_fit_124 : AtG mX10_fit 124 128 := ⟨4, by decide +kernel, by decide⟩
theorem dX10_fit_127 : AtK mX10_fit 127 (iZ 0) 128 := Or.inl ⟨0, by decide +kernel, by decide, rfl⟩
theorem dX10_fit_128 : At mX10_fit 128 .ireturn 1 129 := ⟨by decide +kernel, rfl⟩
theorem dX10_fits_0 : AtA mX10_fits 0 0 1 := Or.inr ⟨0, by decide +kernel, rfl, rfl⟩
theorem dX10_fits_1 : AtA mX10_fits 1 0 2 := Or.inr ⟨0, by decide +kernel, rfl, rfl⟩
theorem dX10_fits_2 : AtI mX10_fits 2 1 3 := Or.inr ⟨1, by decide +kernel, rfl, rfl⟩
theorem dX10_fits_3 : AtV mX10_fits 3 mX10_isText 1 10 6 := ⟨105, 996, 998, 33, (RX10, TX10, 31), by decide +kernel, rfl, rfl, by decide +kernel, by decide +kernel, by decide +kernel, rfl, ⟨⟨999, by decide +kernel⟩, ⟨63, by decide +kernel⟩, ⟨by decide, by decide⟩, by decide +kernel, by decide, by decide⟩⟩
theorem dX10_fits_6 : AtJ mX10_fits 6 (.ifCond .eq) 9 21 := ⟨15, by decide +kernel, rfl, by decide⟩
theorem dX10_fits_9 : AtA mX10_fits 9 0 10 := Or.inr ⟨0, by decide +kernel, rfl, rfl⟩
theorem dX10_fits_10 : AtI mX10_fits 10 2 11 := Or.inr ⟨2, by decide +kernel, rfl, rfl⟩
theorem dX10_fits_11 : AtV mX10_fits 11 mX10_isTune 1 10 14 := ⟨112, 1011, 1013, 34, (RX10, TX10, 31), by decide +kernel, rfl, rfl, by decide +kernel, by decide +kernel, by decide +kernel, rfl, ⟨⟨1014, by decide +kernel⟩, ⟨63, by decide +kernel⟩, ⟨by decide, by decide⟩, by decide +kernel, by decide, by decide⟩⟩
theorem dX10_fits_14 : AtJ mX10_fits 14 (.ifCond .eq) 17 21 := ⟨7, by decide +kernel, rfl, by decide⟩
theorem dX10_fits_17 : AtK mX10_fits 17 (iZ 0) 18 := Or.inl ⟨0, by decide +kernel, by decide, rfl⟩
theorem dX10_fits_18 : AtG mX10_fits 18 22 := ⟨4, by decide +kernel, by decide⟩
theorem dX10_fits_21 : AtK mX10_fits 21 (iZ 1) 22 := Or.inl ⟨1, by decide +kernel, by decide, rfl⟩
theorem dX10_fits_22 : AtP mX10_fits 22 10 30 (.int) 25 := ⟨86, (RX10, TX10, 31), by decide +kernel, rfl, rfl, by decide, Or.inl ⟨912, by decide +kernel⟩, by decide +kernel, Or.inl rfl⟩
theorem dX10_fits_25 : AtA mX10_fits 25 0 26 := Or.inr ⟨0, by decide +kernel, rfl, rfl⟩
theorem dX10_fits_26 : AtF mX10_fits 26 10 30 29 := ⟨86, (RX10, TX10, 31), by decide +kernel, rfl, rfl, by decide, Or.inl (Or.inl ⟨912, by decide +kernel⟩)⟩
theorem dX10_fits_29 : AtJ mX10_fits 29 (.ifCond .le) 32 36 := ⟨7, by decide +kernel, rfl, by decide⟩
theorem dX10_fits_32 : AtK mX10_fits 32 (iZ 0) 33 := Or.inl ⟨0, by decide +kernel, by decide, rfl⟩
theorem dX10_fits_33 : AtG mX10_fits 33 42 := ⟨9, by decide +kernel, by decide⟩
theorem dX10_fits_36 : AtA mX10_fits 36 0 37 := Or.inr ⟨0, by decide +kernel, rfl, rfl⟩
theorem dX10_fits_37 : AtI mX10_fits 37 1 38 := Or.inr ⟨1, by decide +kernel, rfl, rfl⟩
theorem dX10_fits_38 : AtI mX10_fits 38 2 39 := Or.inr ⟨2, by decide +kernel, rfl, rfl⟩
theorem dX10_fits_39 : AtV mX10_fits 39 mX10_fit 2 10 42 := ⟨115, 1019, 1021, 35, (RX10, TX10, 31), by decide +kernel, rfl, rfl, by decide +kernel, by decide +kernel, by decide +kernel, rfl, ⟨⟨1022, by decide +kernel⟩, ⟨63, by decide +kernel⟩, ⟨by decide, by decide⟩, by decide +kernel, by decide, by decide⟩⟩
theorem dX10_fits_42 : At mX10_fits 42 .ireturn 1 43 := ⟨by decide +kernel, rfl⟩
theorem dX10_clash_0 : AtK mX10_clash 0 (iZ 0) 1 := Or.inl ⟨0, by decide +kernel, by decide, rfl⟩
theorem dX10_clash_1 : AtSI mX10_clash 1 3 2 := ⟨Or.inr ⟨3, by decide +kernel, rfl, rfl⟩, by decide⟩
theorem dX10_clash_2 : AtK mX10_clash 2 (iZ 0) 3 := Or.inl ⟨0, by decide +kernel, by decide, rfl⟩
theorem dX10_clash_3 : AtSI mX10_clash 3 4 5 := ⟨Or.inl ⟨by decide +kernel, rfl⟩, by decide⟩
theorem dX10_clash_5 : AtI mX10_clash 5 4 7 := Or.inl ⟨by decide +kernel, rfl⟩
theorem dX10_clash_7 : AtA mX10_clash 7 0 8 := Or.inr ⟨0, by decide +kernel, rfl, rfl⟩
theorem dX10_clash_8 : AtF mX10_clash 8 10 4 11 := ⟨20, (RX10, TX10, 31), by decide +kernel, rfl, rfl, by decide, Or.inl (Or.inl ⟨886, by decide +kernel⟩)⟩
theorem dX10_clash_11 : AtI mX10_clash 11 1 12 := Or.inr ⟨1, by decide +kernel, rfl, rfl⟩
theorem dX10_clash_12 : At mX10_clash 12 .iaload 1 13 := ⟨by decide +kernel, rfl⟩
theorem dX10_clash_13 : AtJ mX10_clash 13 (.if_icmp .ge) 16 82 := ⟨69, by decide +kernel, rfl, by decide⟩
theorem dX10_clash_16 : AtA mX10_clash 16 0 17 := Or.inr ⟨0, by decide +kernel, rfl, rfl⟩
theorem dX10_clash_17 : AtF mX10_clash 17 10 6 20 := ⟨26, (RX10, TX10, 31), by decide +kernel, rfl, rfl, by decide, Or.inl (Or.inl ⟨888, by decide +kernel⟩)⟩
theorem dX10_clash_20 : AtK mX10_clash 20 (iZ 8) 22 := Or.inr (Or.inl ⟨8, by decide +kernel, by decide, rfl⟩)
theorem dX10_clash_22 : AtI mX10_clash 22 1 23 := Or.inr ⟨1, by decide +kernel, rfl, rfl⟩
theorem dX10_clash_23 : At mX10_clash 23 .imul 1 24 := ⟨by decide +kernel, rfl⟩
theorem dX10_clash_24 : AtI mX10_clash 24 4 26 := Or.inl ⟨by decide +kernel, rfl⟩
theorem dX10_clash_26 : At mX10_clash 26 .iadd 1 27 := ⟨by decide +kernel, rfl⟩
theorem dX10_clash_27 : At mX10_clash 27 .iaload 1 28 := ⟨by decide +kernel, rfl⟩
theorem dX10_clash_28 : AtA mX10_clash 28 0 29 := Or.inr ⟨0, by decide +kernel, rfl, rfl⟩
theorem dX10_clash_29 : AtF mX10_clash 29 10 14 32 := ⟨47, (RX10, TX10, 31), by decide +kernel, rfl, rfl, by decide, Or.inl (Or.inl ⟨896, by decide +kernel⟩)⟩
theorem dX10_clash_32 : AtK mX10_clash 32 (iZ 8) 34 := Or.inr (Or.inl ⟨8, by decide +kernel, by decide, rfl⟩)
theorem dX10_clash_34 : AtI mX10_clash 34 2 35 := Or.inr ⟨2, by decide +kernel, rfl, rfl⟩
theorem dX10_clash_35 : At mX10_clash 35 .imul 1 36 := ⟨by decide +kernel, rfl⟩
theorem dX10_clash_36 : AtI mX10_clash 36 4 38 := Or.inl ⟨by decide +kernel, rfl⟩
theorem dX10_clash_38 : AtA mX10_clash 38 0 39 := Or.inr ⟨0, by decide +kernel, rfl, rfl⟩
theorem dX10_clash_39 : AtF mX10_clash 39 10 12 42 := ⟨41, (RX10, TX10, 31), by decide +kernel, rfl, rfl, by decide, Or.inl (Or.inl ⟨894, by decide +kernel⟩)⟩
theorem dX10_clash_42 : AtI mX10_clash 42 2 43 := Or.inr ⟨2, by decide +kernel, rfl, rfl⟩
theorem dX10_clash_43 : At mX10_clash 43 .iaload 1 44 := ⟨by decide +kernel, rfl⟩
theorem dX10_clash_44 : At mX10_clash 44 .irem 1 45 := ⟨by decide +kernel, rfl⟩
theorem dX10_clash_45 : At mX10_clash 45 .iadd 1 46 := ⟨by decide +kernel, rfl⟩
theorem dX10_clash_46 : At mX10_clash 46 .iaload 1 47 := ⟨by decide +kernel, rfl⟩
theorem dX10_clash_47 : At mX10_clash 47 .ixor 1 48 := ⟨by decide +kernel, rfl⟩
theorem dX10_clash_48 : AtSI mX10_clash 48 5 50 := ⟨Or.inl ⟨by decide +kernel, rfl⟩, by decide⟩
theorem dX10_clash_50 : AtK mX10_clash 50 (iZ 0) 51 := Or.inl ⟨0, by decide +kernel, by decide, rfl⟩
theorem dX10_clash_51 : AtSI mX10_clash 51 6 53 := ⟨Or.inl ⟨by decide +kernel, rfl⟩, by decide⟩
theorem dX10_clash_53 : AtI mX10_clash 53 6 55 := Or.inl ⟨by decide +kernel, rfl⟩
theorem dX10_clash_55 : AtK mX10_clash 55 (iZ 12) 57 := Or.inr (Or.inl ⟨12, by decide +kernel, by decide, rfl⟩)
theorem dX10_clash_57 : AtJ mX10_clash 57 (.if_icmp .ge) 60 76 := ⟨19, by decide +kernel, rfl, by decide⟩
theorem dX10_clash_60 : AtI mX10_clash 60 3 61 := Or.inr ⟨3, by decide +kernel, rfl, rfl⟩
theorem dX10_clash_61 : AtI mX10_clash 61 5 63 := Or.inl ⟨by decide +kernel, rfl⟩
theorem dX10_clash_63 : AtI mX10_clash 63 6 65 := Or.inl ⟨by decide +kernel, rfl⟩
theorem dX10_clash_65 : At mX10_clash 65 .ishr 1 66 := ⟨by decide +kernel, rfl⟩
theorem dX10_clash_66 : AtK mX10_clash 66 (iZ 1) 67 := Or.inl ⟨1, by decide +kernel, by decide, rfl⟩
theorem dX10_clash_67 : At mX10_clash 67 .iand 1 68 := ⟨by decide +kernel, rfl⟩
theorem dX10_clash_68 : At mX10_clash 68 .iadd 1 69 := ⟨by decide +kernel, rfl⟩
theorem dX10_clash_69 : AtSI mX10_clash 69 3 70 := ⟨Or.inr ⟨3, by decide +kernel, rfl, rfl⟩, by decide⟩
theorem dX10_clash_70 : AtInc mX10_clash 70 6 (iZ 1) 73 := ⟨1, by decide +kernel, by decide, rfl, by decide⟩
theorem dX10_clash_73 : AtG mX10_clash 73 53 := ⟨(-20), by decide +kernel, by decide⟩
theorem dX10_clash_76 : AtInc mX10_clash 76 4 (iZ 1) 79 := ⟨1, by decide +kernel, by decide, rfl, by decide⟩
theorem dX10_clash_79 : AtG mX10_clash 79 5 := ⟨(-74), by decide +kernel, by decide⟩
theorem dX10_clash_82 : AtI mX10_clash 82 3 83 := Or.inr ⟨3, by decide +kernel, rfl, rfl⟩
theorem dX10_clash_83 : At mX10_clash 83 .ireturn 1 84 := ⟨by decide +kernel, rfl⟩
theorem dX10_clashes_0 : AtA mX10_clashes 0 0 1 := Or.inr ⟨0, by decide +kernel, rfl, rfl⟩
theorem dX10_clashes_1 : AtA mX10_clashes 1 0 2 := Or.inr ⟨0, by decide +kernel, rfl, rfl⟩
theorem dX10_clashes_2 : AtI mX10_clashes 2 1 3 := Or.inr ⟨1, by decide +kernel, rfl, rfl⟩
theorem dX10_clashes_3 : AtV mX10_clashes 3 mX10_isText 1 10 6 := ⟨105, 996, 998, 33, (RX10, TX10, 31), by decide +kernel, rfl, rfl, by decide +kernel, by decide +kernel, by decide +kernel, rfl, ⟨⟨999, by decide +kernel⟩, ⟨63, by decide +kernel⟩, ⟨by decide, by decide⟩, by decide +kernel, by decide, by decide⟩⟩
theorem dX10_clashes_6 : AtJ mX10_clashes 6 (.ifCond .eq) 9 17 := ⟨11, by decide +kernel, rfl, by decide⟩
theorem dX10_clashes_9 : AtA mX10_clashes 9 0 10 := Or.inr ⟨0, by decide +kernel, rfl, rfl⟩
theorem dX10_clashes_10 : AtI mX10_clashes 10 2 11 := Or.inr ⟨2, by decide +kernel, rfl, rfl⟩
theorem dX10_clashes_11 : AtV mX10_clashes 11 mX10_isTune 1 10 14 := ⟨112, 1011, 1013, 34, (RX10, TX10, 31), by decide +kernel, rfl, rfl, by decide +kernel, by decide +kernel, by decide +kernel, rfl, ⟨⟨1014, by decide +kernel⟩, ⟨63, by decide +kernel⟩, ⟨by decide, by decide⟩, by decide +kernel, by decide, by decide⟩⟩
theorem dX10_clashes_14 : AtJ mX10_clashes 14 (.ifCond .ne) 17 21 := ⟨7, by decide +kernel, rfl, by decide⟩
theorem dX10_clashes_17 : AtK mX10_clashes 17 (iZ 1) 18 := Or.inl ⟨1, by decide +kernel, by decide, rfl⟩
theorem dX10_clashes_18 : AtG mX10_clashes 18 35 := ⟨17, by decide +kernel, by decide⟩
theorem dX10_clashes_21 : AtA mX10_clashes 21 0 22 := Or.inr ⟨0, by decide +kernel, rfl, rfl⟩
theorem dX10_clashes_22 : AtI mX10_clashes 22 1 23 := Or.inr ⟨1, by decide +kernel, rfl, rfl⟩
theorem dX10_clashes_23 : AtI mX10_clashes 23 2 24 := Or.inr ⟨2, by decide +kernel, rfl, rfl⟩
theorem dX10_clashes_24 : AtV mX10_clashes 24 mX10_fit 2 10 27 := ⟨115, 1019, 1021, 35, (RX10, TX10, 31), by decide +kernel, rfl, rfl, by decide +kernel, by decide +kernel, by decide +kernel, rfl, ⟨⟨1022, by decide +kernel⟩, ⟨63, by decide +kernel⟩, ⟨by decide, by decide⟩, by decide +kernel, by decide, by decide⟩⟩
theorem dX10_clashes_27 : AtJ mX10_clashes 27 (.ifCond .ne) 30 34 := ⟨7, by decide +kernel, rfl, by decide⟩
theorem dX10_clashes_30 : AtK mX10_clashes 30 (iZ 2) 31 := Or.inl ⟨2, by decide +kernel, by decide, rfl⟩
theorem dX10_clashes_31 : AtG mX10_clashes 31 35 := ⟨4, by decide +kernel, by decide⟩
theorem dX10_clashes_34 : AtK mX10_clashes 34 (iZ 0) 35 := Or.inl ⟨0, by decide +kernel, by decide, rfl⟩
theorem dX10_clashes_35 : AtP mX10_clashes 35 10 30 (.int) 38 := ⟨86, (RX10, TX10, 31), by decide +kernel, rfl, rfl, by decide, Or.inl ⟨912, by decide +kernel⟩, by decide +kernel, Or.inl rfl⟩
theorem dX10_clashes_38 : AtA mX10_clashes 38 0 39 := Or.inr ⟨0, by decide +kernel, rfl, rfl⟩
theorem dX10_clashes_39 : AtF mX10_clashes 39 10 30 42 := ⟨86, (RX10, TX10, 31), by decide +kernel, rfl, rfl, by decide, Or.inl (Or.inl ⟨912, by decide +kernel⟩)⟩
theorem dX10_clashes_42 : AtJ mX10_clashes 42 (.ifCond .le) 45 49 := ⟨7, by decide +kernel, rfl, by decide⟩
theorem dX10_clashes_45 : AtK mX10_clashes 45 (iZ 0) 46 := Or.inl ⟨0, by decide +kernel, by decide, rfl⟩
theorem dX10_clashes_46 : AtG mX10_clashes 46 55 := ⟨9, by decide +kernel, by decide⟩
theorem dX10_clashes_49 : AtA mX10_clashes 49 0 50 := Or.inr ⟨0, by decide +kernel, rfl, rfl⟩
theorem dX10_clashes_50 : AtI mX10_clashes 50 1 51 := Or.inr ⟨1, by decide +kernel, rfl, rfl⟩
theorem dX10_clashes_51 : AtI mX10_clashes 51 2 52 := Or.inr ⟨2, by decide +kernel, rfl, rfl⟩
theorem dX10_clashes_52 : AtV mX10_clashes 52 mX10_clash 2 10 55 := ⟨119, 1027, 1029, 36, (RX10, TX10, 31), by decide +kernel, rfl, rfl, by decide +kernel, by decide +kernel, by decide +kernel, rfl, ⟨⟨1030, by decide +kernel⟩, ⟨63, by decide +kernel⟩, ⟨by decide, by decide⟩, by decide +kernel, by decide, by decide⟩⟩
theorem dX10_clashes_55 : At mX10_clashes 55 .ireturn 1 56 := ⟨by decide +kernel, rfl⟩
theorem dX10_isTuneFree_0 : AtA mX10_isTuneFree 0 0 1 := Or.inr ⟨0, by decide +kernel, rfl, rfl⟩
theorem dX10_isTuneFree_1 : AtF mX10_isTuneFree 1 10 9 4 := ⟨32, (RX10, TX10, 31), by decide +kernel, rfl, rfl, by decide, Or.inl (Or.inl ⟨891, by decide +kernel⟩)⟩
theorem dX10_isTuneFree_4 : AtI mX10_isTuneFree 4 1 5 := Or.inr ⟨1, by decide +kernel, rfl, rfl⟩
theorem dX10_isTuneFree_5 : At mX10_isTuneFree 5 .baload 1 6 := ⟨by decide +kernel, rfl⟩
theorem dX10_isTuneFree_6 : AtJ mX10_isTuneFree 6 (.ifCond .ne) 9 22 := ⟨16, by decide +kernel, rfl, by decide⟩
theorem dX10_isTuneFree_9 : AtI mX10_isTuneFree 9 2 10 := Or.inr ⟨2, by decide +kernel, rfl, rfl⟩
theorem dX10_isTuneFree_10 : AtA mX10_isTuneFree 10 0 11 := Or.inr ⟨0, by decide +kernel, rfl, rfl⟩
theorem dX10_isTuneFree_11 : AtF mX10_isTuneFree 11 10 8 14 := ⟨29, (RX10, TX10, 31), by decide +kernel, rfl, rfl, by decide, Or.inl (Or.inl ⟨890, by decide +kernel⟩)⟩
theorem dX10_isTuneFree_14 : AtI mX10_isTuneFree 14 1 15 := Or.inr ⟨1, by decide +kernel, rfl, rfl⟩
theorem dX10_isTuneFree_15 : At mX10_isTuneFree 15 .iaload 1 16 := ⟨by decide +kernel, rfl⟩
theorem dX10_isTuneFree_16 : AtK mX10_isTuneFree 16 (iZ 70) 18 := Or.inr (Or.inl ⟨70, by decide +kernel, by decide, rfl⟩)
theorem dX10_isTuneFree_18 : At mX10_isTuneFree 18 .iadd 1 19 := ⟨by decide +kernel, rfl⟩
theorem dX10_isTuneFree_19 : AtJ mX10_isTuneFree 19 (.if_icmp .le) 22 26 := ⟨7, by decide +kernel, rfl, by decide⟩
theorem dX10_isTuneFree_22 : AtK mX10_isTuneFree 22 (iZ 1) 23 := Or.inl ⟨1, by decide +kernel, by decide, rfl⟩
theorem dX10_isTuneFree_23 : AtG mX10_isTuneFree 23 27 := ⟨4, by decide +kernel, by decide⟩
theorem dX10_isTuneFree_26 : AtK mX10_isTuneFree 26 (iZ 0) 27 := Or.inl ⟨0, by decide +kernel, by decide, rfl⟩
theorem dX10_isTuneFree_27 : At mX10_isTuneFree 27 .ireturn 1 28 := ⟨by decide +kernel, rfl⟩
theorem dX10_bestOf_0 : AtK mX10_bestOf 0 (iZ (-100)) 2 := Or.inr (Or.inl ⟨(-100), by decide +kernel, by decide, rfl⟩)
theorem dX10_bestOf_2 : AtSI mX10_bestOf 2 4 4 := ⟨Or.inl ⟨by decide +kernel, rfl⟩, by decide⟩
theorem dX10_bestOf_4 : AtK mX10_bestOf 4 (iZ 0) 5 := Or.inl ⟨0, by decide +kernel, by decide, rfl⟩
theorem dX10_bestOf_5 : AtSI mX10_bestOf 5 5 7 := ⟨Or.inl ⟨by decide +kernel, rfl⟩, by decide⟩
theorem dX10_bestOf_7 : AtI mX10_bestOf 7 5 9 := Or.inl ⟨by decide +kernel, rfl⟩
theorem dX10_bestOf_9 : AtA mX10_bestOf 9 0 10 := Or.inr ⟨0, by decide +kernel, rfl, rfl⟩
theorem dX10_bestOf_10 : AtF mX10_bestOf 10 10 7 13 := ⟨97, (RX10, TX10, 31), by decide +kernel, rfl, rfl, by decide, Or.inl (Or.inl ⟨889, by decide +kernel⟩)⟩
theorem dX10_bestOf_13 : AtJ mX10_bestOf 13 (.if_icmp .ge) 16 91 := ⟨78, by decide +kernel, rfl, by decide⟩
theorem dX10_bestOf_16 : AtA mX10_bestOf 16 0 17 := Or.inr ⟨0, by decide +kernel, rfl, rfl⟩
theorem dX10_bestOf_17 : AtI mX10_bestOf 17 1 18 := Or.inr ⟨1, by decide +kernel, rfl, rfl⟩
theorem dX10_bestOf_18 : AtI mX10_bestOf 18 5 20 := Or.inl ⟨by decide +kernel, rfl⟩
theorem dX10_bestOf_20 : AtV mX10_bestOf 20 mX10_fit 2 10 23 := ⟨115, 1019, 1021, 35, (RX10, TX10, 31), by decide +kernel, rfl, rfl, by decide +kernel, by decide +kernel, by decide +kernel, rfl, ⟨⟨1022, by decide +kernel⟩, ⟨63, by decide +kernel⟩, ⟨by decide, by decide⟩, by decide +kernel, by decide, by decide⟩⟩
theorem dX10_bestOf_23 : AtJ mX10_bestOf 23 (.ifCond .le) 26 44 := ⟨21, by decide +kernel, rfl, by decide⟩
theorem dX10_bestOf_26 : AtI mX10_bestOf 26 2 27 := Or.inr ⟨2, by decide +kernel, rfl, rfl⟩
theorem dX10_bestOf_27 : AtJ mX10_bestOf 27 (.ifCond .ne) 30 40 := ⟨13, by decide +kernel, rfl, by decide⟩
theorem dX10_bestOf_30 : AtA mX10_bestOf 30 0 31 := Or.inr ⟨0, by decide +kernel, rfl, rfl⟩
theorem dX10_bestOf_31 : AtI mX10_bestOf 31 5 33 := Or.inl ⟨by decide +kernel, rfl⟩
theorem dX10_bestOf_33 : AtI mX10_bestOf 33 3 34 := Or.inr ⟨3, by decide +kernel, rfl, rfl⟩
theorem dX10_bestOf_34 : AtV mX10_bestOf 34 mX10_isTuneFree 2 10 37 := ⟨122, 1039, 1041, 38, (RX10, TX10, 31), by decide +kernel, rfl, rfl, by decide +kernel, by decide +kernel, by decide +kernel, rfl, ⟨⟨1042, by decide +kernel⟩, ⟨63, by decide +kernel⟩, ⟨by decide, by decide⟩, by decide +kernel, by decide, by decide⟩⟩
theorem dX10_bestOf_37 : AtJ mX10_bestOf 37 (.ifCond .eq) 40 44 := ⟨7, by decide +kernel, rfl, by decide⟩
theorem dX10_bestOf_40 : AtK mX10_bestOf 40 (iZ 1) 41 := Or.inl ⟨1, by decide +kernel, by decide, rfl⟩
theorem dX10_bestOf_41 : AtG mX10_bestOf 41 45 := ⟨4, by decide +kernel, by decide⟩
theorem dX10_bestOf_44 : AtK mX10_bestOf 44 (iZ 0) 45 := Or.inl ⟨0, by decide +kernel, by decide, rfl⟩
theorem dX10_bestOf_45 : AtSI mX10_bestOf 45 6 47 := ⟨Or.inl ⟨by decide +kernel, rfl⟩, by decide⟩
theorem dX10_bestOf_47 : AtI mX10_bestOf 47 6 49 := Or.inl ⟨by decide +kernel, rfl⟩
theorem dX10_bestOf_49 : AtJ mX10_bestOf 49 (.ifCond .eq) 52 81 := ⟨32, by decide +kernel, rfl, by decide⟩
theorem dX10_bestOf_52 : AtI mX10_bestOf 52 4 54 := Or.inl ⟨by decide +kernel, rfl⟩
theorem dX10_bestOf_54 : AtK mX10_bestOf 54 (iZ (-100)) 56 := Or.inr (Or.inl ⟨(-100), by decide +kernel, by decide, rfl⟩)
theorem dX10_bestOf_56 : AtJ mX10_bestOf 56 (.if_icmp .eq) 59 76 := ⟨20, by decide +kernel, rfl, by decide⟩
theorem dX10_bestOf_59 : AtA mX10_bestOf 59 0 60 := Or.inr ⟨0, by decide +kernel, rfl, rfl⟩
theorem dX10_bestOf_60 : AtI mX10_bestOf 60 1 61 := Or.inr ⟨1, by decide +kernel, rfl, rfl⟩
theorem dX10_bestOf_61 : AtI mX10_bestOf 61 5 63 := Or.inl ⟨by decide +kernel, rfl⟩
theorem dX10_bestOf_63 : AtV mX10_bestOf 63 mX10_clash 2 10 66 := ⟨119, 1027, 1029, 36, (RX10, TX10, 31), by decide +kernel, rfl, rfl, by decide +kernel, by decide +kernel, by decide +kernel, rfl, ⟨⟨1030, by decide +kernel⟩, ⟨63, by decide +kernel⟩, ⟨by decide, by decide⟩, by decide +kernel, by decide, by decide⟩⟩
theorem dX10_bestOf_66 : AtA mX10_bestOf 66 0 67 := Or.inr ⟨0, by decide +kernel, rfl, rfl⟩
theorem dX10_bestOf_67 : AtI mX10_bestOf 67 1 68 := Or.inr ⟨1, by decide +kernel, rfl, rfl⟩
theorem dX10_bestOf_68 : AtI mX10_bestOf 68 4 70 := Or.inl ⟨by decide +kernel, rfl⟩
theorem dX10_bestOf_70 : AtV mX10_bestOf 70 mX10_clash 2 10 73 := ⟨119, 1027, 1029, 36, (RX10, TX10, 31), by decide +kernel, rfl, rfl, by decide +kernel, by decide +kernel, by decide +kernel, rfl, ⟨⟨1030, by decide +kernel⟩, ⟨63, by decide +kernel⟩, ⟨by decide, by decide⟩, by decide +kernel, by decide, by decide⟩⟩
theorem dX10_bestOf_73 : AtJ mX10_bestOf 73 (.if_icmp .ge) 76 81 := ⟨8, by decide +kernel, rfl, by decide⟩
theorem dX10_bestOf_76 : AtI mX10_bestOf 76 5 78 := Or.inl ⟨by decide +kernel, rfl⟩
theorem dX10_bestOf_78 : AtG mX10_bestOf 78 83 := ⟨5, by decide +kernel, by decide⟩
theorem dX10_bestOf_81 : AtI mX10_bestOf 81 4 83 := Or.inl ⟨by decide +kernel, rfl⟩
theorem dX10_bestOf_83 : AtSI mX10_bestOf 83 4 85 := ⟨Or.inl ⟨by decide +kernel, rfl⟩, by decide⟩
theorem dX10_bestOf_85 : AtInc mX10_bestOf 85 5 (iZ 1) 88 := ⟨1, by decide +kernel, by decide, rfl, by decide⟩
theorem dX10_bestOf_88 : AtG mX10_bestOf 88 7 := ⟨(-81), by decide +kernel, by decide⟩
theorem dX10_bestOf_91 : AtI mX10_bestOf 91 4 93 := Or.inl ⟨by decide +kernel, rfl⟩
theorem dX10_bestOf_93 : At mX10_bestOf 93 .ireturn 1 94 := ⟨by decide +kernel, rfl⟩
theorem dX10_best_0 : AtA mX10_best 0 0 1 := Or.inr ⟨0, by decide +kernel, rfl, rfl⟩
theorem dX10_best_1 : AtA mX10_best 1 0 2 := Or.inr ⟨0, by decide +kernel, rfl, rfl⟩
theorem dX10_best_2 : AtI mX10_best 2 1 3 := Or.inr ⟨1, by decide +kernel, rfl, rfl⟩
theorem dX10_best_3 : AtV mX10_best 3 mX10_isText 1 10 6 := ⟨105, 996, 998, 33, (RX10, TX10, 31), by decide +kernel, rfl, rfl, by decide +kernel, by decide +kernel, by decide +kernel, rfl, ⟨⟨999, by decide +kernel⟩, ⟨63, by decide +kernel⟩, ⟨by decide, by decide⟩, by decide +kernel, by decide, by decide⟩⟩
theorem dX10_best_6 : AtJ mX10_best 6 (.ifCond .eq) 9 13 := ⟨7, by decide +kernel, rfl, by decide⟩
theorem dX10_best_9 : AtK mX10_best 9 (iZ 0) 10 := Or.inl ⟨0, by decide +kernel, by decide, rfl⟩
theorem dX10_best_10 : AtG mX10_best 10 14 := ⟨4, by decide +kernel, by decide⟩
theorem dX10_best_13 : AtK mX10_best 13 (iZ 1) 14 := Or.inl ⟨1, by decide +kernel, by decide, rfl⟩
theorem dX10_best_14 : AtP mX10_best 14 10 30 (.int) 17 := ⟨86, (RX10, TX10, 31), by decide +kernel, rfl, rfl, by decide, Or.inl ⟨912, by decide +kernel⟩, by decide +kernel, Or.inl rfl⟩
theorem dX10_best_17 : AtA mX10_best 17 0 18 := Or.inr ⟨0, by decide +kernel, rfl, rfl⟩
theorem dX10_best_18 : AtF mX10_best 18 10 30 21 := ⟨86, (RX10, TX10, 31), by decide +kernel, rfl, rfl, by decide, Or.inl (Or.inl ⟨912, by decide +kernel⟩)⟩
theorem dX10_best_21 : AtJ mX10_best 21 (.ifCond .le) 24 28 := ⟨7, by decide +kernel, rfl, by decide⟩
theorem dX10_best_24 : AtK mX10_best 24 (iZ 0) 25 := Or.inl ⟨0, by decide +kernel, by decide, rfl⟩
theorem dX10_best_25 : AtG mX10_best 25 35 := ⟨10, by decide +kernel, by decide⟩
theorem dX10_best_28 : AtA mX10_best 28 0 29 := Or.inr ⟨0, by decide +kernel, rfl, rfl⟩
theorem dX10_best_29 : AtI mX10_best 29 1 30 := Or.inr ⟨1, by decide +kernel, rfl, rfl⟩
theorem dX10_best_30 : AtK mX10_best 30 (iZ 1) 31 := Or.inl ⟨1, by decide +kernel, by decide, rfl⟩
theorem dX10_best_31 : AtK mX10_best 31 (iZ 0) 32 := Or.inl ⟨0, by decide +kernel, by decide, rfl⟩
theorem dX10_best_32 : AtV mX10_best 32 mX10_bestOf 3 10 35 := ⟨125, 1035, 1037, 37, (RX10, TX10, 31), by decide +kernel, rfl, rfl, by decide +kernel, by decide +kernel, by decide +kernel, rfl, ⟨⟨1038, by decide +kernel⟩, ⟨63, by decide +kernel⟩, ⟨by decide, by decide⟩, by decide +kernel, by decide, by decide⟩⟩
theorem dX10_best_35 : At mX10_best 35 .ireturn 1 36 := ⟨by decide +kernel, rfl⟩
theorem dX10_areAlike_0 : AtA mX10_areAlike 0 0 1 := Or.inr ⟨0, by decide +kernel, rfl, rfl⟩
theorem dX10_areAlike_1 : AtF mX10_areAlike 1 10 12 4 := ⟨41, (RX10, TX10, 31), by decide +kernel, rfl, rfl, by decide, Or.inl (Or.inl ⟨894, by decide +kernel⟩)⟩
theorem dX10_areAlike_4 : AtI mX10_areAlike 4 1 5 := Or.inr ⟨1, by decide +kernel, rfl, rfl⟩
theorem dX10_areAlike_5 : At mX10_areAlike 5 .iaload 1 6 := ⟨by decide +kernel, rfl⟩
theorem dX10_areAlike_6 : AtA mX10_areAlike 6 0 7 := Or.inr ⟨0, by decide +kernel, rfl, rfl⟩
theorem dX10_areAlike_7 : AtF mX10_areAlike 7 10 12 10 := ⟨41, (RX10, TX10, 31), by decide +kernel, rfl, rfl, by decide, Or.inl (Or.inl ⟨894, by decide +kernel⟩)⟩
theorem dX10_areAlike_10 : AtI mX10_areAlike 10 2 11 := Or.inr ⟨2, by decide +kernel, rfl, rfl⟩
theorem dX10_areAlike_11 : At mX10_areAlike 11 .iaload 1 12 := ⟨by decide +kernel, rfl⟩
theorem dX10_areAlike_12 : AtJ mX10_areAlike 12 (.if_icmp .ne) 15 19 := ⟨7, by decide +kernel, rfl, by decide⟩
theorem dX10_areAlike_15 : AtK mX10_areAlike 15 (iZ 1) 16 := Or.inl ⟨1, by decide +kernel, by decide, rfl⟩
theorem dX10_areAlike_16 : AtG mX10_areAlike 16 20 := ⟨4, by decide +kernel, by decide⟩
theorem dX10_areAlike_19 : AtK mX10_areAlike 19 (iZ 0) 20 := Or.inl ⟨0, by decide +kernel, by decide, rfl⟩
theorem dX10_areAlike_20 : AtSI mX10_areAlike 20 3 21 := ⟨Or.inr ⟨3, by decide +kernel, rfl, rfl⟩, by decide⟩
theorem dX10_areAlike_21 : AtK mX10_areAlike 21 (iZ 0) 22 := Or.inl ⟨0, by decide +kernel, by decide, rfl⟩
theorem dX10_areAlike_22 : AtSI mX10_areAlike 22 4 24 := ⟨Or.inl ⟨by decide +kernel, rfl⟩, by decide⟩
theorem dX10_areAlike_24 : AtI mX10_areAlike 24 4 26 := Or.inl ⟨by decide +kernel, rfl⟩
theorem dX10_areAlike_26 : AtA mX10_areAlike 26 0 27 := Or.inr ⟨0, by decide +kernel, rfl, rfl⟩
theorem dX10_areAlike_27 : AtF mX10_areAlike 27 10 12 30 := ⟨41, (RX10, TX10, 31), by decide +kernel, rfl, rfl, by decide, Or.inl (Or.inl ⟨894, by decide +kernel⟩)⟩
theorem dX10_areAlike_30 : AtI mX10_areAlike 30 1 31 := Or.inr ⟨1, by decide +kernel, rfl, rfl⟩
theorem dX10_areAlike_31 : At mX10_areAlike 31 .iaload 1 32 := ⟨by decide +kernel, rfl⟩
theorem dX10_areAlike_32 : AtJ mX10_areAlike 32 (.if_icmp .ge) 35 78 := ⟨46, by decide +kernel, rfl, by decide⟩
theorem dX10_areAlike_35 : AtI mX10_areAlike 35 3 36 := Or.inr ⟨3, by decide +kernel, rfl, rfl⟩
theorem dX10_areAlike_36 : AtJ mX10_areAlike 36 (.ifCond .eq) 39 78 := ⟨42, by decide +kernel, rfl, by decide⟩
theorem dX10_areAlike_39 : AtA mX10_areAlike 39 0 40 := Or.inr ⟨0, by decide +kernel, rfl, rfl⟩
theorem dX10_areAlike_40 : AtF mX10_areAlike 40 10 13 43 := ⟨44, (RX10, TX10, 31), by decide +kernel, rfl, rfl, by decide, Or.inl (Or.inl ⟨895, by decide +kernel⟩)⟩
theorem dX10_areAlike_43 : AtK mX10_areAlike 43 (iZ 8) 45 := Or.inr (Or.inl ⟨8, by decide +kernel, by decide, rfl⟩)
theorem dX10_areAlike_45 : AtI mX10_areAlike 45 1 46 := Or.inr ⟨1, by decide +kernel, rfl, rfl⟩
theorem dX10_areAlike_46 : At mX10_areAlike 46 .imul 1 47 := ⟨by decide +kernel, rfl⟩
theorem dX10_areAlike_47 : AtI mX10_areAlike 47 4 49 := Or.inl ⟨by decide +kernel, rfl⟩
theorem dX10_areAlike_49 : At mX10_areAlike 49 .iadd 1 50 := ⟨by decide +kernel, rfl⟩
theorem dX10_areAlike_50 : At mX10_areAlike 50 .iaload 1 51 := ⟨by decide +kernel, rfl⟩
theorem dX10_areAlike_51 : AtA mX10_areAlike 51 0 52 := Or.inr ⟨0, by decide +kernel, rfl, rfl⟩
theorem dX10_areAlike_52 : AtF mX10_areAlike 52 10 13 55 := ⟨44, (RX10, TX10, 31), by decide +kernel, rfl, rfl, by decide, Or.inl (Or.inl ⟨895, by decide +kernel⟩)⟩
theorem dX10_areAlike_55 : AtK mX10_areAlike 55 (iZ 8) 57 := Or.inr (Or.inl ⟨8, by decide +kernel, by decide, rfl⟩)
theorem dX10_areAlike_57 : AtI mX10_areAlike 57 2 58 := Or.inr ⟨2, by decide +kernel, rfl, rfl⟩
theorem dX10_areAlike_58 : At mX10_areAlike 58 .imul 1 59 := ⟨by decide +kernel, rfl⟩
theorem dX10_areAlike_59 : AtI mX10_areAlike 59 4 61 := Or.inl ⟨by decide +kernel, rfl⟩
theorem dX10_areAlike_61 : At mX10_areAlike 61 .iadd 1 62 := ⟨by decide +kernel, rfl⟩
theorem dX10_areAlike_62 : At mX10_areAlike 62 .iaload 1 63 := ⟨by decide +kernel, rfl⟩
theorem dX10_areAlike_63 : AtJ mX10_areAlike 63 (.if_icmp .ne) 66 70 := ⟨7, by decide +kernel, rfl, by decide⟩
theorem dX10_areAlike_66 : AtK mX10_areAlike 66 (iZ 1) 67 := Or.inl ⟨1, by decide +kernel, by decide, rfl⟩
theorem dX10_areAlike_67 : AtG mX10_areAlike 67 71 := ⟨4, by decide +kernel, by decide⟩
theorem dX10_areAlike_70 : AtK mX10_areAlike 70 (iZ 0) 71 := Or.inl ⟨0, by decide +kernel, by decide, rfl⟩
theorem dX10_areAlike_71 : AtSI mX10_areAlike 71 3 72 := ⟨Or.inr ⟨3, by decide +kernel, rfl, rfl⟩, by decide⟩
theorem dX10_areAlike_72 : AtInc mX10_areAlike 72 4 (iZ 1) 75 := ⟨1, by decide +kernel, by decide, rfl, by decide⟩
theorem dX10_areAlike_75 : AtG mX10_areAlike 75 24 := ⟨(-51), by decide +kernel, by decide⟩
theorem dX10_areAlike_78 : AtI mX10_areAlike 78 3 79 := Or.inr ⟨3, by decide +kernel, rfl, rfl⟩
theorem dX10_areAlike_79 : At mX10_areAlike 79 .ireturn 1 80 := ⟨by decide +kernel, rfl⟩
theorem dX10_alike_0 : AtA mX10_alike 0 0 1 := Or.inr ⟨0, by decide +kernel, rfl, rfl⟩
theorem dX10_alike_1 : AtA mX10_alike 1 0 2 := Or.inr ⟨0, by decide +kernel, rfl, rfl⟩
theorem dX10_alike_2 : AtI mX10_alike 2 1 3 := Or.inr ⟨1, by decide +kernel, rfl, rfl⟩
theorem dX10_alike_3 : AtV mX10_alike 3 mX10_isTune 1 10 6 := ⟨112, 1011, 1013, 34, (RX10, TX10, 31), by decide +kernel, rfl, rfl, by decide +kernel, by decide +kernel, by decide +kernel, rfl, ⟨⟨1014, by decide +kernel⟩, ⟨63, by decide +kernel⟩, ⟨by decide, by decide⟩, by decide +kernel, by decide, by decide⟩⟩
theorem dX10_alike_6 : AtJ mX10_alike 6 (.ifCond .eq) 9 13 := ⟨7, by decide +kernel, rfl, by decide⟩
theorem dX10_alike_9 : AtK mX10_alike 9 (iZ 0) 10 := Or.inl ⟨0, by decide +kernel, by decide, rfl⟩
theorem dX10_alike_10 : AtG mX10_alike 10 14 := ⟨4, by decide +kernel, by decide⟩
theorem dX10_alike_13 : AtK mX10_alike 13 (iZ 1) 14 := Or.inl ⟨1, by decide +kernel, by decide, rfl⟩
theorem dX10_alike_14 : AtP mX10_alike 14 10 30 (.int) 17 := ⟨86, (RX10, TX10, 31), by decide +kernel, rfl, rfl, by decide, Or.inl ⟨912, by decide +kernel⟩, by decide +kernel, Or.inl rfl⟩
theorem dX10_alike_17 : AtK mX10_alike 17 (iZ 0) 18 := Or.inl ⟨0, by decide +kernel, by decide, rfl⟩
theorem dX10_alike_18 : AtSI mX10_alike 18 2 19 := ⟨Or.inr ⟨2, by decide +kernel, rfl, rfl⟩, by decide⟩
theorem dX10_alike_19 : AtK mX10_alike 19 (iZ 0) 20 := Or.inl ⟨0, by decide +kernel, by decide, rfl⟩
theorem dX10_alike_20 : AtSI mX10_alike 20 3 21 := ⟨Or.inr ⟨3, by decide +kernel, rfl, rfl⟩, by decide⟩
theorem dX10_alike_21 : AtI mX10_alike 21 3 22 := Or.inr ⟨3, by decide +kernel, rfl, rfl⟩
theorem dX10_alike_22 : AtA mX10_alike 22 0 23 := Or.inr ⟨0, by decide +kernel, rfl, rfl⟩
theorem dX10_alike_23 : AtF mX10_alike 23 10 7 26 := ⟨97, (RX10, TX10, 31), by decide +kernel, rfl, rfl, by decide, Or.inl (Or.inl ⟨889, by decide +kernel⟩)⟩
theorem dX10_alike_26 : AtJ mX10_alike 26 (.if_icmp .ge) 29 59 := ⟨33, by decide +kernel, rfl, by decide⟩
theorem dX10_alike_29 : AtA mX10_alike 29 0 30 := Or.inr ⟨0, by decide +kernel, rfl, rfl⟩
theorem dX10_alike_30 : AtF mX10_alike 30 10 30 33 := ⟨86, (RX10, TX10, 31), by decide +kernel, rfl, rfl, by decide, Or.inl (Or.inl ⟨912, by decide +kernel⟩)⟩
theorem dX10_alike_33 : AtJ mX10_alike 33 (.ifCond .ne) 36 59 := ⟨26, by decide +kernel, rfl, by decide⟩
theorem dX10_alike_36 : AtI mX10_alike 36 2 37 := Or.inr ⟨2, by decide +kernel, rfl, rfl⟩
theorem dX10_alike_37 : AtA mX10_alike 37 0 38 := Or.inr ⟨0, by decide +kernel, rfl, rfl⟩
theorem dX10_alike_38 : AtI mX10_alike 38 1 39 := Or.inr ⟨1, by decide +kernel, rfl, rfl⟩
theorem dX10_alike_39 : AtI mX10_alike 39 3 40 := Or.inr ⟨3, by decide +kernel, rfl, rfl⟩
theorem dX10_alike_40 : AtV mX10_alike 40 mX10_areAlike 2 10 43 := ⟨129, 1047, 1049, 39, (RX10, TX10, 31), by decide +kernel, rfl, rfl, by decide +kernel, by decide +kernel, by decide +kernel, rfl, ⟨⟨1050, by decide +kernel⟩, ⟨63, by decide +kernel⟩, ⟨by decide, by decide⟩, by decide +kernel, by decide, by decide⟩⟩
theorem dX10_alike_43 : AtJ mX10_alike 43 (.ifCond .eq) 46 50 := ⟨7, by decide +kernel, rfl, by decide⟩
theorem dX10_alike_46 : AtK mX10_alike 46 (iZ 1) 47 := Or.inl ⟨1, by decide +kernel, by decide, rfl⟩
theorem dX10_alike_47 : AtG mX10_alike 47 51 := ⟨4, by decide +kernel, by decide⟩
theorem dX10_alike_50 : AtK mX10_alike 50 (iZ 0) 51 := Or.inl ⟨0, by decide +kernel, by decide, rfl⟩
theorem dX10_alike_51 : At mX10_alike 51 .iadd 1 52 := ⟨by decide +kernel, rfl⟩
theorem dX10_alike_52 : AtSI mX10_alike 52 2 53 := ⟨Or.inr ⟨2, by decide +kernel, rfl, rfl⟩, by decide⟩
theorem dX10_alike_53 : AtInc mX10_alike 53 3 (iZ 1) 56 := ⟨1, by decide +kernel, by decide, rfl, by decide⟩
theorem dX10_alike_56 : AtG mX10_alike 56 21 := ⟨(-35), by decide +kernel, by decide⟩
theorem dX10_alike_59 : AtI mX10_alike 59 2 60 := Or.inr ⟨2, by decide +kernel, rfl, rfl⟩
theorem dX10_alike_60 : At mX10_alike 60 .ireturn 1 61 := ⟨by decide +kernel, rfl⟩
theorem dX10_metres_0 : AtA mX10_metres 0 0 1 := Or.inr ⟨0, by decide +kernel, rfl, rfl⟩
theorem dX10_metres_1 : AtK mX10_metres 1 (iZ 0) 2 := Or.inl ⟨0, by decide +kernel, by decide, rfl⟩
theorem dX10_metres_2 : AtP mX10_metres 2 10 30 (.int) 5 := ⟨86, (RX10, TX10, 31), by decide +kernel, rfl, rfl, by decide, Or.inl ⟨912, by decide +kernel⟩, by decide +kernel, Or.inl rfl⟩
theorem dX10_metres_5 : AtK mX10_metres 5 (iZ 0) 6 := Or.inl ⟨0, by decide +kernel, by decide, rfl⟩
theorem dX10_metres_6 : AtSI mX10_metres 6 1 7 := ⟨Or.inr ⟨1, by decide +kernel, rfl, rfl⟩, by decide⟩
theorem dX10_metres_7 : AtK mX10_metres 7 (iZ 0) 8 := Or.inl ⟨0, by decide +kernel, by decide, rfl⟩
theorem dX10_metres_8 : AtSI mX10_metres 8 2 9 := ⟨Or.inr ⟨2, by decide +kernel, rfl, rfl⟩, by decide⟩
theorem dX10_metres_9 : AtI mX10_metres 9 2 10 := Or.inr ⟨2, by decide +kernel, rfl, rfl⟩
theorem dX10_metres_10 : AtA mX10_metres 10 0 11 := Or.inr ⟨0, by decide +kernel, rfl, rfl⟩
theorem dX10_metres_11 : AtF mX10_metres 11 10 7 14 := ⟨97, (RX10, TX10, 31), by decide +kernel, rfl, rfl, by decide, Or.inl (Or.inl ⟨889, by decide +kernel⟩)⟩
theorem dX10_metres_14 : AtJ mX10_metres 14 (.if_icmp .ge) 17 70 := ⟨56, by decide +kernel, rfl, by decide⟩
theorem dX10_metres_17 : AtK mX10_metres 17 (iZ 1) 18 := Or.inl ⟨1, by decide +kernel, by decide, rfl⟩
theorem dX10_metres_18 : AtSI mX10_metres 18 3 19 := ⟨Or.inr ⟨3, by decide +kernel, rfl, rfl⟩, by decide⟩
theorem dX10_metres_19 : AtK mX10_metres 19 (iZ 0) 20 := Or.inl ⟨0, by decide +kernel, by decide, rfl⟩
theorem dX10_metres_20 : AtSI mX10_metres 20 4 22 := ⟨Or.inl ⟨by decide +kernel, rfl⟩, by decide⟩
theorem dX10_metres_22 : AtI mX10_metres 22 4 24 := Or.inl ⟨by decide +kernel, rfl⟩
theorem dX10_metres_24 : AtI mX10_metres 24 2 25 := Or.inr ⟨2, by decide +kernel, rfl, rfl⟩
theorem dX10_metres_25 : AtJ mX10_metres 25 (.if_icmp .ge) 28 52 := ⟨27, by decide +kernel, rfl, by decide⟩
theorem dX10_metres_28 : AtI mX10_metres 28 3 29 := Or.inr ⟨3, by decide +kernel, rfl, rfl⟩
theorem dX10_metres_29 : AtA mX10_metres 29 0 30 := Or.inr ⟨0, by decide +kernel, rfl, rfl⟩
theorem dX10_metres_30 : AtI mX10_metres 30 4 32 := Or.inl ⟨by decide +kernel, rfl⟩
theorem dX10_metres_32 : AtI mX10_metres 32 2 33 := Or.inr ⟨2, by decide +kernel, rfl, rfl⟩
theorem dX10_metres_33 : AtV mX10_metres 33 mX10_areAlike 2 10 36 := ⟨129, 1047, 1049, 39, (RX10, TX10, 31), by decide +kernel, rfl, rfl, by decide +kernel, by decide +kernel, by decide +kernel, rfl, ⟨⟨1050, by decide +kernel⟩, ⟨63, by decide +kernel⟩, ⟨by decide, by decide⟩, by decide +kernel, by decide, by decide⟩⟩
theorem dX10_metres_36 : AtJ mX10_metres 36 (.ifCond .ne) 39 43 := ⟨7, by decide +kernel, rfl, by decide⟩
theorem dX10_metres_39 : AtK mX10_metres 39 (iZ 1) 40 := Or.inl ⟨1, by decide +kernel, by decide, rfl⟩
theorem dX10_metres_40 : AtG mX10_metres 40 44 := ⟨4, by decide +kernel, by decide⟩
theorem dX10_metres_43 : AtK mX10_metres 43 (iZ 0) 44 := Or.inl ⟨0, by decide +kernel, by decide, rfl⟩
theorem dX10_metres_44 : At mX10_metres 44 .iand 1 45 := ⟨by decide +kernel, rfl⟩
theorem dX10_metres_45 : AtSI mX10_metres 45 3 46 := ⟨Or.inr ⟨3, by decide +kernel, rfl, rfl⟩, by decide⟩
theorem dX10_metres_46 : AtInc mX10_metres 46 4 (iZ 1) 49 := ⟨1, by decide +kernel, by decide, rfl, by decide⟩
theorem dX10_metres_49 : AtG mX10_metres 49 22 := ⟨(-27), by decide +kernel, by decide⟩
theorem dX10_metres_52 : AtI mX10_metres 52 1 53 := Or.inr ⟨1, by decide +kernel, rfl, rfl⟩
theorem dX10_metres_53 : AtI mX10_metres 53 3 54 := Or.inr ⟨3, by decide +kernel, rfl, rfl⟩
theorem dX10_metres_54 : AtJ mX10_metres 54 (.ifCond .eq) 57 61 := ⟨7, by decide +kernel, rfl, by decide⟩
theorem dX10_metres_57 : AtK mX10_metres 57 (iZ 1) 58 := Or.inl ⟨1, by decide +kernel, by decide, rfl⟩
theorem dX10_metres_58 : AtG mX10_metres 58 62 := ⟨4, by decide +kernel, by decide⟩
theorem dX10_metres_61 : AtK mX10_metres 61 (iZ 0) 62 := Or.inl ⟨0, by decide +kernel, by decide, rfl⟩
theorem dX10_metres_62 : At mX10_metres 62 .iadd 1 63 := ⟨by decide +kernel, rfl⟩
theorem dX10_metres_63 : AtSI mX10_metres 63 1 64 := ⟨Or.inr ⟨1, by decide +kernel, rfl, rfl⟩, by decide⟩
theorem dX10_metres_64 : AtInc mX10_metres 64 2 (iZ 1) 67 := ⟨1, by decide +kernel, by decide, rfl, by decide⟩
theorem dX10_metres_67 : AtG mX10_metres 67 9 := ⟨(-58), by decide +kernel, by decide⟩
theorem dX10_metres_70 : AtI mX10_metres 70 1 71 := Or.inr ⟨1, by decide +kernel, rfl, rfl⟩
theorem dX10_metres_71 : At mX10_metres 71 .ireturn 1 72 := ⟨by decide +kernel, rfl⟩
theorem dX10_allowText_0 : AtA mX10_allowText 0 0 1 := Or.inr ⟨0, by decide +kernel, rfl, rfl⟩
theorem dX10_allowText_1 : AtA mX10_allowText 1 0 2 := Or.inr ⟨0, by decide +kernel, rfl, rfl⟩
theorem dX10_allowText_2 : AtI mX10_allowText 2 1 3 := Or.inr ⟨1, by decide +kernel, rfl, rfl⟩
theorem dX10_allowText_3 : AtV mX10_allowText 3 mX10_isText 1 10 6 := ⟨105, 996, 998, 33, (RX10, TX10, 31), by decide +kernel, rfl, rfl, by decide +kernel, by decide +kernel, by decide +kernel, rfl, ⟨⟨999, by decide +kernel⟩, ⟨63, by decide +kernel⟩, ⟨by decide, by decide⟩, by decide +kernel, by decide, by decide⟩⟩
theorem dX10_allowText_6 : AtJ mX10_allowText 6 (.ifCond .eq) 9 13 := ⟨7, by decide +kernel, rfl, by decide⟩
theorem dX10_allowText_9 : AtK mX10_allowText 9 (iZ 0) 10 := Or.inl ⟨0, by decide +kernel, by decide, rfl⟩
theorem dX10_allowText_10 : AtG mX10_allowText 10 14 := ⟨4, by decide +kernel, by decide⟩
theorem dX10_allowText_13 : AtK mX10_allowText 13 (iZ 1) 14 := Or.inl ⟨1, by decide +kernel, by decide, rfl⟩
theorem dX10_allowText_14 : AtP mX10_allowText 14 10 30 (.int) 17 := ⟨86, (RX10, TX10, 31), by decide +kernel, rfl, rfl, by decide, Or.inl ⟨912, by decide +kernel⟩, by decide +kernel, Or.inl rfl⟩
theorem dX10_allowText_17 : AtA mX10_allowText 17 0 18 := Or.inr ⟨0, by decide +kernel, rfl, rfl⟩
theorem dX10_allowText_18 : AtF mX10_allowText 18 10 30 21 := ⟨86, (RX10, TX10, 31), by decide +kernel, rfl, rfl, by decide, Or.inl (Or.inl ⟨912, by decide +kernel⟩)⟩
theorem dX10_allowText_21 : AtJ mX10_allowText 21 (.ifCond .le) 24 26 := ⟨5, by decide +kernel, rfl, by decide⟩
theorem dX10_allowText_24 : AtK mX10_allowText 24 (iZ 0) 25 := Or.inl ⟨0, by decide +kernel, by decide, rfl⟩
theorem dX10_allowText_25 : At mX10_allowText 25 .ireturn 1 26 := ⟨by decide +kernel, rfl⟩
theorem dX10_allowText_26 : AtA mX10_allowText 26 0 27 := Or.inr ⟨0, by decide +kernel, rfl, rfl⟩
theorem dX10_allowText_27 : AtF mX10_allowText 27 10 3 30 := ⟨16, (RX10, TX10, 31), by decide +kernel, rfl, rfl, by decide, Or.inl (Or.inl ⟨885, by decide +kernel⟩)⟩
theorem dX10_allowText_30 : AtI mX10_allowText 30 1 31 := Or.inr ⟨1, by decide +kernel, rfl, rfl⟩
theorem dX10_allowText_31 : At mX10_allowText 31 .baload 1 32 := ⟨by decide +kernel, rfl⟩
theorem dX10_allowText_32 : AtSI mX10_allowText 32 3 33 := ⟨Or.inr ⟨3, by decide +kernel, rfl, rfl⟩, by decide⟩
theorem dX10_allowText_33 : AtA mX10_allowText 33 0 34 := Or.inr ⟨0, by decide +kernel, rfl, rfl⟩
theorem dX10_allowText_34 : AtF mX10_allowText 34 10 3 37 := ⟨16, (RX10, TX10, 31), by decide +kernel, rfl, rfl, by decide, Or.inl (Or.inl ⟨885, by decide +kernel⟩)⟩
theorem dX10_allowText_37 : AtI mX10_allowText 37 1 38 := Or.inr ⟨1, by decide +kernel, rfl, rfl⟩
theorem dX10_allowText_38 : AtI mX10_allowText 38 2 39 := Or.inr ⟨2, by decide +kernel, rfl, rfl⟩
theorem dX10_allowText_39 : At mX10_allowText 39 .bastore 1 40 := ⟨by decide +kernel, rfl⟩
theorem dX10_allowText_40 : AtI mX10_allowText 40 3 41 := Or.inr ⟨3, by decide +kernel, rfl, rfl⟩
theorem dX10_allowText_41 : At mX10_allowText 41 .ireturn 1 42 := ⟨by decide +kernel, rfl⟩
theorem dX10_allowTune_0 : AtA mX10_allowTune 0 0 1 := Or.inr ⟨0, by decide +kernel, rfl, rfl⟩
theorem dX10_allowTune_1 : AtA mX10_allowTune 1 0 2 := Or.inr ⟨0, by decide +kernel, rfl, rfl⟩
theorem dX10_allowTune_2 : AtI mX10_allowTune 2 1 3 := Or.inr ⟨1, by decide +kernel, rfl, rfl⟩
theorem dX10_allowTune_3 : AtV mX10_allowTune 3 mX10_isTune 1 10 6 := ⟨112, 1011, 1013, 34, (RX10, TX10, 31), by decide +kernel, rfl, rfl, by decide +kernel, by decide +kernel, by decide +kernel, rfl, ⟨⟨1014, by decide +kernel⟩, ⟨63, by decide +kernel⟩, ⟨by decide, by decide⟩, by decide +kernel, by decide, by decide⟩⟩
theorem dX10_allowTune_6 : AtJ mX10_allowTune 6 (.ifCond .eq) 9 13 := ⟨7, by decide +kernel, rfl, by decide⟩
theorem dX10_allowTune_9 : AtK mX10_allowTune 9 (iZ 0) 10 := Or.inl ⟨0, by decide +kernel, by decide, rfl⟩
theorem dX10_allowTune_10 : AtG mX10_allowTune 10 14 := ⟨4, by decide +kernel, by decide⟩
theorem dX10_allowTune_13 : AtK mX10_allowTune 13 (iZ 1) 14 := Or.inl ⟨1, by decide +kernel, by decide, rfl⟩
theorem dX10_allowTune_14 : AtP mX10_allowTune 14 10 30 (.int) 17 := ⟨86, (RX10, TX10, 31), by decide +kernel, rfl, rfl, by decide, Or.inl ⟨912, by decide +kernel⟩, by decide +kernel, Or.inl rfl⟩
theorem dX10_allowTune_17 : AtA mX10_allowTune 17 0 18 := Or.inr ⟨0, by decide +kernel, rfl, rfl⟩
theorem dX10_allowTune_18 : AtF mX10_allowTune 18 10 30 21 := ⟨86, (RX10, TX10, 31), by decide +kernel, rfl, rfl, by decide, Or.inl (Or.inl ⟨912, by decide +kernel⟩)⟩
theorem dX10_allowTune_21 : AtJ mX10_allowTune 21 (.ifCond .le) 24 26 := ⟨5, by decide +kernel, rfl, by decide⟩
theorem dX10_allowTune_24 : AtK mX10_allowTune 24 (iZ 0) 25 := Or.inl ⟨0, by decide +kernel, by decide, rfl⟩
theorem dX10_allowTune_25 : At mX10_allowTune 25 .ireturn 1 26 := ⟨by decide +kernel, rfl⟩
theorem dX10_allowTune_26 : AtA mX10_allowTune 26 0 27 := Or.inr ⟨0, by decide +kernel, rfl, rfl⟩
theorem dX10_allowTune_27 : AtF mX10_allowTune 27 10 9 30 := ⟨32, (RX10, TX10, 31), by decide +kernel, rfl, rfl, by decide, Or.inl (Or.inl ⟨891, by decide +kernel⟩)⟩
theorem dX10_allowTune_30 : AtI mX10_allowTune 30 1 31 := Or.inr ⟨1, by decide +kernel, rfl, rfl⟩
theorem dX10_allowTune_31 : At mX10_allowTune 31 .baload 1 32 := ⟨by decide +kernel, rfl⟩
theorem dX10_allowTune_32 : AtSI mX10_allowTune 32 3 33 := ⟨Or.inr ⟨3, by decide +kernel, rfl, rfl⟩, by decide⟩
theorem dX10_allowTune_33 : AtA mX10_allowTune 33 0 34 := Or.inr ⟨0, by decide +kernel, rfl, rfl⟩
theorem dX10_allowTune_34 : AtF mX10_allowTune 34 10 9 37 := ⟨32, (RX10, TX10, 31), by decide +kernel, rfl, rfl, by decide, Or.inl (Or.inl ⟨891, by decide +kernel⟩)⟩
theorem dX10_allowTune_37 : AtI mX10_allowTune 37 1 38 := Or.inr ⟨1, by decide +kernel, rfl, rfl⟩
theorem dX10_allowTune_38 : AtI mX10_allowTune 38 2 39 := Or.inr ⟨2, by decide +kernel, rfl, rfl⟩
theorem dX10_allowTune_39 : At mX10_allowTune 39 .bastore 1 40 := ⟨by decide +kernel, rfl⟩
theorem dX10_allowTune_40 : AtI mX10_allowTune 40 3 41 := Or.inr ⟨3, by decide +kernel, rfl, rfl⟩
theorem dX10_allowTune_41 : At mX10_allowTune 41 .ireturn 1 42 := ⟨by decide +kernel, rfl⟩
theorem dX10_shift_0 : AtA mX10_shift 0 0 1 := Or.inr ⟨0, by decide +kernel, rfl, rfl⟩
theorem dX10_shift_1 : AtA mX10_shift 1 0 2 := Or.inr ⟨0, by decide +kernel, rfl, rfl⟩
theorem dX10_shift_2 : AtI mX10_shift 2 1 3 := Or.inr ⟨1, by decide +kernel, rfl, rfl⟩
theorem dX10_shift_3 : AtV mX10_shift 3 mX10_isTune 1 10 6 := ⟨112, 1011, 1013, 34, (RX10, TX10, 31), by decide +kernel, rfl, rfl, by decide +kernel, by decide +kernel, by decide +kernel, rfl, ⟨⟨1014, by decide +kernel⟩, ⟨63, by decide +kernel⟩, ⟨by decide, by decide⟩, by decide +kernel, by decide, by decide⟩⟩
theorem dX10_shift_6 : AtJ mX10_shift 6 (.ifCond .ne) 9 13 := ⟨7, by decide +kernel, rfl, by decide⟩
theorem dX10_shift_9 : AtK mX10_shift 9 (iZ 1) 10 := Or.inl ⟨1, by decide +kernel, by decide, rfl⟩
theorem dX10_shift_10 : AtG mX10_shift 10 38 := ⟨28, by decide +kernel, by decide⟩
theorem dX10_shift_13 : AtI mX10_shift 13 2 14 := Or.inr ⟨2, by decide +kernel, rfl, rfl⟩
theorem dX10_shift_14 : AtK mX10_shift 14 (iZ 0) 15 := Or.inl ⟨0, by decide +kernel, by decide, rfl⟩
theorem dX10_shift_15 : AtK mX10_shift 15 (iZ 40) 17 := Or.inr (Or.inl ⟨40, by decide +kernel, by decide, rfl⟩)
theorem dX10_shift_17 : AtS mX10_shift 17 mX10_isIn 3 20 := ⟨90, 988, 989, by decide +kernel, rfl, by decide +kernel, by decide +kernel, rfl, ⟨⟨990, by decide +kernel⟩, ⟨63, by decide +kernel⟩, ⟨by decide, by decide⟩, by decide +kernel, by decide, by decide⟩⟩
theorem dX10_shift_20 : AtJ mX10_shift 20 (.ifCond .eq) 23 33 := ⟨13, by decide +kernel, rfl, by decide⟩
theorem dX10_shift_23 : AtI mX10_shift 23 3 24 := Or.inr ⟨3, by decide +kernel, rfl, rfl⟩
theorem dX10_shift_24 : AtI mX10_shift 24 2 25 := Or.inr ⟨2, by decide +kernel, rfl, rfl⟩
theorem dX10_shift_25 : AtK mX10_shift 25 (iZ 40) 27 := Or.inr (Or.inl ⟨40, by decide +kernel, by decide, rfl⟩)
theorem dX10_shift_27 : AtS mX10_shift 27 mX10_isIn 3 30 := ⟨90, 988, 989, by decide +kernel, rfl, by decide +kernel, by decide +kernel, rfl, ⟨⟨990, by decide +kernel⟩, ⟨63, by decide +kernel⟩, ⟨by decide, by decide⟩, by decide +kernel, by decide, by decide⟩⟩
theorem dX10_shift_30 : AtJ mX10_shift 30 (.ifCond .ne) 33 37 := ⟨7, by decide +kernel, rfl, by decide⟩
theorem dX10_shift_33 : AtK mX10_shift 33 (iZ 2) 34 := Or.inl ⟨2, by decide +kernel, by decide, rfl⟩
theorem dX10_shift_34 : AtG mX10_shift 34 38 := ⟨4, by decide +kernel, by decide⟩
theorem dX10_shift_37 : AtK mX10_shift 37 (iZ 0) 38 := Or.inl ⟨0, by decide +kernel, by decide, rfl⟩
theorem dX10_shift_38 : AtP mX10_shift 38 10 30 (.int) 41 := ⟨86, (RX10, TX10, 31), by decide +kernel, rfl, rfl, by decide, Or.inl ⟨912, by decide +kernel⟩, by decide +kernel, Or.inl rfl⟩
theorem dX10_shift_41 : AtA mX10_shift 41 0 42 := Or.inr ⟨0, by decide +kernel, rfl, rfl⟩
theorem dX10_shift_42 : AtF mX10_shift 42 10 30 45 := ⟨86, (RX10, TX10, 31), by decide +kernel, rfl, rfl, by decide, Or.inl (Or.inl ⟨912, by decide +kernel⟩)⟩
theorem dX10_shift_45 : AtJ mX10_shift 45 (.ifCond .le) 48 50 := ⟨5, by decide +kernel, rfl, by decide⟩
theorem dX10_shift_48 : AtK mX10_shift 48 (iZ 0) 49 := Or.inl ⟨0, by decide +kernel, by decide, rfl⟩
theorem dX10_shift_49 : At mX10_shift 49 .ireturn 1 50 := ⟨by decide +kernel, rfl⟩
theorem dX10_shift_50 : AtI mX10_shift 50 2 51 := Or.inr ⟨2, by decide +kernel, rfl, rfl⟩
theorem dX10_shift_51 : AtA mX10_shift 51 0 52 := Or.inr ⟨0, by decide +kernel, rfl, rfl⟩
theorem dX10_shift_52 : AtF mX10_shift 52 10 10 55 := ⟨35, (RX10, TX10, 31), by decide +kernel, rfl, rfl, by decide, Or.inl (Or.inl ⟨892, by decide +kernel⟩)⟩
theorem dX10_shift_55 : AtI mX10_shift 55 1 56 := Or.inr ⟨1, by decide +kernel, rfl, rfl⟩
theorem dX10_shift_56 : At mX10_shift 56 .iaload 1 57 := ⟨by decide +kernel, rfl⟩
theorem dX10_shift_57 : At mX10_shift 57 .isub 1 58 := ⟨by decide +kernel, rfl⟩
theorem dX10_shift_58 : AtSI mX10_shift 58 4 60 := ⟨Or.inl ⟨by decide +kernel, rfl⟩, by decide⟩
theorem dX10_shift_60 : AtI mX10_shift 60 3 61 := Or.inr ⟨3, by decide +kernel, rfl, rfl⟩
theorem dX10_shift_61 : AtA mX10_shift 61 0 62 := Or.inr ⟨0, by decide +kernel, rfl, rfl⟩
theorem dX10_shift_62 : AtF mX10_shift 62 10 11 65 := ⟨38, (RX10, TX10, 31), by decide +kernel, rfl, rfl, by decide, Or.inl (Or.inl ⟨893, by decide +kernel⟩)⟩
theorem dX10_shift_65 : AtI mX10_shift 65 1 66 := Or.inr ⟨1, by decide +kernel, rfl, rfl⟩
theorem dX10_shift_66 : At mX10_shift 66 .iaload 1 67 := ⟨by decide +kernel, rfl⟩
theorem dX10_shift_67 : At mX10_shift 67 .isub 1 68 := ⟨by decide +kernel, rfl⟩
theorem dX10_shift_68 : AtSI mX10_shift 68 5 70 := ⟨Or.inl ⟨by decide +kernel, rfl⟩, by decide⟩
theorem dX10_shift_70 : AtI mX10_shift 70 4 72 := Or.inl ⟨by decide +kernel, rfl⟩
theorem dX10_shift_72 : AtI mX10_shift 72 5 74 := Or.inl ⟨by decide +kernel, rfl⟩
theorem dX10_shift_74 : AtJ mX10_shift 74 (.if_icmp .le) 77 82 := ⟨8, by decide +kernel, rfl, by decide⟩
theorem dX10_shift_77 : AtK mX10_shift 77 (iZ (-100)) 79 := Or.inr (Or.inl ⟨(-100), by decide +kernel, by decide, rfl⟩)
theorem dX10_shift_79 : AtG mX10_shift 79 103 := ⟨24, by decide +kernel, by decide⟩
theorem dX10_shift_82 : AtI mX10_shift 82 4 84 := Or.inl ⟨by decide +kernel, rfl⟩
theorem dX10_shift_84 : AtJ mX10_shift 84 (.ifCond .le) 87 92 := ⟨8, by decide +kernel, rfl, by decide⟩
theorem dX10_shift_87 : AtI mX10_shift 87 4 89 := Or.inl ⟨by decide +kernel, rfl⟩
theorem dX10_shift_89 : AtG mX10_shift 89 103 := ⟨14, by decide +kernel, by decide⟩
theorem dX10_shift_92 : AtI mX10_shift 92 5 94 := Or.inl ⟨by decide +kernel, rfl⟩
theorem dX10_shift_94 : AtJ mX10_shift 94 (.ifCond .ge) 97 102 := ⟨8, by decide +kernel, rfl, by decide⟩
theorem dX10_shift_97 : AtI mX10_shift 97 5 99 := Or.inl ⟨by decide +kernel, rfl⟩
theorem dX10_shift_99 : AtG mX10_shift 99 103 := ⟨4, by decide +kernel, by decide⟩
theorem dX10_shift_102 : AtK mX10_shift 102 (iZ 0) 103 := Or.inl ⟨0, by decide +kernel, by decide, rfl⟩
theorem dX10_shift_103 : At mX10_shift 103 .ireturn 1 104 := ⟨by decide +kernel, rfl⟩
theorem dX10_isYear_0 : AtI mX10_isYear 0 0 1 := Or.inr ⟨0, by decide +kernel, rfl, rfl⟩
theorem dX10_isYear_1 : AtK mX10_isYear 1 (iZ 1600) 4 := Or.inr (Or.inr (Or.inl ⟨1600, by decide +kernel, by decide, rfl⟩))
theorem dX10_isYear_4 : AtK mX10_isYear 4 (iZ 2399) 7 := Or.inr (Or.inr (Or.inl ⟨2399, by decide +kernel, by decide, rfl⟩))
theorem dX10_isYear_7 : AtS mX10_isYear 7 mX10_isIn 3 10 := ⟨90, 988, 989, by decide +kernel, rfl, by decide +kernel, by decide +kernel, rfl, ⟨⟨990, by decide +kernel⟩, ⟨63, by decide +kernel⟩, ⟨by decide, by decide⟩, by decide +kernel, by decide, by decide⟩⟩
theorem dX10_isYear_10 : At mX10_isYear 10 .ireturn 1 11 := ⟨by decide +kernel, rfl⟩
theorem dX10_isLong_0 : AtI mX10_isLong 0 0 1 := Or.inr ⟨0, by decide +kernel, rfl, rfl⟩
theorem dX10_isLong_1 : AtK mX10_isLong 1 (iZ 4) 2 := Or.inl ⟨4, by decide +kernel, by decide, rfl⟩
theorem dX10_isLong_2 : At mX10_isLong 2 .irem 1 3 := ⟨by decide +kernel, rfl⟩
theorem dX10_isLong_3 : AtJ mX10_isLong 3 (.ifCond .ne) 6 13 := ⟨10, by decide +kernel, rfl, by decide⟩
theorem dX10_isLong_6 : AtI mX10_isLong 6 0 7 := Or.inr ⟨0, by decide +kernel, rfl, rfl⟩
theorem dX10_isLong_7 : AtK mX10_isLong 7 (iZ 100) 9 := Or.inr (Or.inl ⟨100, by decide +kernel, by decide, rfl⟩)
theorem dX10_isLong_9 : At mX10_isLong 9 .irem 1 10 := ⟨by decide +kernel, rfl⟩
theorem dX10_isLong_10 : AtJ mX10_isLong 10 (.ifCond .ne) 13 21 := ⟨11, by decide +kernel, rfl, by decide⟩
theorem dX10_isLong_13 : AtI mX10_isLong 13 0 14 := Or.inr ⟨0, by decide +kernel, rfl, rfl⟩
theorem dX10_isLong_14 : AtK mX10_isLong 14 (iZ 400) 17 := Or.inr (Or.inr (Or.inl ⟨400, by decide +kernel, by decide, rfl⟩))
theorem dX10_isLong_17 : At mX10_isLong 17 .irem 1 18 := ⟨by decide +kernel, rfl⟩
theorem dX10_isLong_18 : AtJ mX10_isLong 18 (.ifCond .ne) 21 25 := ⟨7, by decide +kernel, rfl, by decide⟩
theorem dX10_isLong_21 : AtK mX10_isLong 21 (iZ 1) 22 := Or.inl ⟨1, by decide +kernel, by decide, rfl⟩
theorem dX10_isLong_22 : AtG mX10_isLong 22 26 := ⟨4, by decide +kernel, by decide⟩
theorem dX10_isLong_25 : AtK mX10_isLong 25 (iZ 0) 26 := Or.inl ⟨0, by decide +kernel, by decide, rfl⟩
theorem dX10_isLong_26 : At mX10_isLong 26 .ireturn 1 27 := ⟨by decide +kernel, rfl⟩
theorem dX10_daysOf_0 : AtI mX10_daysOf 0 1 1 := Or.inr ⟨1, by decide +kernel, rfl, rfl⟩
theorem dX10_daysOf_1 : AtK mX10_daysOf 1 (iZ 2) 2 := Or.inl ⟨2, by decide +kernel, by decide, rfl⟩
theorem dX10_daysOf_2 : AtJ mX10_daysOf 2 (.if_icmp .ne) 5 22 := ⟨20, by decide +kernel, rfl, by decide⟩
theorem dX10_daysOf_5 : AtI mX10_daysOf 5 0 6 := Or.inr ⟨0, by decide +kernel, rfl, rfl⟩
theorem dX10_daysOf_6 : AtS mX10_daysOf 6 mX10_isLong 1 9 := ⟨132, 1095, 1096, by decide +kernel, rfl, by decide +kernel, by decide +kernel, rfl, ⟨⟨1097, by decide +kernel⟩, ⟨63, by decide +kernel⟩, ⟨by decide, by decide⟩, by decide +kernel, by decide, by decide⟩⟩
theorem dX10_daysOf_9 : AtJ mX10_daysOf 9 (.ifCond .eq) 12 17 := ⟨8, by decide +kernel, rfl, by decide⟩
theorem dX10_daysOf_12 : AtK mX10_daysOf 12 (iZ 29) 14 := Or.inr (Or.inl ⟨29, by decide +kernel, by decide, rfl⟩)
theorem dX10_daysOf_14 : AtG mX10_daysOf 14 52 := ⟨38, by decide +kernel, by decide⟩
theorem dX10_daysOf_17 : AtK mX10_daysOf 17 (iZ 28) 19 := Or.inr (Or.inl ⟨28, by decide +kernel, by decide, rfl⟩)
theorem dX10_daysOf_19 : AtG mX10_daysOf 19 52 := ⟨33, by decide +kernel, by decide⟩
theorem dX10_daysOf_22 : AtI mX10_daysOf 22 1 23 := Or.inr ⟨1, by decide +kernel, rfl, rfl⟩
theorem dX10_daysOf_23 : AtK mX10_daysOf 23 (iZ 4) 24 := Or.inl ⟨4, by decide +kernel, by decide, rfl⟩
theorem dX10_daysOf_24 : AtJ mX10_daysOf 24 (.if_icmp .eq) 27 45 := ⟨21, by decide +kernel, rfl, by decide⟩
theorem dX10_daysOf_27 : AtI mX10_daysOf 27 1 28 := Or.inr ⟨1, by decide +kernel, rfl, rfl⟩
theorem dX10_daysOf_28 : AtK mX10_daysOf 28 (iZ 6) 30 := Or.inr (Or.inl ⟨6, by decide +kernel, by decide, rfl⟩)
theorem dX10_daysOf_30 : AtJ mX10_daysOf 30 (.if_icmp .eq) 33 45 := ⟨15, by decide +kernel, rfl, by decide⟩
theorem dX10_daysOf_33 : AtI mX10_daysOf 33 1 34 := Or.inr ⟨1, by decide +kernel, rfl, rfl⟩
theorem dX10_daysOf_34 : AtK mX10_daysOf 34 (iZ 9) 36 := Or.inr (Or.inl ⟨9, by decide +kernel, by decide, rfl⟩)
theorem dX10_daysOf_36 : AtJ mX10_daysOf 36 (.if_icmp .eq) 39 45 := ⟨9, by decide +kernel, rfl, by decide⟩
theorem dX10_daysOf_39 : AtI mX10_daysOf 39 1 40 := Or.inr ⟨1, by decide +kernel, rfl, rfl⟩
theorem dX10_daysOf_40 : AtK mX10_daysOf 40 (iZ 11) 42 := Or.inr (Or.inl ⟨11, by decide +kernel, by decide, rfl⟩)
theorem dX10_daysOf_42 : AtJ mX10_daysOf 42 (.if_icmp .ne) 45 50 := ⟨8, by decide +kernel, rfl, by decide⟩
theorem dX10_daysOf_45 : AtK mX10_daysOf 45 (iZ 30) 47 := Or.inr (Or.inl ⟨30, by decide +kernel, by decide, rfl⟩)
theorem dX10_daysOf_47 : AtG mX10_daysOf 47 52 := ⟨5, by decide +kernel, by decide⟩
theorem dX10_daysOf_50 : AtK mX10_daysOf 50 (iZ 31) 52 := Or.inr (Or.inl ⟨31, by decide +kernel, by decide, rfl⟩)
theorem dX10_daysOf_52 : At mX10_daysOf 52 .ireturn 1 53 := ⟨by decide +kernel, rfl⟩
theorem dX10_isDay_0 : AtI mX10_isDay 0 0 1 := Or.inr ⟨0, by decide +kernel, rfl, rfl⟩
theorem dX10_isDay_1 : AtS mX10_isDay 1 mX10_isYear 1 4 := ⟨135, 1075, 1076, by decide +kernel, rfl, by decide +kernel, by decide +kernel, rfl, ⟨⟨1077, by decide +kernel⟩, ⟨63, by decide +kernel⟩, ⟨by decide, by decide⟩, by decide +kernel, by decide, by decide⟩⟩
theorem dX10_isDay_4 : AtJ mX10_isDay 4 (.ifCond .eq) 7 34 := ⟨30, by decide +kernel, rfl, by decide⟩
theorem dX10_isDay_7 : AtI mX10_isDay 7 1 8 := Or.inr ⟨1, by decide +kernel, rfl, rfl⟩
theorem dX10_isDay_8 : AtK mX10_isDay 8 (iZ 1) 9 := Or.inl ⟨1, by decide +kernel, by decide, rfl⟩
theorem dX10_isDay_9 : AtK mX10_isDay 9 (iZ 12) 11 := Or.inr (Or.inl ⟨12, by decide +kernel, by decide, rfl⟩)
theorem dX10_isDay_11 : AtS mX10_isDay 11 mX10_isIn 3 14 := ⟨90, 988, 989, by decide +kernel, rfl, by decide +kernel, by decide +kernel, rfl, ⟨⟨990, by decide +kernel⟩, ⟨63, by decide +kernel⟩, ⟨by decide, by decide⟩, by decide +kernel, by decide, by decide⟩⟩
theorem dX10_isDay_14 : AtJ mX10_isDay 14 (.ifCond .eq) 17 34 := ⟨20, by decide +kernel, rfl, by decide⟩
theorem dX10_isDay_17 : AtI mX10_isDay 17 2 18 := Or.inr ⟨2, by decide +kernel, rfl, rfl⟩
theorem dX10_isDay_18 : AtK mX10_isDay 18 (iZ 1) 19 := Or.inl ⟨1, by decide +kernel, by decide, rfl⟩
theorem dX10_isDay_19 : AtI mX10_isDay 19 0 20 := Or.inr ⟨0, by decide +kernel, rfl, rfl⟩
theorem dX10_isDay_20 : AtI mX10_isDay 20 1 21 := Or.inr ⟨1, by decide +kernel, rfl, rfl⟩
theorem dX10_isDay_21 : AtS mX10_isDay 21 mX10_daysOf 2 24 := ⟨138, 1092, 1093, by decide +kernel, rfl, by decide +kernel, by decide +kernel, rfl, ⟨⟨1094, by decide +kernel⟩, ⟨63, by decide +kernel⟩, ⟨by decide, by decide⟩, by decide +kernel, by decide, by decide⟩⟩
theorem dX10_isDay_24 : AtS mX10_isDay 24 mX10_isIn 3 27 := ⟨90, 988, 989, by decide +kernel, rfl, by decide +kernel, by decide +kernel, rfl, ⟨⟨990, by decide +kernel⟩, ⟨63, by decide +kernel⟩, ⟨by decide, by decide⟩, by decide +kernel, by decide, by decide⟩⟩
theorem dX10_isDay_27 : AtJ mX10_isDay 27 (.ifCond .eq) 30 34 := ⟨7, by decide +kernel, rfl, by decide⟩
theorem dX10_isDay_30 : AtK mX10_isDay 30 (iZ 1) 31 := Or.inl ⟨1, by decide +kernel, by decide, rfl⟩
theorem dX10_isDay_31 : AtG mX10_isDay 31 35 := ⟨4, by decide +kernel, by decide⟩
theorem dX10_isDay_34 : AtK mX10_isDay 34 (iZ 0) 35 := Or.inl ⟨0, by decide +kernel, by decide, rfl⟩
theorem dX10_isDay_35 : At mX10_isDay 35 .ireturn 1 36 := ⟨by decide +kernel, rfl⟩
theorem dX10_placeOf_0 : AtI mX10_placeOf 0 2 1 := Or.inr ⟨2, by decide +kernel, rfl, rfl⟩
theorem dX10_placeOf_1 : AtK mX10_placeOf 1 (iZ 1) 2 := Or.inl ⟨1, by decide +kernel, by decide, rfl⟩
theorem dX10_placeOf_2 : At mX10_placeOf 2 .isub 1 3 := ⟨by decide +kernel, rfl⟩
theorem dX10_placeOf_3 : AtSI mX10_placeOf 3 3 4 := ⟨Or.inr ⟨3, by decide +kernel, rfl, rfl⟩, by decide⟩
theorem dX10_placeOf_4 : AtK mX10_placeOf 4 (iZ 1) 5 := Or.inl ⟨1, by decide +kernel, by decide, rfl⟩
theorem dX10_placeOf_5 : AtSI mX10_placeOf 5 4 7 := ⟨Or.inl ⟨by decide +kernel, rfl⟩, by decide⟩
theorem dX10_placeOf_7 : AtI mX10_placeOf 7 4 9 := Or.inl ⟨by decide +kernel, rfl⟩
theorem dX10_placeOf_9 : AtI mX10_placeOf 9 1 10 := Or.inr ⟨1, by decide +kernel, rfl, rfl⟩
theorem dX10_placeOf_10 : AtJ mX10_placeOf 10 (.if_icmp .ge) 13 28 := ⟨18, by decide +kernel, rfl, by decide⟩
theorem dX10_placeOf_13 : AtI mX10_placeOf 13 3 14 := Or.inr ⟨3, by decide +kernel, rfl, rfl⟩
theorem dX10_placeOf_14 : AtI mX10_placeOf 14 0 15 := Or.inr ⟨0, by decide +kernel, rfl, rfl⟩
theorem dX10_placeOf_15 : AtI mX10_placeOf 15 4 17 := Or.inl ⟨by decide +kernel, rfl⟩
theorem dX10_placeOf_17 : AtS mX10_placeOf 17 mX10_daysOf 2 20 := ⟨138, 1092, 1093, by decide +kernel, rfl, by decide +kernel, by decide +kernel, rfl, ⟨⟨1094, by decide +kernel⟩, ⟨63, by decide +kernel⟩, ⟨by decide, by decide⟩, by decide +kernel, by decide, by decide⟩⟩
theorem dX10_placeOf_20 : At mX10_placeOf 20 .iadd 1 21 := ⟨by decide +kernel, rfl⟩
theorem dX10_placeOf_21 : AtSI mX10_placeOf 21 3 22 := ⟨Or.inr ⟨3, by decide +kernel, rfl, rfl⟩, by decide⟩
theorem dX10_placeOf_22 : AtInc mX10_placeOf 22 4 (iZ 1) 25 := ⟨1, by decide +kernel, by decide, rfl, by decide⟩
theorem dX10_placeOf_25 : AtG mX10_placeOf 25 7 := ⟨(-18), by decide +kernel, by decide⟩
theorem dX10_placeOf_28 : AtI mX10_placeOf 28 3 29 := Or.inr ⟨3, by decide +kernel, rfl, rfl⟩
theorem dX10_placeOf_29 : At mX10_placeOf 29 .ireturn 1 30 := ⟨by decide +kernel, rfl⟩
theorem dX10_dateOf_0 : AtI mX10_dateOf 0 1 1 := Or.inr ⟨1, by decide +kernel, rfl, rfl⟩
theorem dX10_dateOf_1 : AtSI mX10_dateOf 1 2 2 := ⟨Or.inr ⟨2, by decide +kernel, rfl, rfl⟩, by decide⟩
theorem dX10_dateOf_2 : AtK mX10_dateOf 2 (iZ 1) 3 := Or.inl ⟨1, by decide +kernel, by decide, rfl⟩
theorem dX10_dateOf_3 : AtSI mX10_dateOf 3 3 4 := ⟨Or.inr ⟨3, by decide +kernel, rfl, rfl⟩, by decide⟩
theorem dX10_dateOf_4 : AtI mX10_dateOf 4 2 5 := Or.inr ⟨2, by decide +kernel, rfl, rfl⟩
theorem dX10_dateOf_5 : AtI mX10_dateOf 5 0 6 := Or.inr ⟨0, by decide +kernel, rfl, rfl⟩
theorem dX10_dateOf_6 : AtI mX10_dateOf 6 3 7 := Or.inr ⟨3, by decide +kernel, rfl, rfl⟩
theorem dX10_dateOf_7 : AtS mX10_dateOf 7 mX10_daysOf 2 10 := ⟨138, 1092, 1093, by decide +kernel, rfl, by decide +kernel, by decide +kernel, rfl, ⟨⟨1094, by decide +kernel⟩, ⟨63, by decide +kernel⟩, ⟨by decide, by decide⟩, by decide +kernel, by decide, by decide⟩⟩
theorem dX10_dateOf_10 : AtJ mX10_dateOf 10 (.if_icmp .lt) 13 27 := ⟨17, by decide +kernel, rfl, by decide⟩
theorem dX10_dateOf_13 : AtI mX10_dateOf 13 2 14 := Or.inr ⟨2, by decide +kernel, rfl, rfl⟩
theorem dX10_dateOf_14 : AtI mX10_dateOf 14 0 15 := Or.inr ⟨0, by decide +kernel, rfl, rfl⟩
theorem dX10_dateOf_15 : AtI mX10_dateOf 15 3 16 := Or.inr ⟨3, by decide +kernel, rfl, rfl⟩
theorem dX10_dateOf_16 : AtS mX10_dateOf 16 mX10_daysOf 2 19 := ⟨138, 1092, 1093, by decide +kernel, rfl, by decide +kernel, by decide +kernel, rfl, ⟨⟨1094, by decide +kernel⟩, ⟨63, by decide +kernel⟩, ⟨by decide, by decide⟩, by decide +kernel, by decide, by decide⟩⟩
theorem dX10_dateOf_19 : At mX10_dateOf 19 .isub 1 20 := ⟨by decide +kernel, rfl⟩
theorem dX10_dateOf_20 : AtSI mX10_dateOf 20 2 21 := ⟨Or.inr ⟨2, by decide +kernel, rfl, rfl⟩, by decide⟩
theorem dX10_dateOf_21 : AtInc mX10_dateOf 21 3 (iZ 1) 24 := ⟨1, by decide +kernel, by decide, rfl, by decide⟩
theorem dX10_dateOf_24 : AtG mX10_dateOf 24 4 := ⟨(-20), by decide +kernel, by decide⟩
theorem dX10_dateOf_27 : AtK mX10_dateOf 27 (iZ 100) 29 := Or.inr (Or.inl ⟨100, by decide +kernel, by decide, rfl⟩)
theorem dX10_dateOf_29 : AtI mX10_dateOf 29 3 30 := Or.inr ⟨3, by decide +kernel, rfl, rfl⟩
theorem dX10_dateOf_30 : At mX10_dateOf 30 .imul 1 31 := ⟨by decide +kernel, rfl⟩
theorem dX10_dateOf_31 : AtI mX10_dateOf 31 2 32 := Or.inr ⟨2, by decide +kernel, rfl, rfl⟩
theorem dX10_dateOf_32 : At mX10_dateOf 32 .iadd 1 33 := ⟨by decide +kernel, rfl⟩
theorem dX10_dateOf_33 : AtK mX10_dateOf 33 (iZ 1) 34 := Or.inl ⟨1, by decide +kernel, by decide, rfl⟩
theorem dX10_dateOf_34 : At mX10_dateOf 34 .iadd 1 35 := ⟨by decide +kernel, rfl⟩
theorem dX10_dateOf_35 : At mX10_dateOf 35 .ireturn 1 36 := ⟨by decide +kernel, rfl⟩
theorem dX10_lengthOf_0 : AtI mX10_lengthOf 0 0 1 := Or.inr ⟨0, by decide +kernel, rfl, rfl⟩
theorem dX10_lengthOf_1 : AtS mX10_lengthOf 1 mX10_isLong 1 4 := ⟨132, 1095, 1096, by decide +kernel, rfl, by decide +kernel, by decide +kernel, rfl, ⟨⟨1097, by decide +kernel⟩, ⟨63, by decide +kernel⟩, ⟨by decide, by decide⟩, by decide +kernel, by decide, by decide⟩⟩
theorem dX10_lengthOf_4 : AtJ mX10_lengthOf 4 (.ifCond .eq) 7 13 := ⟨9, by decide +kernel, rfl, by decide⟩
theorem dX10_lengthOf_7 : AtK mX10_lengthOf 7 (iZ 366) 10 := Or.inr (Or.inr (Or.inl ⟨366, by decide +kernel, by decide, rfl⟩))
theorem dX10_lengthOf_10 : AtG mX10_lengthOf 10 16 := ⟨6, by decide +kernel, by decide⟩
theorem dX10_lengthOf_13 : AtK mX10_lengthOf 13 (iZ 365) 16 := Or.inr (Or.inr (Or.inl ⟨365, by decide +kernel, by decide, rfl⟩))
theorem dX10_lengthOf_16 : At mX10_lengthOf 16 .ireturn 1 17 := ⟨by decide +kernel, rfl⟩
theorem dX10_before_0 : AtI mX10_before 0 0 1 := Or.inr ⟨0, by decide +kernel, rfl, rfl⟩
theorem dX10_before_1 : AtK mX10_before 1 (iZ 1) 2 := Or.inl ⟨1, by decide +kernel, by decide, rfl⟩
theorem dX10_before_2 : At mX10_before 2 .isub 1 3 := ⟨by decide +kernel, rfl⟩
theorem dX10_before_3 : AtSI mX10_before 3 1 4 := ⟨Or.inr ⟨1, by decide +kernel, rfl, rfl⟩, by decide⟩
theorem dX10_before_4 : AtK mX10_before 4 (iZ 365) 7 := Or.inr (Or.inr (Or.inl ⟨365, by decide +kernel, by decide, rfl⟩))
theorem dX10_before_7 : AtI mX10_before 7 0 8 := Or.inr ⟨0, by decide +kernel, rfl, rfl⟩
theorem dX10_before_8 : At mX10_before 8 .imul 1 9 := ⟨by decide +kernel, rfl⟩
theorem dX10_before_9 : AtI mX10_before 9 1 10 := Or.inr ⟨1, by decide +kernel, rfl, rfl⟩
theorem dX10_before_10 : AtK mX10_before 10 (iZ 4) 11 := Or.inl ⟨4, by decide +kernel, by decide, rfl⟩
theorem dX10_before_11 : At mX10_before 11 .idiv 1 12 := ⟨by decide +kernel, rfl⟩
theorem dX10_before_12 : At mX10_before 12 .iadd 1 13 := ⟨by decide +kernel, rfl⟩
theorem dX10_before_13 : AtI mX10_before 13 1 14 := Or.inr ⟨1, by decide +kernel, rfl, rfl⟩
theorem dX10_before_14 : AtK mX10_before 14 (iZ 100) 16 := Or.inr (Or.inl ⟨100, by decide +kernel, by decide, rfl⟩)
theorem dX10_before_16 : At mX10_before 16 .idiv 1 17 := ⟨by decide +kernel, rfl⟩
theorem dX10_before_17 : At mX10_before 17 .isub 1 18 := ⟨by decide +kernel, rfl⟩
theorem dX10_before_18 : AtI mX10_before 18 1 19 := Or.inr ⟨1, by decide +kernel, rfl, rfl⟩
theorem dX10_before_19 : AtK mX10_before 19 (iZ 400) 22 := Or.inr (Or.inr (Or.inl ⟨400, by decide +kernel, by decide, rfl⟩))
theorem dX10_before_22 : At mX10_before 22 .idiv 1 23 := ⟨by decide +kernel, rfl⟩
theorem dX10_before_23 : At mX10_before 23 .iadd 1 24 := ⟨by decide +kernel, rfl⟩
theorem dX10_before_24 : At mX10_before 24 .ireturn 1 25 := ⟨by decide +kernel, rfl⟩
theorem dX10_weekdayOf_0 : AtI mX10_weekdayOf 0 0 1 := Or.inr ⟨0, by decide +kernel, rfl, rfl⟩
theorem dX10_weekdayOf_1 : AtS mX10_weekdayOf 1 mX10_before 1 4 := ⟨141, 1104, 1105, by decide +kernel, rfl, by decide +kernel, by decide +kernel, rfl, ⟨⟨1106, by decide +kernel⟩, ⟨63, by decide +kernel⟩, ⟨by decide, by decide⟩, by decide +kernel, by decide, by decide⟩⟩
theorem dX10_weekdayOf_4 : AtI mX10_weekdayOf 4 1 5 := Or.inr ⟨1, by decide +kernel, rfl, rfl⟩
theorem dX10_weekdayOf_5 : At mX10_weekdayOf 5 .iadd 1 6 := ⟨by decide +kernel, rfl⟩
theorem dX10_weekdayOf_6 : AtK mX10_weekdayOf 6 (iZ 6) 8 := Or.inr (Or.inl ⟨6, by decide +kernel, by decide, rfl⟩)
theorem dX10_weekdayOf_8 : At mX10_weekdayOf 8 .iadd 1 9 := ⟨by decide +kernel, rfl⟩
theorem dX10_weekdayOf_9 : AtK mX10_weekdayOf 9 (iZ 700000) 11 := Or.inr (Or.inr (Or.inr (Or.inl ⟨145, 1107, by decide +kernel, by decide +kernel, rfl⟩)))
theorem dX10_weekdayOf_11 : At mX10_weekdayOf 11 .iadd 1 12 := ⟨by decide +kernel, rfl⟩
theorem dX10_weekdayOf_12 : AtK mX10_weekdayOf 12 (iZ 2000) 15 := Or.inr (Or.inr (Or.inl ⟨2000, by decide +kernel, by decide, rfl⟩))
theorem dX10_weekdayOf_15 : AtS mX10_weekdayOf 15 mX10_before 1 18 := ⟨141, 1104, 1105, by decide +kernel, rfl, by decide +kernel, by decide +kernel, rfl, ⟨⟨1106, by decide +kernel⟩, ⟨63, by decide +kernel⟩, ⟨by decide, by decide⟩, by decide +kernel, by decide, by decide⟩⟩
theorem dX10_weekdayOf_18 : At mX10_weekdayOf 18 .isub 1 19 := ⟨by decide +kernel, rfl⟩
theorem dX10_weekdayOf_19 : AtK mX10_weekdayOf 19 (iZ 7) 21 := Or.inr (Or.inl ⟨7, by decide +kernel, by decide, rfl⟩)
theorem dX10_weekdayOf_21 : At mX10_weekdayOf 21 .irem 1 22 := ⟨by decide +kernel, rfl⟩
theorem dX10_weekdayOf_22 : At mX10_weekdayOf 22 .ireturn 1 23 := ⟨by decide +kernel, rfl⟩
theorem dX10_easterOf_0 : AtI mX10_easterOf 0 0 1 := Or.inr ⟨0, by decide +kernel, rfl, rfl⟩
theorem dX10_easterOf_1 : AtK mX10_easterOf 1 (iZ 19) 3 := Or.inr (Or.inl ⟨19, by decide +kernel, by decide, rfl⟩)
theorem dX10_easterOf_3 : At mX10_easterOf 3 .irem 1 4 := ⟨by decide +kernel, rfl⟩
theorem dX10_easterOf_4 : AtK mX10_easterOf 4 (iZ 1) 5 := Or.inl ⟨1, by decide +kernel, by decide, rfl⟩
theorem dX10_easterOf_5 : At mX10_easterOf 5 .iadd 1 6 := ⟨by decide +kernel, rfl⟩
theorem dX10_easterOf_6 : AtSI mX10_easterOf 6 1 7 := ⟨Or.inr ⟨1, by decide +kernel, rfl, rfl⟩, by decide⟩
theorem dX10_easterOf_7 : AtI mX10_easterOf 7 0 8 := Or.inr ⟨0, by decide +kernel, rfl, rfl⟩
theorem dX10_easterOf_8 : AtK mX10_easterOf 8 (iZ 100) 10 := Or.inr (Or.inl ⟨100, by decide +kernel, by decide, rfl⟩)
theorem dX10_easterOf_10 : At mX10_easterOf 10 .idiv 1 11 := ⟨by decide +kernel, rfl⟩
theorem dX10_easterOf_11 : AtK mX10_easterOf 11 (iZ 1) 12 := Or.inl ⟨1, by decide +kernel, by decide, rfl⟩
theorem dX10_easterOf_12 : At mX10_easterOf 12 .iadd 1 13 := ⟨by decide +kernel, rfl⟩
theorem dX10_easterOf_13 : AtSI mX10_easterOf 13 2 14 := ⟨Or.inr ⟨2, by decide +kernel, rfl, rfl⟩, by decide⟩
theorem dX10_easterOf_14 : AtK mX10_easterOf 14 (iZ 3) 15 := Or.inl ⟨3, by decide +kernel, by decide, rfl⟩
theorem dX10_easterOf_15 : AtI mX10_easterOf 15 2 16 := Or.inr ⟨2, by decide +kernel, rfl, rfl⟩
theorem dX10_easterOf_16 : At mX10_easterOf 16 .imul 1 17 := ⟨by decide +kernel, rfl⟩
theorem dX10_easterOf_17 : AtK mX10_easterOf 17 (iZ 4) 18 := Or.inl ⟨4, by decide +kernel, by decide, rfl⟩
theorem dX10_easterOf_18 : At mX10_easterOf 18 .idiv 1 19 := ⟨by decide +kernel, rfl⟩
theorem dX10_easterOf_19 : AtK mX10_easterOf 19 (iZ 12) 21 := Or.inr (Or.inl ⟨12, by decide +kernel, by decide, rfl⟩)
theorem dX10_easterOf_21 : At mX10_easterOf 21 .isub 1 22 := ⟨by decide +kernel, rfl⟩
theorem dX10_easterOf_22 : AtSI mX10_easterOf 22 3 23 := ⟨Or.inr ⟨3, by decide +kernel, rfl, rfl⟩, by decide⟩
theorem dX10_easterOf_23 : AtK mX10_easterOf 23 (iZ 8) 25 := Or.inr (Or.inl ⟨8, by decide +kernel, by decide, rfl⟩)
theorem dX10_easterOf_25 : AtI mX10_easterOf 25 2 26 := Or.inr ⟨2, by decide +kernel, rfl, rfl⟩
theorem dX10_easterOf_26 : At mX10_easterOf 26 .imul 1 27 := ⟨by decide +kernel, rfl⟩
theorem dX10_easterOf_27 : AtK mX10_easterOf 27 (iZ 5) 28 := Or.inl ⟨5, by decide +kernel, by decide, rfl⟩
theorem dX10_easterOf_28 : At mX10_easterOf 28 .iadd 1 29 := ⟨by decide +kernel, rfl⟩
theorem dX10_easterOf_29 : AtK mX10_easterOf 29 (iZ 25) 31 := Or.inr (Or.inl ⟨25, by decide +kernel, by decide, rfl⟩)
theorem dX10_easterOf_31 : At mX10_easterOf 31 .idiv 1 32 := ⟨by decide +kernel, rfl⟩
theorem dX10_easterOf_32 : AtK mX10_easterOf 32 (iZ 5) 33 := Or.inl ⟨5, by decide +kernel, by decide, rfl⟩
theorem dX10_easterOf_33 : At mX10_easterOf 33 .isub 1 34 := ⟨by decide +kernel, rfl⟩
theorem dX10_easterOf_34 : AtSI mX10_easterOf 34 4 36 := ⟨Or.inl ⟨by decide +kernel, rfl⟩, by decide⟩
theorem dX10_easterOf_36 : AtK mX10_easterOf 36 (iZ 5) 37 := Or.inl ⟨5, by decide +kernel, by decide, rfl⟩
theorem dX10_easterOf_37 : AtI mX10_easterOf 37 0 38 := Or.inr ⟨0, by decide +kernel, rfl, rfl⟩
theorem dX10_easterOf_38 : At mX10_easterOf 38 .imul 1 39 := ⟨by decide +kernel, rfl⟩
theorem dX10_easterOf_39 : AtK mX10_easterOf 39 (iZ 4) 40 := Or.inl ⟨4, by decide +kernel, by decide, rfl⟩
theorem dX10_easterOf_40 : At mX10_easterOf 40 .idiv 1 41 := ⟨by decide +kernel, rfl⟩
theorem dX10_easterOf_41 : AtI mX10_easterOf 41 3 42 := Or.inr ⟨3, by decide +kernel, rfl, rfl⟩
theorem dX10_easterOf_42 : At mX10_easterOf 42 .isub 1 43 := ⟨by decide +kernel, rfl⟩
theorem dX10_easterOf_43 : AtK mX10_easterOf 43 (iZ 10) 45 := Or.inr (Or.inl ⟨10, by decide +kernel, by decide, rfl⟩)
theorem dX10_easterOf_45 : At mX10_easterOf 45 .isub 1 46 := ⟨by decide +kernel, rfl⟩
theorem dX10_easterOf_46 : AtSI mX10_easterOf 46 5 48 := ⟨Or.inl ⟨by decide +kernel, rfl⟩, by decide⟩
theorem dX10_easterOf_48 : AtK mX10_easterOf 48 (iZ 11) 50 := Or.inr (Or.inl ⟨11, by decide +kernel, by decide, rfl⟩)
theorem dX10_easterOf_50 : AtI mX10_easterOf 50 1 51 := Or.inr ⟨1, by decide +kernel, rfl, rfl⟩
theorem dX10_easterOf_51 : At mX10_easterOf 51 .imul 1 52 := ⟨by decide +kernel, rfl⟩
theorem dX10_easterOf_52 : AtK mX10_easterOf 52 (iZ 20) 54 := Or.inr (Or.inl ⟨20, by decide +kernel, by decide, rfl⟩)
theorem dX10_easterOf_54 : At mX10_easterOf 54 .iadd 1 55 := ⟨by decide +kernel, rfl⟩
theorem dX10_easterOf_55 : AtI mX10_easterOf 55 4 57 := Or.inl ⟨by decide +kernel, rfl⟩
theorem dX10_easterOf_57 : At mX10_easterOf 57 .iadd 1 58 := ⟨by decide +kernel, rfl⟩
theorem dX10_easterOf_58 : AtI mX10_easterOf 58 3 59 := Or.inr ⟨3, by decide +kernel, rfl, rfl⟩
theorem dX10_easterOf_59 : At mX10_easterOf 59 .isub 1 60 := ⟨by decide +kernel, rfl⟩
theorem dX10_easterOf_60 : AtK mX10_easterOf 60 (iZ 30) 62 := Or.inr (Or.inl ⟨30, by decide +kernel, by decide, rfl⟩)
theorem dX10_easterOf_62 : At mX10_easterOf 62 .irem 1 63 := ⟨by decide +kernel, rfl⟩
theorem dX10_easterOf_63 : AtSI mX10_easterOf 63 6 65 := ⟨Or.inl ⟨by decide +kernel, rfl⟩, by decide⟩
theorem dX10_easterOf_65 : AtI mX10_easterOf 65 6 67 := Or.inl ⟨by decide +kernel, rfl⟩
theorem dX10_easterOf_67 : AtI mX10_easterOf 67 6 69 := Or.inl ⟨by decide +kernel, rfl⟩
theorem dX10_easterOf_69 : AtK mX10_easterOf 69 (iZ 24) 71 := Or.inr (Or.inl ⟨24, by decide +kernel, by decide, rfl⟩)
theorem dX10_easterOf_71 : AtJ mX10_easterOf 71 (.if_icmp .eq) 74 87 := ⟨16, by decide +kernel, rfl, by decide⟩
theorem dX10_easterOf_74 : AtI mX10_easterOf 74 6 76 := Or.inl ⟨by decide +kernel, rfl⟩
theorem dX10_easterOf_76 : AtK mX10_easterOf 76 (iZ 25) 78 := Or.inr (Or.inl ⟨25, by decide +kernel, by decide, rfl⟩)
theorem dX10_easterOf_78 : AtJ mX10_easterOf 78 (.if_icmp .ne) 81 91 := ⟨13, by decide +kernel, rfl, by decide⟩
theorem dX10_easterOf_81 : AtI mX10_easterOf 81 1 82 := Or.inr ⟨1, by decide +kernel, rfl, rfl⟩
theorem dX10_easterOf_82 : AtK mX10_easterOf 82 (iZ 11) 84 := Or.inr (Or.inl ⟨11, by decide +kernel, by decide, rfl⟩)
theorem dX10_easterOf_84 : AtJ mX10_easterOf 84 (.if_icmp .le) 87 91 := ⟨7, by decide +kernel, rfl, by decide⟩
theorem dX10_easterOf_87 : AtK mX10_easterOf 87 (iZ 1) 88 := Or.inl ⟨1, by decide +kernel, by decide, rfl⟩
theorem dX10_easterOf_88 : AtG mX10_easterOf 88 92 := ⟨4, by decide +kernel, by decide⟩
theorem dX10_easterOf_91 : AtK mX10_easterOf 91 (iZ 0) 92 := Or.inl ⟨0, by decide +kernel, by decide, rfl⟩
theorem dX10_easterOf_92 : At mX10_easterOf 92 .iadd 1 93 := ⟨by decide +kernel, rfl⟩
theorem dX10_easterOf_93 : AtSI mX10_easterOf 93 6 95 := ⟨Or.inl ⟨by decide +kernel, rfl⟩, by decide⟩
theorem dX10_easterOf_95 : AtK mX10_easterOf 95 (iZ 44) 97 := Or.inr (Or.inl ⟨44, by decide +kernel, by decide, rfl⟩)
theorem dX10_easterOf_97 : AtI mX10_easterOf 97 6 99 := Or.inl ⟨by decide +kernel, rfl⟩
theorem dX10_easterOf_99 : At mX10_easterOf 99 .isub 1 100 := ⟨by decide +kernel, rfl⟩
theorem dX10_easterOf_100 : AtSI mX10_easterOf 100 7 102 := ⟨Or.inl ⟨by decide +kernel, rfl⟩, by decide⟩
theorem dX10_easterOf_102 : AtI mX10_easterOf 102 7 104 := Or.inl ⟨by decide +kernel, rfl⟩
theorem dX10_easterOf_104 : AtI mX10_easterOf 104 7 106 := Or.inl ⟨by decide +kernel, rfl⟩
theorem dX10_easterOf_106 : AtK mX10_easterOf 106 (iZ 21) 108 := Or.inr (Or.inl ⟨21, by decide +kernel, by decide, rfl⟩)
theorem dX10_easterOf_108 : AtJ mX10_easterOf 108 (.if_icmp .ge) 111 116 := ⟨8, by decide +kernel, rfl, by decide⟩
theorem dX10_easterOf_111 : AtK mX10_easterOf 111 (iZ 30) 113 := Or.inr (Or.inl ⟨30, by decide +kernel, by decide, rfl⟩)
theorem dX10_easterOf_113 : AtG mX10_easterOf 113 117 := ⟨4, by decide +kernel, by decide⟩
theorem dX10_easterOf_116 : AtK mX10_easterOf 116 (iZ 0) 117 := Or.inl ⟨0, by decide +kernel, by decide, rfl⟩
theorem dX10_easterOf_117 : At mX10_easterOf 117 .iadd 1 118 := ⟨by decide +kernel, rfl⟩
theorem dX10_easterOf_118 : AtSI mX10_easterOf 118 7 120 := ⟨Or.inl ⟨by decide +kernel, rfl⟩, by decide⟩
theorem dX10_easterOf_120 : AtI mX10_easterOf 120 7 122 := Or.inl ⟨by decide +kernel, rfl⟩
theorem dX10_easterOf_122 : AtK mX10_easterOf 122 (iZ 7) 124 := Or.inr (Or.inl ⟨7, by decide +kernel, by decide, rfl⟩)
theorem dX10_easterOf_124 : AtI mX10_easterOf 124 5 126 := Or.inl ⟨by decide +kernel, rfl⟩
theorem dX10_easterOf_126 : AtI mX10_easterOf 126 7 128 := Or.inl ⟨by decide +kernel, rfl⟩
theorem dX10_easterOf_128 : At mX10_easterOf 128 .iadd 1 129 := ⟨by decide +kernel, rfl⟩
theorem dX10_easterOf_129 : AtK mX10_easterOf 129 (iZ 7) 131 := Or.inr (Or.inl ⟨7, by decide +kernel, by decide, rfl⟩)
theorem dX10_easterOf_131 : At mX10_easterOf 131 .irem 1 132 := ⟨by decide +kernel, rfl⟩
theorem dX10_easterOf_132 : At mX10_easterOf 132 .isub 1 133 := ⟨by decide +kernel, rfl⟩
theorem dX10_easterOf_133 : At mX10_easterOf 133 .iadd 1 134 := ⟨by decide +kernel, rfl⟩
theorem dX10_easterOf_134 : AtSI mX10_easterOf 134 7 136 := ⟨Or.inl ⟨by decide +kernel, rfl⟩, by decide⟩
theorem dX10_easterOf_136 : AtI mX10_easterOf 136 7 138 := Or.inl ⟨by decide +kernel, rfl⟩
theorem dX10_easterOf_138 : AtK mX10_easterOf 138 (iZ 31) 140 := Or.inr (Or.inl ⟨31, by decide +kernel, by decide, rfl⟩)
theorem dX10_easterOf_140 : AtJ mX10_easterOf 140 (.if_icmp .le) 143 155 := ⟨15, by decide +kernel, rfl, by decide⟩
theorem dX10_easterOf_143 : AtK mX10_easterOf 143 (iZ 400) 146 := Or.inr (Or.inr (Or.inl ⟨400, by decide +kernel, by decide, rfl⟩))
theorem dX10_easterOf_146 : AtI mX10_easterOf 146 7 148 := Or.inl ⟨by decide +kernel, rfl⟩
theorem dX10_easterOf_148 : At mX10_easterOf 148 .iadd 1 149 := ⟨by decide +kernel, rfl⟩
theorem dX10_easterOf_149 : AtK mX10_easterOf 149 (iZ 31) 151 := Or.inr (Or.inl ⟨31, by decide +kernel, by decide, rfl⟩)
theorem dX10_easterOf_151 : At mX10_easterOf 151 .isub 1 152 := ⟨by decide +kernel, rfl⟩
theorem dX10_easterOf_152 : AtG mX10_easterOf 152 161 := ⟨9, by decide +kernel, by decide⟩
theorem dX10_easterOf_155 : AtK mX10_easterOf 155 (iZ 300) 158 := Or.inr (Or.inr (Or.inl ⟨300, by decide +kernel, by decide, rfl⟩))
theorem dX10_easterOf_158 : AtI mX10_easterOf 158 7 160 := Or.inl ⟨by decide +kernel, rfl⟩
theorem dX10_easterOf_160 : At mX10_easterOf 160 .iadd 1 161 := ⟨by decide +kernel, rfl⟩
theorem dX10_easterOf_161 : At mX10_easterOf 161 .ireturn 1 162 := ⟨by decide +kernel, rfl⟩
theorem dX10_tellsEaster_0 : AtA mX10_tellsEaster 0 0 1 := Or.inr ⟨0, by decide +kernel, rfl, rfl⟩
theorem dX10_tellsEaster_1 : AtI mX10_tellsEaster 1 1 2 := Or.inr ⟨1, by decide +kernel, rfl, rfl⟩
theorem dX10_tellsEaster_2 : AtS mX10_tellsEaster 2 mX10_isYear 1 5 := ⟨135, 1075, 1076, by decide +kernel, rfl, by decide +kernel, by decide +kernel, rfl, ⟨⟨1077, by decide +kernel⟩, ⟨63, by decide +kernel⟩, ⟨by decide, by decide⟩, by decide +kernel, by decide, by decide⟩⟩
theorem dX10_tellsEaster_5 : AtJ mX10_tellsEaster 5 (.ifCond .eq) 8 12 := ⟨7, by decide +kernel, rfl, by decide⟩
theorem dX10_tellsEaster_8 : AtK mX10_tellsEaster 8 (iZ 0) 9 := Or.inl ⟨0, by decide +kernel, by decide, rfl⟩
theorem dX10_tellsEaster_9 : AtG mX10_tellsEaster 9 13 := ⟨4, by decide +kernel, by decide⟩
theorem dX10_tellsEaster_12 : AtK mX10_tellsEaster 12 (iZ 1) 13 := Or.inl ⟨1, by decide +kernel, by decide, rfl⟩
theorem dX10_tellsEaster_13 : AtP mX10_tellsEaster 13 10 30 (.int) 16 := ⟨86, (RX10, TX10, 31), by decide +kernel, rfl, rfl, by decide, Or.inl ⟨912, by decide +kernel⟩, by decide +kernel, Or.inl rfl⟩
theorem dX10_tellsEaster_16 : AtA mX10_tellsEaster 16 0 17 := Or.inr ⟨0, by decide +kernel, rfl, rfl⟩
theorem dX10_tellsEaster_17 : AtF mX10_tellsEaster 17 10 30 20 := ⟨86, (RX10, TX10, 31), by decide +kernel, rfl, rfl, by decide, Or.inl (Or.inl ⟨912, by decide +kernel⟩)⟩
theorem dX10_tellsEaster_20 : AtJ mX10_tellsEaster 20 (.ifCond .le) 23 27 := ⟨7, by decide +kernel, rfl, by decide⟩
theorem dX10_tellsEaster_23 : AtK mX10_tellsEaster 23 (iZ 0) 24 := Or.inl ⟨0, by decide +kernel, by decide, rfl⟩
theorem dX10_tellsEaster_24 : AtG mX10_tellsEaster 24 31 := ⟨7, by decide +kernel, by decide⟩
theorem dX10_tellsEaster_27 : AtI mX10_tellsEaster 27 1 28 := Or.inr ⟨1, by decide +kernel, rfl, rfl⟩
theorem dX10_tellsEaster_28 : AtS mX10_tellsEaster 28 mX10_easterOf 1 31 := ⟨146, 1078, 1079, by decide +kernel, rfl, by decide +kernel, by decide +kernel, rfl, ⟨⟨1080, by decide +kernel⟩, ⟨63, by decide +kernel⟩, ⟨by decide, by decide⟩, by decide +kernel, by decide, by decide⟩⟩
theorem dX10_tellsEaster_31 : At mX10_tellsEaster 31 .ireturn 1 32 := ⟨by decide +kernel, rfl⟩
theorem dX10_easter_0 : AtA mX10_easter 0 0 1 := Or.inr ⟨0, by decide +kernel, rfl, rfl⟩
theorem dX10_easter_1 : AtI mX10_easter 1 1 2 := Or.inr ⟨1, by decide +kernel, rfl, rfl⟩
theorem dX10_easter_2 : AtV mX10_easter 2 mX10_tellsEaster 1 10 5 := ⟨149, 1071, 1073, 40, (RX10, TX10, 31), by decide +kernel, rfl, rfl, by decide +kernel, by decide +kernel, by decide +kernel, rfl, ⟨⟨1074, by decide +kernel⟩, ⟨63, by decide +kernel⟩, ⟨by decide, by decide⟩, by decide +kernel, by decide, by decide⟩⟩
theorem dX10_easter_5 : At mX10_easter 5 .ireturn 1 6 := ⟨by decide +kernel, rfl⟩
theorem dX10_easterAnew_0 : AtA mX10_easterAnew 0 0 1 := Or.inr ⟨0, by decide +kernel, rfl, rfl⟩
theorem dX10_easterAnew_1 : AtI mX10_easterAnew 1 1 2 := Or.inr ⟨1, by decide +kernel, rfl, rfl⟩
theorem dX10_easterAnew_2 : AtV mX10_easterAnew 2 mX10_tellsEaster 1 10 5 := ⟨149, 1071, 1073, 40, (RX10, TX10, 31), by decide +kernel, rfl, rfl, by decide +kernel, by decide +kernel, by decide +kernel, rfl, ⟨⟨1074, by decide +kernel⟩, ⟨63, by decide +kernel⟩, ⟨by decide, by decide⟩, by decide +kernel, by decide, by decide⟩⟩
theorem dX10_easterAnew_5 : At mX10_easterAnew 5 .ireturn 1 6 := ⟨by decide +kernel, rfl⟩
theorem dX10_weekday_0 : AtA mX10_weekday 0 0 1 := Or.inr ⟨0, by decide +kernel, rfl, rfl⟩
theorem dX10_weekday_1 : AtI mX10_weekday 1 1 2 := Or.inr ⟨1, by decide +kernel, rfl, rfl⟩
theorem dX10_weekday_2 : AtI mX10_weekday 2 2 3 := Or.inr ⟨2, by decide +kernel, rfl, rfl⟩
theorem dX10_weekday_3 : AtI mX10_weekday 3 3 4 := Or.inr ⟨3, by decide +kernel, rfl, rfl⟩
theorem dX10_weekday_4 : AtS mX10_weekday 4 mX10_isDay 3 7 := ⟨152, 1089, 1090, by decide +kernel, rfl, by decide +kernel, by decide +kernel, rfl, ⟨⟨1091, by decide +kernel⟩, ⟨63, by decide +kernel⟩, ⟨by decide, by decide⟩, by decide +kernel, by decide, by decide⟩⟩
theorem dX10_weekday_7 : AtJ mX10_weekday 7 (.ifCond .eq) 10 14 := ⟨7, by decide +kernel, rfl, by decide⟩
theorem dX10_weekday_10 : AtK mX10_weekday 10 (iZ 0) 11 := Or.inl ⟨0, by decide +kernel, by decide, rfl⟩
theorem dX10_weekday_11 : AtG mX10_weekday 11 15 := ⟨4, by decide +kernel, by decide⟩
theorem dX10_weekday_14 : AtK mX10_weekday 14 (iZ 1) 15 := Or.inl ⟨1, by decide +kernel, by decide, rfl⟩
theorem dX10_weekday_15 : AtP mX10_weekday 15 10 30 (.int) 18 := ⟨86, (RX10, TX10, 31), by decide +kernel, rfl, rfl, by decide, Or.inl ⟨912, by decide +kernel⟩, by decide +kernel, Or.inl rfl⟩
theorem dX10_weekday_18 : AtA mX10_weekday 18 0 19 := Or.inr ⟨0, by decide +kernel, rfl, rfl⟩
theorem dX10_weekday_19 : AtF mX10_weekday 19 10 30 22 := ⟨86, (RX10, TX10, 31), by decide +kernel, rfl, rfl, by decide, Or.inl (Or.inl ⟨912, by decide +kernel⟩)⟩
theorem dX10_weekday_22 : AtJ mX10_weekday 22 (.ifCond .le) 25 29 := ⟨7, by decide +kernel, rfl, by decide⟩
theorem dX10_weekday_25 : AtK mX10_weekday 25 (iZ 0) 26 := Or.inl ⟨0, by decide +kernel, by decide, rfl⟩
theorem dX10_weekday_26 : AtG mX10_weekday 26 39 := ⟨13, by decide +kernel, by decide⟩
theorem dX10_weekday_29 : AtI mX10_weekday 29 1 30 := Or.inr ⟨1, by decide +kernel, rfl, rfl⟩
theorem dX10_weekday_30 : AtI mX10_weekday 30 1 31 := Or.inr ⟨1, by decide +kernel, rfl, rfl⟩
theorem dX10_weekday_31 : AtI mX10_weekday 31 2 32 := Or.inr ⟨2, by decide +kernel, rfl, rfl⟩
theorem dX10_weekday_32 : AtI mX10_weekday 32 3 33 := Or.inr ⟨3, by decide +kernel, rfl, rfl⟩
theorem dX10_weekday_33 : AtS mX10_weekday 33 mX10_placeOf 3 36 := ⟨155, 1098, 1099, by decide +kernel, rfl, by decide +kernel, by decide +kernel, rfl, ⟨⟨1100, by decide +kernel⟩, ⟨63, by decide +kernel⟩, ⟨by decide, by decide⟩, by decide +kernel, by decide, by decide⟩⟩
theorem dX10_weekday_36 : AtS mX10_weekday 36 mX10_weekdayOf 2 39 := ⟨159, 1101, 1102, by decide +kernel, rfl, by decide +kernel, by decide +kernel, rfl, ⟨⟨1103, by decide +kernel⟩, ⟨63, by decide +kernel⟩, ⟨by decide, by decide⟩, by decide +kernel, by decide, by decide⟩⟩
theorem dX10_weekday_39 : At mX10_weekday 39 .ireturn 1 40 := ⟨by decide +kernel, rfl⟩
theorem dX10_isRank_0 : AtI mX10_isRank 0 0 1 := Or.inr ⟨0, by decide +kernel, rfl, rfl⟩
theorem dX10_isRank_1 : AtK mX10_isRank 1 (iZ 1) 2 := Or.inl ⟨1, by decide +kernel, by decide, rfl⟩
theorem dX10_isRank_2 : AtK mX10_isRank 2 (iZ 9) 4 := Or.inr (Or.inl ⟨9, by decide +kernel, by decide, rfl⟩)
theorem dX10_isRank_4 : AtS mX10_isRank 4 mX10_isIn 3 7 := ⟨90, 988, 989, by decide +kernel, rfl, by decide +kernel, by decide +kernel, rfl, ⟨⟨990, by decide +kernel⟩, ⟨63, by decide +kernel⟩, ⟨by decide, by decide⟩, by decide +kernel, by decide, by decide⟩⟩
theorem dX10_isRank_7 : At mX10_isRank 7 .ireturn 1 8 := ⟨by decide +kernel, rfl⟩
theorem dX10_adds_0 : AtA mX10_adds 0 0 1 := Or.inr ⟨0, by decide +kernel, rfl, rfl⟩
theorem dX10_adds_1 : AtF mX10_adds 1 10 16 4 := ⟨50, (RX10, TX10, 31), by decide +kernel, rfl, rfl, by decide, Or.inl (Or.inl ⟨898, by decide +kernel⟩)⟩
theorem dX10_adds_4 : AtA mX10_adds 4 0 5 := Or.inr ⟨0, by decide +kernel, rfl, rfl⟩
theorem dX10_adds_5 : AtF mX10_adds 5 10 15 8 := ⟨162, (RX10, TX10, 31), by decide +kernel, rfl, rfl, by decide, Or.inl (Or.inl ⟨897, by decide +kernel⟩)⟩
theorem dX10_adds_8 : AtI mX10_adds 8 1 9 := Or.inr ⟨1, by decide +kernel, rfl, rfl⟩
theorem dX10_adds_9 : At mX10_adds 9 .iastore 1 10 := ⟨by decide +kernel, rfl⟩
theorem dX10_adds_10 : AtA mX10_adds 10 0 11 := Or.inr ⟨0, by decide +kernel, rfl, rfl⟩
theorem dX10_adds_11 : AtF mX10_adds 11 10 17 14 := ⟨53, (RX10, TX10, 31), by decide +kernel, rfl, rfl, by decide, Or.inl (Or.inl ⟨899, by decide +kernel⟩)⟩
theorem dX10_adds_14 : AtA mX10_adds 14 0 15 := Or.inr ⟨0, by decide +kernel, rfl, rfl⟩
theorem dX10_adds_15 : AtF mX10_adds 15 10 15 18 := ⟨162, (RX10, TX10, 31), by decide +kernel, rfl, rfl, by decide, Or.inl (Or.inl ⟨897, by decide +kernel⟩)⟩
theorem dX10_adds_18 : AtI mX10_adds 18 2 19 := Or.inr ⟨2, by decide +kernel, rfl, rfl⟩
theorem dX10_adds_19 : At mX10_adds 19 .bastore 1 20 := ⟨by decide +kernel, rfl⟩
theorem dX10_adds_20 : AtA mX10_adds 20 0 21 := Or.inr ⟨0, by decide +kernel, rfl, rfl⟩
theorem dX10_adds_21 : AtF mX10_adds 21 10 18 24 := ⟨56, (RX10, TX10, 31), by decide +kernel, rfl, rfl, by decide, Or.inl (Or.inl ⟨900, by decide +kernel⟩)⟩
theorem dX10_adds_24 : AtA mX10_adds 24 0 25 := Or.inr ⟨0, by decide +kernel, rfl, rfl⟩
theorem dX10_adds_25 : AtF mX10_adds 25 10 15 28 := ⟨162, (RX10, TX10, 31), by decide +kernel, rfl, rfl, by decide, Or.inl (Or.inl ⟨897, by decide +kernel⟩)⟩
theorem dX10_adds_28 : AtI mX10_adds 28 3 29 := Or.inr ⟨3, by decide +kernel, rfl, rfl⟩
theorem dX10_adds_29 : At mX10_adds 29 .bastore 1 30 := ⟨by decide +kernel, rfl⟩
theorem dX10_adds_30 : AtA mX10_adds 30 0 31 := Or.inr ⟨0, by decide +kernel, rfl, rfl⟩
theorem dX10_adds_31 : AtF mX10_adds 31 10 19 34 := ⟨59, (RX10, TX10, 31), by decide +kernel, rfl, rfl, by decide, Or.inl (Or.inl ⟨901, by decide +kernel⟩)⟩
theorem dX10_adds_34 : AtA mX10_adds 34 0 35 := Or.inr ⟨0, by decide +kernel, rfl, rfl⟩
theorem dX10_adds_35 : AtF mX10_adds 35 10 15 38 := ⟨162, (RX10, TX10, 31), by decide +kernel, rfl, rfl, by decide, Or.inl (Or.inl ⟨897, by decide +kernel⟩)⟩
theorem dX10_adds_38 : AtI mX10_adds 38 4 40 := Or.inl ⟨by decide +kernel, rfl⟩
theorem dX10_adds_40 : At mX10_adds 40 .iastore 1 41 := ⟨by decide +kernel, rfl⟩
theorem dX10_adds_41 : AtA mX10_adds 41 0 42 := Or.inr ⟨0, by decide +kernel, rfl, rfl⟩
theorem dX10_adds_42 : AtF mX10_adds 42 10 20 45 := ⟨62, (RX10, TX10, 31), by decide +kernel, rfl, rfl, by decide, Or.inl (Or.inl ⟨902, by decide +kernel⟩)⟩
theorem dX10_adds_45 : AtA mX10_adds 45 0 46 := Or.inr ⟨0, by decide +kernel, rfl, rfl⟩
theorem dX10_adds_46 : AtF mX10_adds 46 10 15 49 := ⟨162, (RX10, TX10, 31), by decide +kernel, rfl, rfl, by decide, Or.inl (Or.inl ⟨897, by decide +kernel⟩)⟩
theorem dX10_adds_49 : AtI mX10_adds 49 5 51 := Or.inl ⟨by decide +kernel, rfl⟩
theorem dX10_adds_51 : At mX10_adds 51 .iastore 1 52 := ⟨by decide +kernel, rfl⟩
theorem dX10_adds_52 : AtA mX10_adds 52 0 53 := Or.inr ⟨0, by decide +kernel, rfl, rfl⟩
theorem dX10_adds_53 : At mX10_adds 53 .dup 1 54 := ⟨by decide +kernel, rfl⟩
theorem dX10_adds_54 : AtF mX10_adds 54 10 15 57 := ⟨162, (RX10, TX10, 31), by decide +kernel, rfl, rfl, by decide, Or.inl (Or.inl ⟨897, by decide +kernel⟩)⟩
theorem dX10_adds_57 : AtK mX10_adds 57 (iZ 1) 58 := Or.inl ⟨1, by decide +kernel, by decide, rfl⟩
theorem dX10_adds_58 : At mX10_adds 58 .iadd 1 59 := ⟨by decide +kernel, rfl⟩
theorem dX10_adds_59 : AtP mX10_adds 59 10 15 (.int) 62 := ⟨162, (RX10, TX10, 31), by decide +kernel, rfl, rfl, by decide, Or.inl ⟨897, by decide +kernel⟩, by decide +kernel, Or.inl rfl⟩
theorem dX10_adds_62 : AtA mX10_adds 62 0 63 := Or.inr ⟨0, by decide +kernel, rfl, rfl⟩
theorem dX10_adds_63 : AtF mX10_adds 63 10 15 66 := ⟨162, (RX10, TX10, 31), by decide +kernel, rfl, rfl, by decide, Or.inl (Or.inl ⟨897, by decide +kernel⟩)⟩
theorem dX10_adds_66 : AtK mX10_adds 66 (iZ 1) 67 := Or.inl ⟨1, by decide +kernel, by decide, rfl⟩
theorem dX10_adds_67 : At mX10_adds 67 .isub 1 68 := ⟨by decide +kernel, rfl⟩
theorem dX10_adds_68 : At mX10_adds 68 .ireturn 1 69 := ⟨by decide +kernel, rfl⟩
theorem dX10_feast_0 : AtA mX10_feast 0 0 1 := Or.inr ⟨0, by decide +kernel, rfl, rfl⟩
theorem dX10_feast_1 : AtI mX10_feast 1 1 2 := Or.inr ⟨1, by decide +kernel, rfl, rfl⟩
theorem dX10_feast_2 : AtS mX10_feast 2 mX10_isRank 1 5 := ⟨165, 1112, 1113, by decide +kernel, rfl, by decide +kernel, by decide +kernel, rfl, ⟨⟨1114, by decide +kernel⟩, ⟨63, by decide +kernel⟩, ⟨by decide, by decide⟩, by decide +kernel, by decide, by decide⟩⟩
theorem dX10_feast_5 : AtJ mX10_feast 5 (.ifCond .eq) 8 20 := ⟨15, by decide +kernel, rfl, by decide⟩
theorem dX10_feast_8 : AtK mX10_feast 8 (iZ 2000) 11 := Or.inr (Or.inr (Or.inl ⟨2000, by decide +kernel, by decide, rfl⟩))
theorem dX10_feast_11 : AtI mX10_feast 11 3 12 := Or.inr ⟨3, by decide +kernel, rfl, rfl⟩
theorem dX10_feast_12 : AtI mX10_feast 12 4 14 := Or.inl ⟨by decide +kernel, rfl⟩
theorem dX10_feast_14 : AtS mX10_feast 14 mX10_isDay 3 17 := ⟨152, 1089, 1090, by decide +kernel, rfl, by decide +kernel, by decide +kernel, rfl, ⟨⟨1091, by decide +kernel⟩, ⟨63, by decide +kernel⟩, ⟨by decide, by decide⟩, by decide +kernel, by decide, by decide⟩⟩
theorem dX10_feast_17 : AtJ mX10_feast 17 (.ifCond .ne) 20 24 := ⟨7, by decide +kernel, rfl, by decide⟩
theorem dX10_feast_20 : AtK mX10_feast 20 (iZ 1) 21 := Or.inl ⟨1, by decide +kernel, by decide, rfl⟩
theorem dX10_feast_21 : AtG mX10_feast 21 38 := ⟨17, by decide +kernel, by decide⟩
theorem dX10_feast_24 : AtA mX10_feast 24 0 25 := Or.inr ⟨0, by decide +kernel, rfl, rfl⟩
theorem dX10_feast_25 : AtF mX10_feast 25 10 15 28 := ⟨162, (RX10, TX10, 31), by decide +kernel, rfl, rfl, by decide, Or.inl (Or.inl ⟨897, by decide +kernel⟩)⟩
theorem dX10_feast_28 : AtK mX10_feast 28 (iZ 20) 30 := Or.inr (Or.inl ⟨20, by decide +kernel, by decide, rfl⟩)
theorem dX10_feast_30 : AtJ mX10_feast 30 (.if_icmp .ne) 33 37 := ⟨7, by decide +kernel, rfl, by decide⟩
theorem dX10_feast_33 : AtK mX10_feast 33 (iZ 2) 34 := Or.inl ⟨2, by decide +kernel, by decide, rfl⟩
theorem dX10_feast_34 : AtG mX10_feast 34 38 := ⟨4, by decide +kernel, by decide⟩
theorem dX10_feast_37 : AtK mX10_feast 37 (iZ 0) 38 := Or.inl ⟨0, by decide +kernel, by decide, rfl⟩
theorem dX10_feast_38 : AtP mX10_feast 38 10 30 (.int) 41 := ⟨86, (RX10, TX10, 31), by decide +kernel, rfl, rfl, by decide, Or.inl ⟨912, by decide +kernel⟩, by decide +kernel, Or.inl rfl⟩
theorem dX10_feast_41 : AtA mX10_feast 41 0 42 := Or.inr ⟨0, by decide +kernel, rfl, rfl⟩
theorem dX10_feast_42 : AtF mX10_feast 42 10 30 45 := ⟨86, (RX10, TX10, 31), by decide +kernel, rfl, rfl, by decide, Or.inl (Or.inl ⟨912, by decide +kernel⟩)⟩
theorem dX10_feast_45 : AtJ mX10_feast 45 (.ifCond .le) 48 52 := ⟨7, by decide +kernel, rfl, by decide⟩
theorem dX10_feast_48 : AtK mX10_feast 48 (iZ 0) 49 := Or.inl ⟨0, by decide +kernel, by decide, rfl⟩
theorem dX10_feast_49 : AtG mX10_feast 49 62 := ⟨13, by decide +kernel, by decide⟩
theorem dX10_feast_52 : AtA mX10_feast 52 0 53 := Or.inr ⟨0, by decide +kernel, rfl, rfl⟩
theorem dX10_feast_53 : AtI mX10_feast 53 1 54 := Or.inr ⟨1, by decide +kernel, rfl, rfl⟩
theorem dX10_feast_54 : AtI mX10_feast 54 2 55 := Or.inr ⟨2, by decide +kernel, rfl, rfl⟩
theorem dX10_feast_55 : AtK mX10_feast 55 (iZ 0) 56 := Or.inl ⟨0, by decide +kernel, by decide, rfl⟩
theorem dX10_feast_56 : AtI mX10_feast 56 3 57 := Or.inr ⟨3, by decide +kernel, rfl, rfl⟩
theorem dX10_feast_57 : AtI mX10_feast 57 4 59 := Or.inl ⟨by decide +kernel, rfl⟩
theorem dX10_feast_59 : AtV mX10_feast 59 mX10_adds 5 10 62 := ⟨168, 1115, 1117, 41, (RX10, TX10, 31), by decide +kernel, rfl, rfl, by decide +kernel, by decide +kernel, by decide +kernel, rfl, ⟨⟨1118, by decide +kernel⟩, ⟨63, by decide +kernel⟩, ⟨by decide, by decide⟩, by decide +kernel, by decide, by decide⟩⟩
theorem dX10_feast_62 : At mX10_feast 62 .ireturn 1 63 := ⟨by decide +kernel, rfl⟩
theorem dX10_moving_0 : AtA mX10_moving 0 0 1 := Or.inr ⟨0, by decide +kernel, rfl, rfl⟩
theorem dX10_moving_1 : AtI mX10_moving 1 1 2 := Or.inr ⟨1, by decide +kernel, rfl, rfl⟩
theorem dX10_moving_2 : AtS mX10_moving 2 mX10_isRank 1 5 := ⟨165, 1112, 1113, by decide +kernel, rfl, by decide +kernel, by decide +kernel, rfl, ⟨⟨1114, by decide +kernel⟩, ⟨63, by decide +kernel⟩, ⟨by decide, by decide⟩, by decide +kernel, by decide, by decide⟩⟩
theorem dX10_moving_5 : AtJ mX10_moving 5 (.ifCond .eq) 8 19 := ⟨14, by decide +kernel, rfl, by decide⟩
theorem dX10_moving_8 : AtI mX10_moving 8 3 9 := Or.inr ⟨3, by decide +kernel, rfl, rfl⟩
theorem dX10_moving_9 : AtK mX10_moving 9 (iZ (-60)) 11 := Or.inr (Or.inl ⟨(-60), by decide +kernel, by decide, rfl⟩)
theorem dX10_moving_11 : AtK mX10_moving 11 (iZ 60) 13 := Or.inr (Or.inl ⟨60, by decide +kernel, by decide, rfl⟩)
theorem dX10_moving_13 : AtS mX10_moving 13 mX10_isIn 3 16 := ⟨90, 988, 989, by decide +kernel, rfl, by decide +kernel, by decide +kernel, rfl, ⟨⟨990, by decide +kernel⟩, ⟨63, by decide +kernel⟩, ⟨by decide, by decide⟩, by decide +kernel, by decide, by decide⟩⟩
theorem dX10_moving_16 : AtJ mX10_moving 16 (.ifCond .ne) 19 23 := ⟨7, by decide +kernel, rfl, by decide⟩
theorem dX10_moving_19 : AtK mX10_moving 19 (iZ 1) 20 := Or.inl ⟨1, by decide +kernel, by decide, rfl⟩
theorem dX10_moving_20 : AtG mX10_moving 20 37 := ⟨17, by decide +kernel, by decide⟩
theorem dX10_moving_23 : AtA mX10_moving 23 0 24 := Or.inr ⟨0, by decide +kernel, rfl, rfl⟩
theorem dX10_moving_24 : AtF mX10_moving 24 10 15 27 := ⟨162, (RX10, TX10, 31), by decide +kernel, rfl, rfl, by decide, Or.inl (Or.inl ⟨897, by decide +kernel⟩)⟩
theorem dX10_moving_27 : AtK mX10_moving 27 (iZ 20) 29 := Or.inr (Or.inl ⟨20, by decide +kernel, by decide, rfl⟩)
theorem dX10_moving_29 : AtJ mX10_moving 29 (.if_icmp .ne) 32 36 := ⟨7, by decide +kernel, rfl, by decide⟩
theorem dX10_moving_32 : AtK mX10_moving 32 (iZ 2) 33 := Or.inl ⟨2, by decide +kernel, by decide, rfl⟩
theorem dX10_moving_33 : AtG mX10_moving 33 37 := ⟨4, by decide +kernel, by decide⟩
theorem dX10_moving_36 : AtK mX10_moving 36 (iZ 0) 37 := Or.inl ⟨0, by decide +kernel, by decide, rfl⟩
theorem dX10_moving_37 : AtP mX10_moving 37 10 30 (.int) 40 := ⟨86, (RX10, TX10, 31), by decide +kernel, rfl, rfl, by decide, Or.inl ⟨912, by decide +kernel⟩, by decide +kernel, Or.inl rfl⟩
theorem dX10_moving_40 : AtA mX10_moving 40 0 41 := Or.inr ⟨0, by decide +kernel, rfl, rfl⟩
theorem dX10_moving_41 : AtF mX10_moving 41 10 30 44 := ⟨86, (RX10, TX10, 31), by decide +kernel, rfl, rfl, by decide, Or.inl (Or.inl ⟨912, by decide +kernel⟩)⟩
theorem dX10_moving_44 : AtJ mX10_moving 44 (.ifCond .le) 47 51 := ⟨7, by decide +kernel, rfl, by decide⟩
theorem dX10_moving_47 : AtK mX10_moving 47 (iZ 0) 48 := Or.inl ⟨0, by decide +kernel, by decide, rfl⟩
theorem dX10_moving_48 : AtG mX10_moving 48 60 := ⟨12, by decide +kernel, by decide⟩
theorem dX10_moving_51 : AtA mX10_moving 51 0 52 := Or.inr ⟨0, by decide +kernel, rfl, rfl⟩
theorem dX10_moving_52 : AtI mX10_moving 52 1 53 := Or.inr ⟨1, by decide +kernel, rfl, rfl⟩
theorem dX10_moving_53 : AtI mX10_moving 53 2 54 := Or.inr ⟨2, by decide +kernel, rfl, rfl⟩
theorem dX10_moving_54 : AtK mX10_moving 54 (iZ 1) 55 := Or.inl ⟨1, by decide +kernel, by decide, rfl⟩
theorem dX10_moving_55 : AtK mX10_moving 55 (iZ 0) 56 := Or.inl ⟨0, by decide +kernel, by decide, rfl⟩
theorem dX10_moving_56 : AtI mX10_moving 56 3 57 := Or.inr ⟨3, by decide +kernel, rfl, rfl⟩
theorem dX10_moving_57 : AtV mX10_moving 57 mX10_adds 5 10 60 := ⟨168, 1115, 1117, 41, (RX10, TX10, 31), by decide +kernel, rfl, rfl, by decide +kernel, by decide +kernel, by decide +kernel, rfl, ⟨⟨1118, by decide +kernel⟩, ⟨63, by decide +kernel⟩, ⟨by decide, by decide⟩, by decide +kernel, by decide, by decide⟩⟩
theorem dX10_moving_60 : At mX10_moving 60 .ireturn 1 61 := ⟨by decide +kernel, rfl⟩
theorem dX10_sundays_0 : AtA mX10_sundays 0 0 1 := Or.inr ⟨0, by decide +kernel, rfl, rfl⟩
theorem dX10_sundays_1 : AtI mX10_sundays 1 1 2 := Or.inr ⟨1, by decide +kernel, rfl, rfl⟩
theorem dX10_sundays_2 : AtK mX10_sundays 2 (iZ 0) 3 := Or.inl ⟨0, by decide +kernel, by decide, rfl⟩
theorem dX10_sundays_3 : AtK mX10_sundays 3 (iZ 9) 5 := Or.inr (Or.inl ⟨9, by decide +kernel, by decide, rfl⟩)
theorem dX10_sundays_5 : AtS mX10_sundays 5 mX10_isIn 3 8 := ⟨90, 988, 989, by decide +kernel, rfl, by decide +kernel, by decide +kernel, rfl, ⟨⟨990, by decide +kernel⟩, ⟨63, by decide +kernel⟩, ⟨by decide, by decide⟩, by decide +kernel, by decide, by decide⟩⟩
theorem dX10_sundays_8 : AtJ mX10_sundays 8 (.ifCond .eq) 11 15 := ⟨7, by decide +kernel, rfl, by decide⟩
theorem dX10_sundays_11 : AtK mX10_sundays 11 (iZ 0) 12 := Or.inl ⟨0, by decide +kernel, by decide, rfl⟩
theorem dX10_sundays_12 : AtG mX10_sundays 12 16 := ⟨4, by decide +kernel, by decide⟩
theorem dX10_sundays_15 : AtK mX10_sundays 15 (iZ 1) 16 := Or.inl ⟨1, by decide +kernel, by decide, rfl⟩
theorem dX10_sundays_16 : AtP mX10_sundays 16 10 30 (.int) 19 := ⟨86, (RX10, TX10, 31), by decide +kernel, rfl, rfl, by decide, Or.inl ⟨912, by decide +kernel⟩, by decide +kernel, Or.inl rfl⟩
theorem dX10_sundays_19 : AtA mX10_sundays 19 0 20 := Or.inr ⟨0, by decide +kernel, rfl, rfl⟩
theorem dX10_sundays_20 : AtF mX10_sundays 20 10 30 23 := ⟨86, (RX10, TX10, 31), by decide +kernel, rfl, rfl, by decide, Or.inl (Or.inl ⟨912, by decide +kernel⟩)⟩
theorem dX10_sundays_23 : AtJ mX10_sundays 23 (.ifCond .le) 26 28 := ⟨5, by decide +kernel, rfl, by decide⟩
theorem dX10_sundays_26 : AtK mX10_sundays 26 (iZ 0) 27 := Or.inl ⟨0, by decide +kernel, by decide, rfl⟩
theorem dX10_sundays_27 : At mX10_sundays 27 .ireturn 1 28 := ⟨by decide +kernel, rfl⟩
theorem dX10_sundays_28 : AtA mX10_sundays 28 0 29 := Or.inr ⟨0, by decide +kernel, rfl, rfl⟩
theorem dX10_sundays_29 : AtF mX10_sundays 29 10 21 32 := ⟨172, (RX10, TX10, 31), by decide +kernel, rfl, rfl, by decide, Or.inl (Or.inl ⟨903, by decide +kernel⟩)⟩
theorem dX10_sundays_32 : AtSI mX10_sundays 32 2 33 := ⟨Or.inr ⟨2, by decide +kernel, rfl, rfl⟩, by decide⟩
theorem dX10_sundays_33 : AtA mX10_sundays 33 0 34 := Or.inr ⟨0, by decide +kernel, rfl, rfl⟩
theorem dX10_sundays_34 : AtI mX10_sundays 34 1 35 := Or.inr ⟨1, by decide +kernel, rfl, rfl⟩
theorem dX10_sundays_35 : AtP mX10_sundays 35 10 21 (.int) 38 := ⟨172, (RX10, TX10, 31), by decide +kernel, rfl, rfl, by decide, Or.inl ⟨903, by decide +kernel⟩, by decide +kernel, Or.inl rfl⟩
theorem dX10_sundays_38 : AtI mX10_sundays 38 2 39 := Or.inr ⟨2, by decide +kernel, rfl, rfl⟩
theorem dX10_sundays_39 : At mX10_sundays 39 .ireturn 1 40 := ⟨by decide +kernel, rfl⟩
theorem dX10_readingsFrom_0 : AtI mX10_readingsFrom 0 1 1 := Or.inr ⟨1, by decide +kernel, rfl, rfl⟩
theorem dX10_readingsFrom_1 : AtK mX10_readingsFrom 1 (iZ (-2)) 3 := Or.inr (Or.inl ⟨(-2), by decide +kernel, by decide, rfl⟩)
theorem dX10_readingsFrom_3 : AtJ mX10_readingsFrom 3 (.if_icmp .ne) 6 11 := ⟨8, by decide +kernel, rfl, by decide⟩
theorem dX10_readingsFrom_6 : AtK mX10_readingsFrom 6 (iZ 60) 8 := Or.inr (Or.inl ⟨60, by decide +kernel, by decide, rfl⟩)
theorem dX10_readingsFrom_8 : AtG mX10_readingsFrom 8 33 := ⟨25, by decide +kernel, by decide⟩
theorem dX10_readingsFrom_11 : AtI mX10_readingsFrom 11 1 12 := Or.inr ⟨1, by decide +kernel, rfl, rfl⟩
theorem dX10_readingsFrom_12 : AtK mX10_readingsFrom 12 (iZ 0) 13 := Or.inl ⟨0, by decide +kernel, by decide, rfl⟩
theorem dX10_readingsFrom_13 : AtA mX10_readingsFrom 13 0 14 := Or.inr ⟨0, by decide +kernel, rfl, rfl⟩
theorem dX10_readingsFrom_14 : AtF mX10_readingsFrom 14 10 15 17 := ⟨162, (RX10, TX10, 31), by decide +kernel, rfl, rfl, by decide, Or.inl (Or.inl ⟨897, by decide +kernel⟩)⟩
theorem dX10_readingsFrom_17 : AtK mX10_readingsFrom 17 (iZ 1) 18 := Or.inl ⟨1, by decide +kernel, by decide, rfl⟩
theorem dX10_readingsFrom_18 : At mX10_readingsFrom 18 .isub 1 19 := ⟨by decide +kernel, rfl⟩
theorem dX10_readingsFrom_19 : AtS mX10_readingsFrom 19 mX10_isIn 3 22 := ⟨90, 988, 989, by decide +kernel, rfl, by decide +kernel, by decide +kernel, rfl, ⟨⟨990, by decide +kernel⟩, ⟨63, by decide +kernel⟩, ⟨by decide, by decide⟩, by decide +kernel, by decide, by decide⟩⟩
theorem dX10_readingsFrom_22 : AtJ mX10_readingsFrom 22 (.ifCond .eq) 25 31 := ⟨9, by decide +kernel, rfl, by decide⟩
theorem dX10_readingsFrom_25 : AtK mX10_readingsFrom 25 (iZ 3) 26 := Or.inl ⟨3, by decide +kernel, by decide, rfl⟩
theorem dX10_readingsFrom_26 : AtI mX10_readingsFrom 26 1 27 := Or.inr ⟨1, by decide +kernel, rfl, rfl⟩
theorem dX10_readingsFrom_27 : At mX10_readingsFrom 27 .imul 1 28 := ⟨by decide +kernel, rfl⟩
theorem dX10_readingsFrom_28 : AtG mX10_readingsFrom 28 33 := ⟨5, by decide +kernel, by decide⟩
theorem dX10_readingsFrom_31 : AtK mX10_readingsFrom 31 (iZ (-100)) 33 := Or.inr (Or.inl ⟨(-100), by decide +kernel, by decide, rfl⟩)
theorem dX10_readingsFrom_33 : At mX10_readingsFrom 33 .ireturn 1 34 := ⟨by decide +kernel, rfl⟩
theorem dX10_reading_0 : AtA mX10_reading 0 0 1 := Or.inr ⟨0, by decide +kernel, rfl, rfl⟩
theorem dX10_reading_1 : AtI mX10_reading 1 1 2 := Or.inr ⟨1, by decide +kernel, rfl, rfl⟩
theorem dX10_reading_2 : AtV mX10_reading 2 mX10_readingsFrom 1 10 5 := ⟨175, 1131, 1133, 42, (RX10, TX10, 31), by decide +kernel, rfl, rfl, by decide +kernel, by decide +kernel, by decide +kernel, rfl, ⟨⟨1134, by decide +kernel⟩, ⟨63, by decide +kernel⟩, ⟨by decide, by decide⟩, by decide +kernel, by decide, by decide⟩⟩
theorem dX10_reading_5 : AtSI mX10_reading 5 4 7 := ⟨Or.inl ⟨by decide +kernel, rfl⟩, by decide⟩
theorem dX10_reading_7 : AtA mX10_reading 7 0 8 := Or.inr ⟨0, by decide +kernel, rfl, rfl⟩
theorem dX10_reading_8 : AtI mX10_reading 8 4 10 := Or.inl ⟨by decide +kernel, rfl⟩
theorem dX10_reading_10 : AtK mX10_reading 10 (iZ (-100)) 12 := Or.inr (Or.inl ⟨(-100), by decide +kernel, by decide, rfl⟩)
theorem dX10_reading_12 : AtJ mX10_reading 12 (.if_icmp .ne) 15 19 := ⟨7, by decide +kernel, rfl, by decide⟩
theorem dX10_reading_15 : AtK mX10_reading 15 (iZ 1) 16 := Or.inl ⟨1, by decide +kernel, by decide, rfl⟩
theorem dX10_reading_16 : AtG mX10_reading 16 49 := ⟨33, by decide +kernel, by decide⟩
theorem dX10_reading_19 : AtI mX10_reading 19 2 20 := Or.inr ⟨2, by decide +kernel, rfl, rfl⟩
theorem dX10_reading_20 : AtK mX10_reading 20 (iZ 0) 21 := Or.inl ⟨0, by decide +kernel, by decide, rfl⟩
theorem dX10_reading_21 : AtK mX10_reading 21 (iZ 2) 22 := Or.inl ⟨2, by decide +kernel, by decide, rfl⟩
theorem dX10_reading_22 : AtS mX10_reading 22 mX10_isIn 3 25 := ⟨90, 988, 989, by decide +kernel, rfl, by decide +kernel, by decide +kernel, rfl, ⟨⟨990, by decide +kernel⟩, ⟨63, by decide +kernel⟩, ⟨by decide, by decide⟩, by decide +kernel, by decide, by decide⟩⟩
theorem dX10_reading_25 : AtJ mX10_reading 25 (.ifCond .eq) 28 44 := ⟨19, by decide +kernel, rfl, by decide⟩
theorem dX10_reading_28 : AtI mX10_reading 28 3 29 := Or.inr ⟨3, by decide +kernel, rfl, rfl⟩
theorem dX10_reading_29 : AtK mX10_reading 29 (iZ (-100)) 31 := Or.inr (Or.inl ⟨(-100), by decide +kernel, by decide, rfl⟩)
theorem dX10_reading_31 : AtJ mX10_reading 31 (.if_icmp .eq) 34 48 := ⟨17, by decide +kernel, rfl, by decide⟩
theorem dX10_reading_34 : AtI mX10_reading 34 3 35 := Or.inr ⟨3, by decide +kernel, rfl, rfl⟩
theorem dX10_reading_35 : AtK mX10_reading 35 (iZ 0) 36 := Or.inl ⟨0, by decide +kernel, by decide, rfl⟩
theorem dX10_reading_36 : AtK mX10_reading 36 (iZ 15) 38 := Or.inr (Or.inl ⟨15, by decide +kernel, by decide, rfl⟩)
theorem dX10_reading_38 : AtS mX10_reading 38 mX10_isIn 3 41 := ⟨90, 988, 989, by decide +kernel, rfl, by decide +kernel, by decide +kernel, rfl, ⟨⟨990, by decide +kernel⟩, ⟨63, by decide +kernel⟩, ⟨by decide, by decide⟩, by decide +kernel, by decide, by decide⟩⟩
theorem dX10_reading_41 : AtJ mX10_reading 41 (.ifCond .ne) 44 48 := ⟨7, by decide +kernel, rfl, by decide⟩
theorem dX10_reading_44 : AtK mX10_reading 44 (iZ 2) 45 := Or.inl ⟨2, by decide +kernel, by decide, rfl⟩
theorem dX10_reading_45 : AtG mX10_reading 45 49 := ⟨4, by decide +kernel, by decide⟩
theorem dX10_reading_48 : AtK mX10_reading 48 (iZ 0) 49 := Or.inl ⟨0, by decide +kernel, by decide, rfl⟩
theorem dX10_reading_49 : AtP mX10_reading 49 10 30 (.int) 52 := ⟨86, (RX10, TX10, 31), by decide +kernel, rfl, rfl, by decide, Or.inl ⟨912, by decide +kernel⟩, by decide +kernel, Or.inl rfl⟩
theorem dX10_reading_52 : AtA mX10_reading 52 0 53 := Or.inr ⟨0, by decide +kernel, rfl, rfl⟩
theorem dX10_reading_53 : AtF mX10_reading 53 10 30 56 := ⟨86, (RX10, TX10, 31), by decide +kernel, rfl, rfl, by decide, Or.inl (Or.inl ⟨912, by decide +kernel⟩)⟩
theorem dX10_reading_56 : AtJ mX10_reading 56 (.ifCond .le) 59 61 := ⟨5, by decide +kernel, rfl, by decide⟩
theorem dX10_reading_59 : AtK mX10_reading 59 (iZ 0) 60 := Or.inl ⟨0, by decide +kernel, by decide, rfl⟩
theorem dX10_reading_60 : At mX10_reading 60 .ireturn 1 61 := ⟨by decide +kernel, rfl⟩
theorem dX10_reading_61 : AtA mX10_reading 61 0 62 := Or.inr ⟨0, by decide +kernel, rfl, rfl⟩
theorem dX10_reading_62 : AtF mX10_reading 62 10 22 65 := ⟨65, (RX10, TX10, 31), by decide +kernel, rfl, rfl, by decide, Or.inl (Or.inl ⟨904, by decide +kernel⟩)⟩
theorem dX10_reading_65 : AtI mX10_reading 65 4 67 := Or.inl ⟨by decide +kernel, rfl⟩
theorem dX10_reading_67 : AtI mX10_reading 67 2 68 := Or.inr ⟨2, by decide +kernel, rfl, rfl⟩
theorem dX10_reading_68 : At mX10_reading 68 .iadd 1 69 := ⟨by decide +kernel, rfl⟩
theorem dX10_reading_69 : At mX10_reading 69 .iaload 1 70 := ⟨by decide +kernel, rfl⟩
theorem dX10_reading_70 : AtSI mX10_reading 70 5 72 := ⟨Or.inl ⟨by decide +kernel, rfl⟩, by decide⟩
theorem dX10_reading_72 : AtA mX10_reading 72 0 73 := Or.inr ⟨0, by decide +kernel, rfl, rfl⟩
theorem dX10_reading_73 : AtF mX10_reading 73 10 22 76 := ⟨65, (RX10, TX10, 31), by decide +kernel, rfl, rfl, by decide, Or.inl (Or.inl ⟨904, by decide +kernel⟩)⟩
theorem dX10_reading_76 : AtI mX10_reading 76 4 78 := Or.inl ⟨by decide +kernel, rfl⟩
theorem dX10_reading_78 : AtI mX10_reading 78 2 79 := Or.inr ⟨2, by decide +kernel, rfl, rfl⟩
theorem dX10_reading_79 : At mX10_reading 79 .iadd 1 80 := ⟨by decide +kernel, rfl⟩
theorem dX10_reading_80 : AtI mX10_reading 80 3 81 := Or.inr ⟨3, by decide +kernel, rfl, rfl⟩
theorem dX10_reading_81 : At mX10_reading 81 .iastore 1 82 := ⟨by decide +kernel, rfl⟩
theorem dX10_reading_82 : AtI mX10_reading 82 5 84 := Or.inl ⟨by decide +kernel, rfl⟩
theorem dX10_reading_84 : At mX10_reading 84 .ireturn 1 85 := ⟨by decide +kernel, rfl⟩
theorem dX10_ownDay_0 : AtA mX10_ownDay 0 0 1 := Or.inr ⟨0, by decide +kernel, rfl, rfl⟩
theorem dX10_ownDay_1 : AtF mX10_ownDay 1 10 18 4 := ⟨56, (RX10, TX10, 31), by decide +kernel, rfl, rfl, by decide, Or.inl (Or.inl ⟨900, by decide +kernel⟩)⟩
theorem dX10_ownDay_4 : AtI mX10_ownDay 4 1 5 := Or.inr ⟨1, by decide +kernel, rfl, rfl⟩
theorem dX10_ownDay_5 : At mX10_ownDay 5 .baload 1 6 := ⟨by decide +kernel, rfl⟩
theorem dX10_ownDay_6 : AtJ mX10_ownDay 6 (.ifCond .eq) 9 34 := ⟨28, by decide +kernel, rfl, by decide⟩
theorem dX10_ownDay_9 : AtI mX10_ownDay 9 2 10 := Or.inr ⟨2, by decide +kernel, rfl, rfl⟩
theorem dX10_ownDay_10 : AtS mX10_ownDay 10 mX10_easterOf 1 13 := ⟨146, 1078, 1079, by decide +kernel, rfl, by decide +kernel, by decide +kernel, rfl, ⟨⟨1080, by decide +kernel⟩, ⟨63, by decide +kernel⟩, ⟨by decide, by decide⟩, by decide +kernel, by decide, by decide⟩⟩
theorem dX10_ownDay_13 : AtSI mX10_ownDay 13 3 14 := ⟨Or.inr ⟨3, by decide +kernel, rfl, rfl⟩, by decide⟩
theorem dX10_ownDay_14 : AtI mX10_ownDay 14 2 15 := Or.inr ⟨2, by decide +kernel, rfl, rfl⟩
theorem dX10_ownDay_15 : AtI mX10_ownDay 15 3 16 := Or.inr ⟨3, by decide +kernel, rfl, rfl⟩
theorem dX10_ownDay_16 : AtK mX10_ownDay 16 (iZ 100) 18 := Or.inr (Or.inl ⟨100, by decide +kernel, by decide, rfl⟩)
theorem dX10_ownDay_18 : At mX10_ownDay 18 .idiv 1 19 := ⟨by decide +kernel, rfl⟩
theorem dX10_ownDay_19 : AtI mX10_ownDay 19 3 20 := Or.inr ⟨3, by decide +kernel, rfl, rfl⟩
theorem dX10_ownDay_20 : AtK mX10_ownDay 20 (iZ 100) 22 := Or.inr (Or.inl ⟨100, by decide +kernel, by decide, rfl⟩)
theorem dX10_ownDay_22 : At mX10_ownDay 22 .irem 1 23 := ⟨by decide +kernel, rfl⟩
theorem dX10_ownDay_23 : AtS mX10_ownDay 23 mX10_placeOf 3 26 := ⟨155, 1098, 1099, by decide +kernel, rfl, by decide +kernel, by decide +kernel, rfl, ⟨⟨1100, by decide +kernel⟩, ⟨63, by decide +kernel⟩, ⟨by decide, by decide⟩, by decide +kernel, by decide, by decide⟩⟩
theorem dX10_ownDay_26 : AtA mX10_ownDay 26 0 27 := Or.inr ⟨0, by decide +kernel, rfl, rfl⟩
theorem dX10_ownDay_27 : AtF mX10_ownDay 27 10 20 30 := ⟨62, (RX10, TX10, 31), by decide +kernel, rfl, rfl, by decide, Or.inl (Or.inl ⟨902, by decide +kernel⟩)⟩
theorem dX10_ownDay_30 : AtI mX10_ownDay 30 1 31 := Or.inr ⟨1, by decide +kernel, rfl, rfl⟩
theorem dX10_ownDay_31 : At mX10_ownDay 31 .iaload 1 32 := ⟨by decide +kernel, rfl⟩
theorem dX10_ownDay_32 : At mX10_ownDay 32 .iadd 1 33 := ⟨by decide +kernel, rfl⟩
theorem dX10_ownDay_33 : At mX10_ownDay 33 .ireturn 1 34 := ⟨by decide +kernel, rfl⟩
theorem dX10_ownDay_34 : AtI mX10_ownDay 34 2 35 := Or.inr ⟨2, by decide +kernel, rfl, rfl⟩
theorem dX10_ownDay_35 : AtA mX10_ownDay 35 0 36 := Or.inr ⟨0, by decide +kernel, rfl, rfl⟩
theorem dX10_ownDay_36 : AtF mX10_ownDay 36 10 19 39 := ⟨59, (RX10, TX10, 31), by decide +kernel, rfl, rfl, by decide, Or.inl (Or.inl ⟨901, by decide +kernel⟩)⟩
theorem dX10_ownDay_39 : AtI mX10_ownDay 39 1 40 := Or.inr ⟨1, by decide +kernel, rfl, rfl⟩
theorem dX10_ownDay_40 : At mX10_ownDay 40 .iaload 1 41 := ⟨by decide +kernel, rfl⟩
theorem dX10_ownDay_41 : AtA mX10_ownDay 41 0 42 := Or.inr ⟨0, by decide +kernel, rfl, rfl⟩
theorem dX10_ownDay_42 : AtF mX10_ownDay 42 10 20 45 := ⟨62, (RX10, TX10, 31), by decide +kernel, rfl, rfl, by decide, Or.inl (Or.inl ⟨902, by decide +kernel⟩)⟩
theorem dX10_ownDay_45 : AtI mX10_ownDay 45 1 46 := Or.inr ⟨1, by decide +kernel, rfl, rfl⟩
theorem dX10_ownDay_46 : At mX10_ownDay 46 .iaload 1 47 := ⟨by decide +kernel, rfl⟩
theorem dX10_ownDay_47 : AtS mX10_ownDay 47 mX10_isDay 3 50 := ⟨152, 1089, 1090, by decide +kernel, rfl, by decide +kernel, by decide +kernel, rfl, ⟨⟨1091, by decide +kernel⟩, ⟨63, by decide +kernel⟩, ⟨by decide, by decide⟩, by decide +kernel, by decide, by decide⟩⟩
theorem dX10_ownDay_50 : AtJ mX10_ownDay 50 (.ifCond .eq) 53 72 := ⟨22, by decide +kernel, rfl, by decide⟩
theorem dX10_ownDay_53 : AtI mX10_ownDay 53 2 54 := Or.inr ⟨2, by decide +kernel, rfl, rfl⟩
theorem dX10_ownDay_54 : AtA mX10_ownDay 54 0 55 := Or.inr ⟨0, by decide +kernel, rfl, rfl⟩
theorem dX10_ownDay_55 : AtF mX10_ownDay 55 10 19 58 := ⟨59, (RX10, TX10, 31), by decide +kernel, rfl, rfl, by decide, Or.inl (Or.inl ⟨901, by decide +kernel⟩)⟩
theorem dX10_ownDay_58 : AtI mX10_ownDay 58 1 59 := Or.inr ⟨1, by decide +kernel, rfl, rfl⟩
theorem dX10_ownDay_59 : At mX10_ownDay 59 .iaload 1 60 := ⟨by decide +kernel, rfl⟩
theorem dX10_ownDay_60 : AtA mX10_ownDay 60 0 61 := Or.inr ⟨0, by decide +kernel, rfl, rfl⟩
theorem dX10_ownDay_61 : AtF mX10_ownDay 61 10 20 64 := ⟨62, (RX10, TX10, 31), by decide +kernel, rfl, rfl, by decide, Or.inl (Or.inl ⟨902, by decide +kernel⟩)⟩
theorem dX10_ownDay_64 : AtI mX10_ownDay 64 1 65 := Or.inr ⟨1, by decide +kernel, rfl, rfl⟩
theorem dX10_ownDay_65 : At mX10_ownDay 65 .iaload 1 66 := ⟨by decide +kernel, rfl⟩
theorem dX10_ownDay_66 : AtS mX10_ownDay 66 mX10_placeOf 3 69 := ⟨155, 1098, 1099, by decide +kernel, rfl, by decide +kernel, by decide +kernel, rfl, ⟨⟨1100, by decide +kernel⟩, ⟨63, by decide +kernel⟩, ⟨by decide, by decide⟩, by decide +kernel, by decide, by decide⟩⟩
theorem dX10_ownDay_69 : AtG mX10_ownDay 69 74 := ⟨5, by decide +kernel, by decide⟩
theorem dX10_ownDay_72 : AtK mX10_ownDay 72 (iZ (-100)) 74 := Or.inr (Or.inl ⟨(-100), by decide +kernel, by decide, rfl⟩)
theorem dX10_ownDay_74 : At mX10_ownDay 74 .ireturn 1 75 := ⟨by decide +kernel, rfl⟩
theorem dX10_isOpen_0 : AtA mX10_isOpen 0 0 1 := Or.inr ⟨0, by decide +kernel, rfl, rfl⟩
theorem dX10_isOpen_1 : AtF mX10_isOpen 1 10 23 4 := ⟨68, (RX10, TX10, 31), by decide +kernel, rfl, rfl, by decide, Or.inl (Or.inl ⟨905, by decide +kernel⟩)⟩
theorem dX10_isOpen_4 : AtI mX10_isOpen 4 2 5 := Or.inr ⟨2, by decide +kernel, rfl, rfl⟩
theorem dX10_isOpen_5 : At mX10_isOpen 5 .iaload 1 6 := ⟨by decide +kernel, rfl⟩
theorem dX10_isOpen_6 : AtK mX10_isOpen 6 (iZ (-100)) 8 := Or.inr (Or.inl ⟨(-100), by decide +kernel, by decide, rfl⟩)
theorem dX10_isOpen_8 : AtJ mX10_isOpen 8 (.if_icmp .ne) 11 31 := ⟨23, by decide +kernel, rfl, by decide⟩
theorem dX10_isOpen_11 : AtI mX10_isOpen 11 1 12 := Or.inr ⟨1, by decide +kernel, rfl, rfl⟩
theorem dX10_isOpen_12 : AtI mX10_isOpen 12 2 13 := Or.inr ⟨2, by decide +kernel, rfl, rfl⟩
theorem dX10_isOpen_13 : AtS mX10_isOpen 13 mX10_weekdayOf 2 16 := ⟨159, 1101, 1102, by decide +kernel, rfl, by decide +kernel, by decide +kernel, rfl, ⟨⟨1103, by decide +kernel⟩, ⟨63, by decide +kernel⟩, ⟨by decide, by decide⟩, by decide +kernel, by decide, by decide⟩⟩
theorem dX10_isOpen_16 : AtJ mX10_isOpen 16 (.ifCond .gt) 19 27 := ⟨11, by decide +kernel, rfl, by decide⟩
theorem dX10_isOpen_19 : AtI mX10_isOpen 19 3 20 := Or.inr ⟨3, by decide +kernel, rfl, rfl⟩
theorem dX10_isOpen_20 : AtA mX10_isOpen 20 0 21 := Or.inr ⟨0, by decide +kernel, rfl, rfl⟩
theorem dX10_isOpen_21 : AtF mX10_isOpen 21 10 21 24 := ⟨172, (RX10, TX10, 31), by decide +kernel, rfl, rfl, by decide, Or.inl (Or.inl ⟨903, by decide +kernel⟩)⟩
theorem dX10_isOpen_24 : AtJ mX10_isOpen 24 (.if_icmp .lt) 27 31 := ⟨7, by decide +kernel, rfl, by decide⟩
theorem dX10_isOpen_27 : AtK mX10_isOpen 27 (iZ 1) 28 := Or.inl ⟨1, by decide +kernel, by decide, rfl⟩
theorem dX10_isOpen_28 : AtG mX10_isOpen 28 32 := ⟨4, by decide +kernel, by decide⟩
theorem dX10_isOpen_31 : AtK mX10_isOpen 31 (iZ 0) 32 := Or.inl ⟨0, by decide +kernel, by decide, rfl⟩
theorem dX10_isOpen_32 : At mX10_isOpen 32 .ireturn 1 33 := ⟨by decide +kernel, rfl⟩
theorem dX10_puts_0 : AtA mX10_puts 0 0 1 := Or.inr ⟨0, by decide +kernel, rfl, rfl⟩
theorem dX10_puts_1 : AtI mX10_puts 1 1 2 := Or.inr ⟨1, by decide +kernel, rfl, rfl⟩
theorem dX10_puts_2 : AtI mX10_puts 2 2 3 := Or.inr ⟨2, by decide +kernel, rfl, rfl⟩
theorem dX10_puts_3 : AtV mX10_puts 3 mX10_ownDay 2 10 6 := ⟨178, 1151, 1153, 46, (RX10, TX10, 31), by decide +kernel, rfl, rfl, by decide +kernel, by decide +kernel, by decide +kernel, rfl, ⟨⟨1154, by decide +kernel⟩, ⟨63, by decide +kernel⟩, ⟨by decide, by decide⟩, by decide +kernel, by decide, by decide⟩⟩
theorem dX10_puts_6 : AtSI mX10_puts 6 3 7 := ⟨Or.inr ⟨3, by decide +kernel, rfl, rfl⟩, by decide⟩
theorem dX10_puts_7 : AtA mX10_puts 7 0 8 := Or.inr ⟨0, by decide +kernel, rfl, rfl⟩
theorem dX10_puts_8 : AtF mX10_puts 8 10 24 11 := ⟨71, (RX10, TX10, 31), by decide +kernel, rfl, rfl, by decide, Or.inl (Or.inl ⟨906, by decide +kernel⟩)⟩
theorem dX10_puts_11 : AtI mX10_puts 11 1 12 := Or.inr ⟨1, by decide +kernel, rfl, rfl⟩
theorem dX10_puts_12 : AtK mX10_puts 12 (iZ (-100)) 14 := Or.inr (Or.inl ⟨(-100), by decide +kernel, by decide, rfl⟩)
theorem dX10_puts_14 : At mX10_puts 14 .iastore 1 15 := ⟨by decide +kernel, rfl⟩
theorem dX10_puts_15 : AtI mX10_puts 15 3 16 := Or.inr ⟨3, by decide +kernel, rfl, rfl⟩
theorem dX10_puts_16 : AtK mX10_puts 16 (iZ (-100)) 18 := Or.inr (Or.inl ⟨(-100), by decide +kernel, by decide, rfl⟩)
theorem dX10_puts_18 : AtJ mX10_puts 18 (.if_icmp .ne) 21 22 := ⟨4, by decide +kernel, rfl, by decide⟩
theorem dX10_puts_21 : At mX10_puts 21 .return_ 1 22 := ⟨by decide +kernel, rfl⟩
theorem dX10_puts_22 : AtA mX10_puts 22 0 23 := Or.inr ⟨0, by decide +kernel, rfl, rfl⟩
theorem dX10_puts_23 : AtF mX10_puts 23 10 17 26 := ⟨53, (RX10, TX10, 31), by decide +kernel, rfl, rfl, by decide, Or.inl (Or.inl ⟨899, by decide +kernel⟩)⟩
theorem dX10_puts_26 : AtI mX10_puts 26 1 27 := Or.inr ⟨1, by decide +kernel, rfl, rfl⟩
theorem dX10_puts_27 : At mX10_puts 27 .baload 1 28 := ⟨by decide +kernel, rfl⟩
theorem dX10_puts_28 : AtJ mX10_puts 28 (.ifCond .eq) 31 38 := ⟨10, by decide +kernel, rfl, by decide⟩
theorem dX10_puts_31 : AtI mX10_puts 31 3 32 := Or.inr ⟨3, by decide +kernel, rfl, rfl⟩
theorem dX10_puts_32 : AtK mX10_puts 32 (iZ 30) 34 := Or.inr (Or.inl ⟨30, by decide +kernel, by decide, rfl⟩)
theorem dX10_puts_34 : At mX10_puts 34 .iadd 1 35 := ⟨by decide +kernel, rfl⟩
theorem dX10_puts_35 : AtG mX10_puts 35 39 := ⟨4, by decide +kernel, by decide⟩
theorem dX10_puts_38 : AtI mX10_puts 38 3 39 := Or.inr ⟨3, by decide +kernel, rfl, rfl⟩
theorem dX10_puts_39 : AtSI mX10_puts 39 4 41 := ⟨Or.inl ⟨by decide +kernel, rfl⟩, by decide⟩
theorem dX10_puts_41 : AtI mX10_puts 41 3 42 := Or.inr ⟨3, by decide +kernel, rfl, rfl⟩
theorem dX10_puts_42 : AtSI mX10_puts 42 5 44 := ⟨Or.inl ⟨by decide +kernel, rfl⟩, by decide⟩
theorem dX10_puts_44 : AtI mX10_puts 44 5 46 := Or.inl ⟨by decide +kernel, rfl⟩
theorem dX10_puts_46 : AtI mX10_puts 46 4 48 := Or.inl ⟨by decide +kernel, rfl⟩
theorem dX10_puts_48 : AtJ mX10_puts 48 (.if_icmp .gt) 51 109 := ⟨61, by decide +kernel, rfl, by decide⟩
theorem dX10_puts_51 : AtI mX10_puts 51 5 53 := Or.inl ⟨by decide +kernel, rfl⟩
theorem dX10_puts_53 : AtI mX10_puts 53 2 54 := Or.inr ⟨2, by decide +kernel, rfl, rfl⟩
theorem dX10_puts_54 : AtS mX10_puts 54 mX10_lengthOf 1 57 := ⟨181, 1155, 1156, by decide +kernel, rfl, by decide +kernel, by decide +kernel, rfl, ⟨⟨1157, by decide +kernel⟩, ⟨63, by decide +kernel⟩, ⟨by decide, by decide⟩, by decide +kernel, by decide, by decide⟩⟩
theorem dX10_puts_57 : AtJ mX10_puts 57 (.if_icmp .ge) 60 109 := ⟨52, by decide +kernel, rfl, by decide⟩
theorem dX10_puts_60 : AtA mX10_puts 60 0 61 := Or.inr ⟨0, by decide +kernel, rfl, rfl⟩
theorem dX10_puts_61 : AtF mX10_puts 61 10 24 64 := ⟨71, (RX10, TX10, 31), by decide +kernel, rfl, rfl, by decide, Or.inl (Or.inl ⟨906, by decide +kernel⟩)⟩
theorem dX10_puts_64 : AtI mX10_puts 64 1 65 := Or.inr ⟨1, by decide +kernel, rfl, rfl⟩
theorem dX10_puts_65 : At mX10_puts 65 .iaload 1 66 := ⟨by decide +kernel, rfl⟩
theorem dX10_puts_66 : AtK mX10_puts 66 (iZ (-100)) 68 := Or.inr (Or.inl ⟨(-100), by decide +kernel, by decide, rfl⟩)
theorem dX10_puts_68 : AtJ mX10_puts 68 (.if_icmp .ne) 71 109 := ⟨41, by decide +kernel, rfl, by decide⟩
theorem dX10_puts_71 : AtA mX10_puts 71 0 72 := Or.inr ⟨0, by decide +kernel, rfl, rfl⟩
theorem dX10_puts_72 : AtI mX10_puts 72 2 73 := Or.inr ⟨2, by decide +kernel, rfl, rfl⟩
theorem dX10_puts_73 : AtI mX10_puts 73 5 75 := Or.inl ⟨by decide +kernel, rfl⟩
theorem dX10_puts_75 : AtA mX10_puts 75 0 76 := Or.inr ⟨0, by decide +kernel, rfl, rfl⟩
theorem dX10_puts_76 : AtF mX10_puts 76 10 16 79 := ⟨50, (RX10, TX10, 31), by decide +kernel, rfl, rfl, by decide, Or.inl (Or.inl ⟨898, by decide +kernel⟩)⟩
theorem dX10_puts_79 : AtI mX10_puts 79 1 80 := Or.inr ⟨1, by decide +kernel, rfl, rfl⟩
theorem dX10_puts_80 : At mX10_puts 80 .iaload 1 81 := ⟨by decide +kernel, rfl⟩
theorem dX10_puts_81 : AtV mX10_puts 81 mX10_isOpen 3 10 84 := ⟨184, 1158, 1160, 47, (RX10, TX10, 31), by decide +kernel, rfl, rfl, by decide +kernel, by decide +kernel, by decide +kernel, rfl, ⟨⟨1161, by decide +kernel⟩, ⟨63, by decide +kernel⟩, ⟨by decide, by decide⟩, by decide +kernel, by decide, by decide⟩⟩
theorem dX10_puts_84 : AtJ mX10_puts 84 (.ifCond .eq) 87 103 := ⟨19, by decide +kernel, rfl, by decide⟩
theorem dX10_puts_87 : AtA mX10_puts 87 0 88 := Or.inr ⟨0, by decide +kernel, rfl, rfl⟩
theorem dX10_puts_88 : AtF mX10_puts 88 10 24 91 := ⟨71, (RX10, TX10, 31), by decide +kernel, rfl, rfl, by decide, Or.inl (Or.inl ⟨906, by decide +kernel⟩)⟩
theorem dX10_puts_91 : AtI mX10_puts 91 1 92 := Or.inr ⟨1, by decide +kernel, rfl, rfl⟩
theorem dX10_puts_92 : AtI mX10_puts 92 5 94 := Or.inl ⟨by decide +kernel, rfl⟩
theorem dX10_puts_94 : At mX10_puts 94 .iastore 1 95 := ⟨by decide +kernel, rfl⟩
theorem dX10_puts_95 : AtA mX10_puts 95 0 96 := Or.inr ⟨0, by decide +kernel, rfl, rfl⟩
theorem dX10_puts_96 : AtF mX10_puts 96 10 23 99 := ⟨68, (RX10, TX10, 31), by decide +kernel, rfl, rfl, by decide, Or.inl (Or.inl ⟨905, by decide +kernel⟩)⟩
theorem dX10_puts_99 : AtI mX10_puts 99 5 101 := Or.inl ⟨by decide +kernel, rfl⟩
theorem dX10_puts_101 : AtI mX10_puts 101 1 102 := Or.inr ⟨1, by decide +kernel, rfl, rfl⟩
theorem dX10_puts_102 : At mX10_puts 102 .iastore 1 103 := ⟨by decide +kernel, rfl⟩
theorem dX10_puts_103 : AtInc mX10_puts 103 5 (iZ 1) 106 := ⟨1, by decide +kernel, by decide, rfl, by decide⟩
theorem dX10_puts_106 : AtG mX10_puts 106 44 := ⟨(-62), by decide +kernel, by decide⟩
theorem dX10_puts_109 : At mX10_puts 109 .return_ 1 110 := ⟨by decide +kernel, rfl⟩
theorem dX10_laysYear_0 : AtK mX10_laysYear 0 (iZ 0) 1 := Or.inl ⟨0, by decide +kernel, by decide, rfl⟩
theorem dX10_laysYear_1 : AtSI mX10_laysYear 1 2 2 := ⟨Or.inr ⟨2, by decide +kernel, rfl, rfl⟩, by decide⟩
theorem dX10_laysYear_2 : AtI mX10_laysYear 2 2 3 := Or.inr ⟨2, by decide +kernel, rfl, rfl⟩
theorem dX10_laysYear_3 : AtK mX10_laysYear 3 (iZ 366) 6 := Or.inr (Or.inr (Or.inl ⟨366, by decide +kernel, by decide, rfl⟩))
theorem dX10_laysYear_6 : AtJ mX10_laysYear 6 (.if_icmp .ge) 9 23 := ⟨17, by decide +kernel, rfl, by decide⟩
theorem dX10_laysYear_9 : AtA mX10_laysYear 9 0 10 := Or.inr ⟨0, by decide +kernel, rfl, rfl⟩
theorem dX10_laysYear_10 : AtF mX10_laysYear 10 10 23 13 := ⟨68, (RX10, TX10, 31), by decide +kernel, rfl, rfl, by decide, Or.inl (Or.inl ⟨905, by decide +kernel⟩)⟩
theorem dX10_laysYear_13 : AtI mX10_laysYear 13 2 14 := Or.inr ⟨2, by decide +kernel, rfl, rfl⟩
theorem dX10_laysYear_14 : AtK mX10_laysYear 14 (iZ (-100)) 16 := Or.inr (Or.inl ⟨(-100), by decide +kernel, by decide, rfl⟩)
theorem dX10_laysYear_16 : At mX10_laysYear 16 .iastore 1 17 := ⟨by decide +kernel, rfl⟩
theorem dX10_laysYear_17 : AtInc mX10_laysYear 17 2 (iZ 1) 20 := ⟨1, by decide +kernel, by decide, rfl, by decide⟩
theorem dX10_laysYear_20 : AtG mX10_laysYear 20 2 := ⟨(-18), by decide +kernel, by decide⟩
theorem dX10_laysYear_23 : AtK mX10_laysYear 23 (iZ 9) 25 := Or.inr (Or.inl ⟨9, by decide +kernel, by decide, rfl⟩)
theorem dX10_laysYear_25 : AtSI mX10_laysYear 25 2 26 := ⟨Or.inr ⟨2, by decide +kernel, rfl, rfl⟩, by decide⟩
theorem dX10_laysYear_26 : AtI mX10_laysYear 26 2 27 := Or.inr ⟨2, by decide +kernel, rfl, rfl⟩
theorem dX10_laysYear_27 : AtJ mX10_laysYear 27 (.ifCond .le) 30 68 := ⟨41, by decide +kernel, rfl, by decide⟩
theorem dX10_laysYear_30 : AtK mX10_laysYear 30 (iZ 0) 31 := Or.inl ⟨0, by decide +kernel, by decide, rfl⟩
theorem dX10_laysYear_31 : AtSI mX10_laysYear 31 3 32 := ⟨Or.inr ⟨3, by decide +kernel, rfl, rfl⟩, by decide⟩
theorem dX10_laysYear_32 : AtI mX10_laysYear 32 3 33 := Or.inr ⟨3, by decide +kernel, rfl, rfl⟩
theorem dX10_laysYear_33 : AtA mX10_laysYear 33 0 34 := Or.inr ⟨0, by decide +kernel, rfl, rfl⟩
theorem dX10_laysYear_34 : AtF mX10_laysYear 34 10 15 37 := ⟨162, (RX10, TX10, 31), by decide +kernel, rfl, rfl, by decide, Or.inl (Or.inl ⟨897, by decide +kernel⟩)⟩
theorem dX10_laysYear_37 : AtJ mX10_laysYear 37 (.if_icmp .ge) 40 62 := ⟨25, by decide +kernel, rfl, by decide⟩
theorem dX10_laysYear_40 : AtA mX10_laysYear 40 0 41 := Or.inr ⟨0, by decide +kernel, rfl, rfl⟩
theorem dX10_laysYear_41 : AtF mX10_laysYear 41 10 16 44 := ⟨50, (RX10, TX10, 31), by decide +kernel, rfl, rfl, by decide, Or.inl (Or.inl ⟨898, by decide +kernel⟩)⟩
theorem dX10_laysYear_44 : AtI mX10_laysYear 44 3 45 := Or.inr ⟨3, by decide +kernel, rfl, rfl⟩
theorem dX10_laysYear_45 : At mX10_laysYear 45 .iaload 1 46 := ⟨by decide +kernel, rfl⟩
theorem dX10_laysYear_46 : AtI mX10_laysYear 46 2 47 := Or.inr ⟨2, by decide +kernel, rfl, rfl⟩
theorem dX10_laysYear_47 : AtJ mX10_laysYear 47 (.if_icmp .ne) 50 56 := ⟨9, by decide +kernel, rfl, by decide⟩
theorem dX10_laysYear_50 : AtA mX10_laysYear 50 0 51 := Or.inr ⟨0, by decide +kernel, rfl, rfl⟩
theorem dX10_laysYear_51 : AtI mX10_laysYear 51 3 52 := Or.inr ⟨3, by decide +kernel, rfl, rfl⟩
theorem dX10_laysYear_52 : AtI mX10_laysYear 52 1 53 := Or.inr ⟨1, by decide +kernel, rfl, rfl⟩
theorem dX10_laysYear_53 : AtV mX10_laysYear 53 mX10_puts 2 10 56 := ⟨187, 1147, 1149, 45, (RX10, TX10, 31), by decide +kernel, rfl, rfl, by decide +kernel, by decide +kernel, by decide +kernel, rfl, ⟨⟨1150, by decide +kernel⟩, ⟨63, by decide +kernel⟩, ⟨by decide, by decide⟩, by decide +kernel, by decide, by decide⟩⟩
theorem dX10_laysYear_56 : AtInc mX10_laysYear 56 3 (iZ 1) 59 := ⟨1, by decide +kernel, by decide, rfl, by decide⟩
theorem dX10_laysYear_59 : AtG mX10_laysYear 59 32 := ⟨(-27), by decide +kernel, by decide⟩
theorem dX10_laysYear_62 : AtInc mX10_laysYear 62 2 (iZ (-1)) 65 := ⟨(-1), by decide +kernel, by decide, rfl, by decide⟩
theorem dX10_laysYear_65 : AtG mX10_laysYear 65 26 := ⟨(-39), by decide +kernel, by decide⟩
theorem dX10_laysYear_68 : At mX10_laysYear 68 .return_ 1 69 := ⟨by decide +kernel, rfl⟩
theorem dX10_keptOn_0 : AtA mX10_keptOn 0 0 1 := Or.inr ⟨0, by decide +kernel, rfl, rfl⟩
theorem dX10_keptOn_1 : AtI mX10_keptOn 1 1 2 := Or.inr ⟨1, by decide +kernel, rfl, rfl⟩
theorem dX10_keptOn_2 : AtV mX10_keptOn 2 mX10_laysYear 1 10 5 := ⟨191, 1143, 1145, 44, (RX10, TX10, 31), by decide +kernel, rfl, rfl, by decide +kernel, by decide +kernel, by decide +kernel, rfl, ⟨⟨1146, by decide +kernel⟩, ⟨63, by decide +kernel⟩, ⟨by decide, by decide⟩, by decide +kernel, by decide, by decide⟩⟩
theorem dX10_keptOn_5 : AtA mX10_keptOn 5 0 6 := Or.inr ⟨0, by decide +kernel, rfl, rfl⟩
theorem dX10_keptOn_6 : AtF mX10_keptOn 6 10 23 9 := ⟨68, (RX10, TX10, 31), by decide +kernel, rfl, rfl, by decide, Or.inl (Or.inl ⟨905, by decide +kernel⟩)⟩
theorem dX10_keptOn_9 : AtI mX10_keptOn 9 2 10 := Or.inr ⟨2, by decide +kernel, rfl, rfl⟩
theorem dX10_keptOn_10 : At mX10_keptOn 10 .iaload 1 11 := ⟨by decide +kernel, rfl⟩
theorem dX10_keptOn_11 : AtK mX10_keptOn 11 (iZ (-100)) 13 := Or.inr (Or.inl ⟨(-100), by decide +kernel, by decide, rfl⟩)
theorem dX10_keptOn_13 : AtJ mX10_keptOn 13 (.if_icmp .eq) 16 25 := ⟨12, by decide +kernel, rfl, by decide⟩
theorem dX10_keptOn_16 : AtA mX10_keptOn 16 0 17 := Or.inr ⟨0, by decide +kernel, rfl, rfl⟩
theorem dX10_keptOn_17 : AtF mX10_keptOn 17 10 23 20 := ⟨68, (RX10, TX10, 31), by decide +kernel, rfl, rfl, by decide, Or.inl (Or.inl ⟨905, by decide +kernel⟩)⟩
theorem dX10_keptOn_20 : AtI mX10_keptOn 20 2 21 := Or.inr ⟨2, by decide +kernel, rfl, rfl⟩
theorem dX10_keptOn_21 : At mX10_keptOn 21 .iaload 1 22 := ⟨by decide +kernel, rfl⟩
theorem dX10_keptOn_22 : AtG mX10_keptOn 22 40 := ⟨18, by decide +kernel, by decide⟩
theorem dX10_keptOn_25 : AtI mX10_keptOn 25 1 26 := Or.inr ⟨1, by decide +kernel, rfl, rfl⟩
theorem dX10_keptOn_26 : AtI mX10_keptOn 26 2 27 := Or.inr ⟨2, by decide +kernel, rfl, rfl⟩
theorem dX10_keptOn_27 : AtS mX10_keptOn 27 mX10_weekdayOf 2 30 := ⟨159, 1101, 1102, by decide +kernel, rfl, by decide +kernel, by decide +kernel, rfl, ⟨⟨1103, by decide +kernel⟩, ⟨63, by decide +kernel⟩, ⟨by decide, by decide⟩, by decide +kernel, by decide, by decide⟩⟩
theorem dX10_keptOn_30 : AtJ mX10_keptOn 30 (.ifCond .ne) 33 38 := ⟨8, by decide +kernel, rfl, by decide⟩
theorem dX10_keptOn_33 : AtK mX10_keptOn 33 (iZ (-2)) 35 := Or.inr (Or.inl ⟨(-2), by decide +kernel, by decide, rfl⟩)
theorem dX10_keptOn_35 : AtG mX10_keptOn 35 40 := ⟨5, by decide +kernel, by decide⟩
theorem dX10_keptOn_38 : AtK mX10_keptOn 38 (iZ (-100)) 40 := Or.inr (Or.inl ⟨(-100), by decide +kernel, by decide, rfl⟩)
theorem dX10_keptOn_40 : At mX10_keptOn 40 .ireturn 1 41 := ⟨by decide +kernel, rfl⟩
theorem dX10_kept_0 : AtA mX10_kept 0 0 1 := Or.inr ⟨0, by decide +kernel, rfl, rfl⟩
theorem dX10_kept_1 : AtI mX10_kept 1 1 2 := Or.inr ⟨1, by decide +kernel, rfl, rfl⟩
theorem dX10_kept_2 : AtI mX10_kept 2 2 3 := Or.inr ⟨2, by decide +kernel, rfl, rfl⟩
theorem dX10_kept_3 : AtI mX10_kept 3 3 4 := Or.inr ⟨3, by decide +kernel, rfl, rfl⟩
theorem dX10_kept_4 : AtS mX10_kept 4 mX10_isDay 3 7 := ⟨152, 1089, 1090, by decide +kernel, rfl, by decide +kernel, by decide +kernel, rfl, ⟨⟨1091, by decide +kernel⟩, ⟨63, by decide +kernel⟩, ⟨by decide, by decide⟩, by decide +kernel, by decide, by decide⟩⟩
theorem dX10_kept_7 : AtJ mX10_kept 7 (.ifCond .eq) 10 14 := ⟨7, by decide +kernel, rfl, by decide⟩
theorem dX10_kept_10 : AtK mX10_kept 10 (iZ 0) 11 := Or.inl ⟨0, by decide +kernel, by decide, rfl⟩
theorem dX10_kept_11 : AtG mX10_kept 11 15 := ⟨4, by decide +kernel, by decide⟩
theorem dX10_kept_14 : AtK mX10_kept 14 (iZ 1) 15 := Or.inl ⟨1, by decide +kernel, by decide, rfl⟩
theorem dX10_kept_15 : AtP mX10_kept 15 10 30 (.int) 18 := ⟨86, (RX10, TX10, 31), by decide +kernel, rfl, rfl, by decide, Or.inl ⟨912, by decide +kernel⟩, by decide +kernel, Or.inl rfl⟩
theorem dX10_kept_18 : AtA mX10_kept 18 0 19 := Or.inr ⟨0, by decide +kernel, rfl, rfl⟩
theorem dX10_kept_19 : AtF mX10_kept 19 10 30 22 := ⟨86, (RX10, TX10, 31), by decide +kernel, rfl, rfl, by decide, Or.inl (Or.inl ⟨912, by decide +kernel⟩)⟩
theorem dX10_kept_22 : AtJ mX10_kept 22 (.ifCond .le) 25 29 := ⟨7, by decide +kernel, rfl, by decide⟩
theorem dX10_kept_25 : AtK mX10_kept 25 (iZ 0) 26 := Or.inl ⟨0, by decide +kernel, by decide, rfl⟩
theorem dX10_kept_26 : AtG mX10_kept 26 40 := ⟨14, by decide +kernel, by decide⟩
theorem dX10_kept_29 : AtA mX10_kept 29 0 30 := Or.inr ⟨0, by decide +kernel, rfl, rfl⟩
theorem dX10_kept_30 : AtI mX10_kept 30 1 31 := Or.inr ⟨1, by decide +kernel, rfl, rfl⟩
theorem dX10_kept_31 : AtI mX10_kept 31 1 32 := Or.inr ⟨1, by decide +kernel, rfl, rfl⟩
theorem dX10_kept_32 : AtI mX10_kept 32 2 33 := Or.inr ⟨2, by decide +kernel, rfl, rfl⟩
theorem dX10_kept_33 : AtI mX10_kept 33 3 34 := Or.inr ⟨3, by decide +kernel, rfl, rfl⟩
theorem dX10_kept_34 : AtS mX10_kept 34 mX10_placeOf 3 37 := ⟨155, 1098, 1099, by decide +kernel, rfl, by decide +kernel, by decide +kernel, rfl, ⟨⟨1100, by decide +kernel⟩, ⟨63, by decide +kernel⟩, ⟨by decide, by decide⟩, by decide +kernel, by decide, by decide⟩⟩
theorem dX10_kept_37 : AtV mX10_kept 37 mX10_keptOn 2 10 40 := ⟨195, 1139, 1141, 43, (RX10, TX10, 31), by decide +kernel, rfl, rfl, by decide +kernel, by decide +kernel, by decide +kernel, rfl, ⟨⟨1142, by decide +kernel⟩, ⟨63, by decide +kernel⟩, ⟨by decide, by decide⟩, by decide +kernel, by decide, by decide⟩⟩
theorem dX10_kept_40 : At mX10_kept 40 .ireturn 1 41 := ⟨by decide +kernel, rfl⟩
theorem dX10_tellsWhen_0 : AtA mX10_tellsWhen 0 0 1 := Or.inr ⟨0, by decide +kernel, rfl, rfl⟩
theorem dX10_tellsWhen_1 : AtI mX10_tellsWhen 1 1 2 := Or.inr ⟨1, by decide +kernel, rfl, rfl⟩
theorem dX10_tellsWhen_2 : AtK mX10_tellsWhen 2 (iZ 0) 3 := Or.inl ⟨0, by decide +kernel, by decide, rfl⟩
theorem dX10_tellsWhen_3 : AtA mX10_tellsWhen 3 0 4 := Or.inr ⟨0, by decide +kernel, rfl, rfl⟩
theorem dX10_tellsWhen_4 : AtF mX10_tellsWhen 4 10 15 7 := ⟨162, (RX10, TX10, 31), by decide +kernel, rfl, rfl, by decide, Or.inl (Or.inl ⟨897, by decide +kernel⟩)⟩
theorem dX10_tellsWhen_7 : AtK mX10_tellsWhen 7 (iZ 1) 8 := Or.inl ⟨1, by decide +kernel, by decide, rfl⟩
theorem dX10_tellsWhen_8 : At mX10_tellsWhen 8 .isub 1 9 := ⟨by decide +kernel, rfl⟩
theorem dX10_tellsWhen_9 : AtS mX10_tellsWhen 9 mX10_isIn 3 12 := ⟨90, 988, 989, by decide +kernel, rfl, by decide +kernel, by decide +kernel, rfl, ⟨⟨990, by decide +kernel⟩, ⟨63, by decide +kernel⟩, ⟨by decide, by decide⟩, by decide +kernel, by decide, by decide⟩⟩
theorem dX10_tellsWhen_12 : AtJ mX10_tellsWhen 12 (.ifCond .ne) 15 19 := ⟨7, by decide +kernel, rfl, by decide⟩
theorem dX10_tellsWhen_15 : AtK mX10_tellsWhen 15 (iZ 1) 16 := Or.inl ⟨1, by decide +kernel, by decide, rfl⟩
theorem dX10_tellsWhen_16 : AtG mX10_tellsWhen 16 31 := ⟨15, by decide +kernel, by decide⟩
theorem dX10_tellsWhen_19 : AtI mX10_tellsWhen 19 2 20 := Or.inr ⟨2, by decide +kernel, rfl, rfl⟩
theorem dX10_tellsWhen_20 : AtS mX10_tellsWhen 20 mX10_isYear 1 23 := ⟨135, 1075, 1076, by decide +kernel, rfl, by decide +kernel, by decide +kernel, rfl, ⟨⟨1077, by decide +kernel⟩, ⟨63, by decide +kernel⟩, ⟨by decide, by decide⟩, by decide +kernel, by decide, by decide⟩⟩
theorem dX10_tellsWhen_23 : AtJ mX10_tellsWhen 23 (.ifCond .ne) 26 30 := ⟨7, by decide +kernel, rfl, by decide⟩
theorem dX10_tellsWhen_26 : AtK mX10_tellsWhen 26 (iZ 2) 27 := Or.inl ⟨2, by decide +kernel, by decide, rfl⟩
theorem dX10_tellsWhen_27 : AtG mX10_tellsWhen 27 31 := ⟨4, by decide +kernel, by decide⟩
theorem dX10_tellsWhen_30 : AtK mX10_tellsWhen 30 (iZ 0) 31 := Or.inl ⟨0, by decide +kernel, by decide, rfl⟩
theorem dX10_tellsWhen_31 : AtP mX10_tellsWhen 31 10 30 (.int) 34 := ⟨86, (RX10, TX10, 31), by decide +kernel, rfl, rfl, by decide, Or.inl ⟨912, by decide +kernel⟩, by decide +kernel, Or.inl rfl⟩
theorem dX10_tellsWhen_34 : AtA mX10_tellsWhen 34 0 35 := Or.inr ⟨0, by decide +kernel, rfl, rfl⟩
theorem dX10_tellsWhen_35 : AtF mX10_tellsWhen 35 10 30 38 := ⟨86, (RX10, TX10, 31), by decide +kernel, rfl, rfl, by decide, Or.inl (Or.inl ⟨912, by decide +kernel⟩)⟩
theorem dX10_tellsWhen_38 : AtJ mX10_tellsWhen 38 (.ifCond .le) 41 43 := ⟨5, by decide +kernel, rfl, by decide⟩
theorem dX10_tellsWhen_41 : AtK mX10_tellsWhen 41 (iZ 0) 42 := Or.inl ⟨0, by decide +kernel, by decide, rfl⟩
theorem dX10_tellsWhen_42 : At mX10_tellsWhen 42 .ireturn 1 43 := ⟨by decide +kernel, rfl⟩
theorem dX10_tellsWhen_43 : AtA mX10_tellsWhen 43 0 44 := Or.inr ⟨0, by decide +kernel, rfl, rfl⟩
theorem dX10_tellsWhen_44 : AtI mX10_tellsWhen 44 2 45 := Or.inr ⟨2, by decide +kernel, rfl, rfl⟩
theorem dX10_tellsWhen_45 : AtV mX10_tellsWhen 45 mX10_laysYear 1 10 48 := ⟨191, 1143, 1145, 44, (RX10, TX10, 31), by decide +kernel, rfl, rfl, by decide +kernel, by decide +kernel, by decide +kernel, rfl, ⟨⟨1146, by decide +kernel⟩, ⟨63, by decide +kernel⟩, ⟨by decide, by decide⟩, by decide +kernel, by decide, by decide⟩⟩
theorem dX10_tellsWhen_48 : AtA mX10_tellsWhen 48 0 49 := Or.inr ⟨0, by decide +kernel, rfl, rfl⟩
theorem dX10_tellsWhen_49 : AtF mX10_tellsWhen 49 10 24 52 := ⟨71, (RX10, TX10, 31), by decide +kernel, rfl, rfl, by decide, Or.inl (Or.inl ⟨906, by decide +kernel⟩)⟩
theorem dX10_tellsWhen_52 : AtI mX10_tellsWhen 52 1 53 := Or.inr ⟨1, by decide +kernel, rfl, rfl⟩
theorem dX10_tellsWhen_53 : At mX10_tellsWhen 53 .iaload 1 54 := ⟨by decide +kernel, rfl⟩
theorem dX10_tellsWhen_54 : AtK mX10_tellsWhen 54 (iZ (-100)) 56 := Or.inr (Or.inl ⟨(-100), by decide +kernel, by decide, rfl⟩)
theorem dX10_tellsWhen_56 : AtJ mX10_tellsWhen 56 (.if_icmp .ne) 59 64 := ⟨8, by decide +kernel, rfl, by decide⟩
theorem dX10_tellsWhen_59 : AtK mX10_tellsWhen 59 (iZ (-100)) 61 := Or.inr (Or.inl ⟨(-100), by decide +kernel, by decide, rfl⟩)
theorem dX10_tellsWhen_61 : AtG mX10_tellsWhen 61 74 := ⟨13, by decide +kernel, by decide⟩
theorem dX10_tellsWhen_64 : AtI mX10_tellsWhen 64 2 65 := Or.inr ⟨2, by decide +kernel, rfl, rfl⟩
theorem dX10_tellsWhen_65 : AtA mX10_tellsWhen 65 0 66 := Or.inr ⟨0, by decide +kernel, rfl, rfl⟩
theorem dX10_tellsWhen_66 : AtF mX10_tellsWhen 66 10 24 69 := ⟨71, (RX10, TX10, 31), by decide +kernel, rfl, rfl, by decide, Or.inl (Or.inl ⟨906, by decide +kernel⟩)⟩
theorem dX10_tellsWhen_69 : AtI mX10_tellsWhen 69 1 70 := Or.inr ⟨1, by decide +kernel, rfl, rfl⟩
theorem dX10_tellsWhen_70 : At mX10_tellsWhen 70 .iaload 1 71 := ⟨by decide +kernel, rfl⟩
theorem dX10_tellsWhen_71 : AtS mX10_tellsWhen 71 mX10_dateOf 2 74 := ⟨198, 1170, 1171, by decide +kernel, rfl, by decide +kernel, by decide +kernel, rfl, ⟨⟨1172, by decide +kernel⟩, ⟨63, by decide +kernel⟩, ⟨by decide, by decide⟩, by decide +kernel, by decide, by decide⟩⟩
theorem dX10_tellsWhen_74 : At mX10_tellsWhen 74 .ireturn 1 75 := ⟨by decide +kernel, rfl⟩
theorem dX10_when_0 : AtA mX10_when 0 0 1 := Or.inr ⟨0, by decide +kernel, rfl, rfl⟩
theorem dX10_when_1 : AtI mX10_when 1 1 2 := Or.inr ⟨1, by decide +kernel, rfl, rfl⟩
theorem dX10_when_2 : AtI mX10_when 2 2 3 := Or.inr ⟨2, by decide +kernel, rfl, rfl⟩
theorem dX10_when_3 : AtV mX10_when 3 mX10_tellsWhen 2 10 6 := ⟨201, 1166, 1168, 48, (RX10, TX10, 31), by decide +kernel, rfl, rfl, by decide +kernel, by decide +kernel, by decide +kernel, rfl, ⟨⟨1169, by decide +kernel⟩, ⟨63, by decide +kernel⟩, ⟨by decide, by decide⟩, by decide +kernel, by decide, by decide⟩⟩
theorem dX10_when_6 : At mX10_when 6 .ireturn 1 7 := ⟨by decide +kernel, rfl⟩
theorem dX10_whenAnew_0 : AtA mX10_whenAnew 0 0 1 := Or.inr ⟨0, by decide +kernel, rfl, rfl⟩
theorem dX10_whenAnew_1 : AtI mX10_whenAnew 1 1 2 := Or.inr ⟨1, by decide +kernel, rfl, rfl⟩
theorem dX10_whenAnew_2 : AtI mX10_whenAnew 2 2 3 := Or.inr ⟨2, by decide +kernel, rfl, rfl⟩
theorem dX10_whenAnew_3 : AtV mX10_whenAnew 3 mX10_tellsWhen 2 10 6 := ⟨201, 1166, 1168, 48, (RX10, TX10, 31), by decide +kernel, rfl, rfl, by decide +kernel, by decide +kernel, by decide +kernel, rfl, ⟨⟨1169, by decide +kernel⟩, ⟨63, by decide +kernel⟩, ⟨by decide, by decide⟩, by decide +kernel, by decide, by decide⟩⟩
theorem dX10_whenAnew_6 : At mX10_whenAnew 6 .ireturn 1 7 := ⟨by decide +kernel, rfl⟩
theorem dX10_themeOn_0 : AtA mX10_themeOn 0 0 1 := Or.inr ⟨0, by decide +kernel, rfl, rfl⟩
theorem dX10_themeOn_1 : AtI mX10_themeOn 1 1 2 := Or.inr ⟨1, by decide +kernel, rfl, rfl⟩
theorem dX10_themeOn_2 : AtI mX10_themeOn 2 2 3 := Or.inr ⟨2, by decide +kernel, rfl, rfl⟩
theorem dX10_themeOn_3 : AtV mX10_themeOn 3 mX10_keptOn 2 10 6 := ⟨195, 1139, 1141, 43, (RX10, TX10, 31), by decide +kernel, rfl, rfl, by decide +kernel, by decide +kernel, by decide +kernel, rfl, ⟨⟨1142, by decide +kernel⟩, ⟨63, by decide +kernel⟩, ⟨by decide, by decide⟩, by decide +kernel, by decide, by decide⟩⟩
theorem dX10_themeOn_6 : AtSI mX10_themeOn 6 3 7 := ⟨Or.inr ⟨3, by decide +kernel, rfl, rfl⟩, by decide⟩
theorem dX10_themeOn_7 : AtI mX10_themeOn 7 3 8 := Or.inr ⟨3, by decide +kernel, rfl, rfl⟩
theorem dX10_themeOn_8 : AtK mX10_themeOn 8 (iZ (-100)) 10 := Or.inr (Or.inl ⟨(-100), by decide +kernel, by decide, rfl⟩)
theorem dX10_themeOn_10 : AtJ mX10_themeOn 10 (.if_icmp .ne) 13 18 := ⟨8, by decide +kernel, rfl, by decide⟩
theorem dX10_themeOn_13 : AtK mX10_themeOn 13 (iZ (-100)) 15 := Or.inr (Or.inl ⟨(-100), by decide +kernel, by decide, rfl⟩)
theorem dX10_themeOn_15 : AtG mX10_themeOn 15 32 := ⟨17, by decide +kernel, by decide⟩
theorem dX10_themeOn_18 : AtA mX10_themeOn 18 0 19 := Or.inr ⟨0, by decide +kernel, rfl, rfl⟩
theorem dX10_themeOn_19 : AtF mX10_themeOn 19 10 22 22 := ⟨65, (RX10, TX10, 31), by decide +kernel, rfl, rfl, by decide, Or.inl (Or.inl ⟨904, by decide +kernel⟩)⟩
theorem dX10_themeOn_22 : AtA mX10_themeOn 22 0 23 := Or.inr ⟨0, by decide +kernel, rfl, rfl⟩
theorem dX10_themeOn_23 : AtI mX10_themeOn 23 3 24 := Or.inr ⟨3, by decide +kernel, rfl, rfl⟩
theorem dX10_themeOn_24 : AtV mX10_themeOn 24 mX10_readingsFrom 1 10 27 := ⟨175, 1131, 1133, 42, (RX10, TX10, 31), by decide +kernel, rfl, rfl, by decide +kernel, by decide +kernel, by decide +kernel, rfl, ⟨⟨1134, by decide +kernel⟩, ⟨63, by decide +kernel⟩, ⟨by decide, by decide⟩, by decide +kernel, by decide, by decide⟩⟩
theorem dX10_themeOn_27 : AtI mX10_themeOn 27 1 28 := Or.inr ⟨1, by decide +kernel, rfl, rfl⟩
theorem dX10_themeOn_28 : AtK mX10_themeOn 28 (iZ 3) 29 := Or.inl ⟨3, by decide +kernel, by decide, rfl⟩
theorem dX10_themeOn_29 : At mX10_themeOn 29 .irem 1 30 := ⟨by decide +kernel, rfl⟩
theorem dX10_themeOn_30 : At mX10_themeOn 30 .iadd 1 31 := ⟨by decide +kernel, rfl⟩
theorem dX10_themeOn_31 : At mX10_themeOn 31 .iaload 1 32 := ⟨by decide +kernel, rfl⟩
theorem dX10_themeOn_32 : At mX10_themeOn 32 .ireturn 1 33 := ⟨by decide +kernel, rfl⟩
theorem dX10_theme_0 : AtA mX10_theme 0 0 1 := Or.inr ⟨0, by decide +kernel, rfl, rfl⟩
theorem dX10_theme_1 : AtI mX10_theme 1 1 2 := Or.inr ⟨1, by decide +kernel, rfl, rfl⟩
theorem dX10_theme_2 : AtI mX10_theme 2 2 3 := Or.inr ⟨2, by decide +kernel, rfl, rfl⟩
theorem dX10_theme_3 : AtI mX10_theme 3 3 4 := Or.inr ⟨3, by decide +kernel, rfl, rfl⟩
theorem dX10_theme_4 : AtS mX10_theme 4 mX10_isDay 3 7 := ⟨152, 1089, 1090, by decide +kernel, rfl, by decide +kernel, by decide +kernel, rfl, ⟨⟨1091, by decide +kernel⟩, ⟨63, by decide +kernel⟩, ⟨by decide, by decide⟩, by decide +kernel, by decide, by decide⟩⟩
theorem dX10_theme_7 : AtJ mX10_theme 7 (.ifCond .eq) 10 14 := ⟨7, by decide +kernel, rfl, by decide⟩
theorem dX10_theme_10 : AtK mX10_theme 10 (iZ 0) 11 := Or.inl ⟨0, by decide +kernel, by decide, rfl⟩
theorem dX10_theme_11 : AtG mX10_theme 11 15 := ⟨4, by decide +kernel, by decide⟩
theorem dX10_theme_14 : AtK mX10_theme 14 (iZ 1) 15 := Or.inl ⟨1, by decide +kernel, by decide, rfl⟩
theorem dX10_theme_15 : AtP mX10_theme 15 10 30 (.int) 18 := ⟨86, (RX10, TX10, 31), by decide +kernel, rfl, rfl, by decide, Or.inl ⟨912, by decide +kernel⟩, by decide +kernel, Or.inl rfl⟩
theorem dX10_theme_18 : AtA mX10_theme 18 0 19 := Or.inr ⟨0, by decide +kernel, rfl, rfl⟩
theorem dX10_theme_19 : AtF mX10_theme 19 10 30 22 := ⟨86, (RX10, TX10, 31), by decide +kernel, rfl, rfl, by decide, Or.inl (Or.inl ⟨912, by decide +kernel⟩)⟩
theorem dX10_theme_22 : AtJ mX10_theme 22 (.ifCond .le) 25 29 := ⟨7, by decide +kernel, rfl, by decide⟩
theorem dX10_theme_25 : AtK mX10_theme 25 (iZ 0) 26 := Or.inl ⟨0, by decide +kernel, by decide, rfl⟩
theorem dX10_theme_26 : AtG mX10_theme 26 40 := ⟨14, by decide +kernel, by decide⟩
theorem dX10_theme_29 : AtA mX10_theme 29 0 30 := Or.inr ⟨0, by decide +kernel, rfl, rfl⟩
theorem dX10_theme_30 : AtI mX10_theme 30 1 31 := Or.inr ⟨1, by decide +kernel, rfl, rfl⟩
theorem dX10_theme_31 : AtI mX10_theme 31 1 32 := Or.inr ⟨1, by decide +kernel, rfl, rfl⟩
theorem dX10_theme_32 : AtI mX10_theme 32 2 33 := Or.inr ⟨2, by decide +kernel, rfl, rfl⟩
theorem dX10_theme_33 : AtI mX10_theme 33 3 34 := Or.inr ⟨3, by decide +kernel, rfl, rfl⟩
theorem dX10_theme_34 : AtS mX10_theme 34 mX10_placeOf 3 37 := ⟨155, 1098, 1099, by decide +kernel, rfl, by decide +kernel, by decide +kernel, rfl, ⟨⟨1100, by decide +kernel⟩, ⟨63, by decide +kernel⟩, ⟨by decide, by decide⟩, by decide +kernel, by decide, by decide⟩⟩
theorem dX10_theme_37 : AtV mX10_theme 37 mX10_themeOn 2 10 40 := ⟨204, 1181, 1183, 49, (RX10, TX10, 31), by decide +kernel, rfl, rfl, by decide +kernel, by decide +kernel, by decide +kernel, rfl, ⟨⟨1184, by decide +kernel⟩, ⟨63, by decide +kernel⟩, ⟨by decide, by decide⟩, by decide +kernel, by decide, by decide⟩⟩
theorem dX10_theme_40 : At mX10_theme 40 .ireturn 1 41 := ⟨by decide +kernel, rfl⟩
theorem dX10_wasLately_0 : AtK mX10_wasLately 0 (iZ 0) 1 := Or.inl ⟨0, by decide +kernel, by decide, rfl⟩
theorem dX10_wasLately_1 : AtSI mX10_wasLately 1 4 3 := ⟨Or.inl ⟨by decide +kernel, rfl⟩, by decide⟩
theorem dX10_wasLately_3 : AtK mX10_wasLately 3 (iZ 0) 4 := Or.inl ⟨0, by decide +kernel, by decide, rfl⟩
theorem dX10_wasLately_4 : AtSI mX10_wasLately 4 5 6 := ⟨Or.inl ⟨by decide +kernel, rfl⟩, by decide⟩
theorem dX10_wasLately_6 : AtI mX10_wasLately 6 5 8 := Or.inl ⟨by decide +kernel, rfl⟩
theorem dX10_wasLately_8 : AtA mX10_wasLately 8 0 9 := Or.inr ⟨0, by decide +kernel, rfl, rfl⟩
theorem dX10_wasLately_9 : AtF mX10_wasLately 9 10 25 12 := ⟨207, (RX10, TX10, 31), by decide +kernel, rfl, rfl, by decide, Or.inl (Or.inl ⟨907, by decide +kernel⟩)⟩
theorem dX10_wasLately_12 : AtJ mX10_wasLately 12 (.if_icmp .ge) 15 80 := ⟨68, by decide +kernel, rfl, by decide⟩
theorem dX10_wasLately_15 : AtI mX10_wasLately 15 2 16 := Or.inr ⟨2, by decide +kernel, rfl, rfl⟩
theorem dX10_wasLately_16 : AtS mX10_wasLately 16 mX10_before 1 19 := ⟨141, 1104, 1105, by decide +kernel, rfl, by decide +kernel, by decide +kernel, rfl, ⟨⟨1106, by decide +kernel⟩, ⟨63, by decide +kernel⟩, ⟨by decide, by decide⟩, by decide +kernel, by decide, by decide⟩⟩
theorem dX10_wasLately_19 : AtI mX10_wasLately 19 3 20 := Or.inr ⟨3, by decide +kernel, rfl, rfl⟩
theorem dX10_wasLately_20 : At mX10_wasLately 20 .iadd 1 21 := ⟨by decide +kernel, rfl⟩
theorem dX10_wasLately_21 : AtA mX10_wasLately 21 0 22 := Or.inr ⟨0, by decide +kernel, rfl, rfl⟩
theorem dX10_wasLately_22 : AtF mX10_wasLately 22 10 28 25 := ⟨80, (RX10, TX10, 31), by decide +kernel, rfl, rfl, by decide, Or.inl (Or.inl ⟨910, by decide +kernel⟩)⟩
theorem dX10_wasLately_25 : AtI mX10_wasLately 25 5 27 := Or.inl ⟨by decide +kernel, rfl⟩
theorem dX10_wasLately_27 : At mX10_wasLately 27 .iaload 1 28 := ⟨by decide +kernel, rfl⟩
theorem dX10_wasLately_28 : AtS mX10_wasLately 28 mX10_before 1 31 := ⟨141, 1104, 1105, by decide +kernel, rfl, by decide +kernel, by decide +kernel, rfl, ⟨⟨1106, by decide +kernel⟩, ⟨63, by decide +kernel⟩, ⟨by decide, by decide⟩, by decide +kernel, by decide, by decide⟩⟩
theorem dX10_wasLately_31 : At mX10_wasLately 31 .isub 1 32 := ⟨by decide +kernel, rfl⟩
theorem dX10_wasLately_32 : AtA mX10_wasLately 32 0 33 := Or.inr ⟨0, by decide +kernel, rfl, rfl⟩
theorem dX10_wasLately_33 : AtF mX10_wasLately 33 10 29 36 := ⟨83, (RX10, TX10, 31), by decide +kernel, rfl, rfl, by decide, Or.inl (Or.inl ⟨911, by decide +kernel⟩)⟩
theorem dX10_wasLately_36 : AtI mX10_wasLately 36 5 38 := Or.inl ⟨by decide +kernel, rfl⟩
theorem dX10_wasLately_38 : At mX10_wasLately 38 .iaload 1 39 := ⟨by decide +kernel, rfl⟩
theorem dX10_wasLately_39 : At mX10_wasLately 39 .isub 1 40 := ⟨by decide +kernel, rfl⟩
theorem dX10_wasLately_40 : AtSI mX10_wasLately 40 6 42 := ⟨Or.inl ⟨by decide +kernel, rfl⟩, by decide⟩
theorem dX10_wasLately_42 : AtI mX10_wasLately 42 4 44 := Or.inl ⟨by decide +kernel, rfl⟩
theorem dX10_wasLately_44 : AtA mX10_wasLately 44 0 45 := Or.inr ⟨0, by decide +kernel, rfl, rfl⟩
theorem dX10_wasLately_45 : AtF mX10_wasLately 45 10 26 48 := ⟨74, (RX10, TX10, 31), by decide +kernel, rfl, rfl, by decide, Or.inl (Or.inl ⟨908, by decide +kernel⟩)⟩
theorem dX10_wasLately_48 : AtI mX10_wasLately 48 5 50 := Or.inl ⟨by decide +kernel, rfl⟩
theorem dX10_wasLately_50 : At mX10_wasLately 50 .iaload 1 51 := ⟨by decide +kernel, rfl⟩
theorem dX10_wasLately_51 : AtI mX10_wasLately 51 1 52 := Or.inr ⟨1, by decide +kernel, rfl, rfl⟩
theorem dX10_wasLately_52 : AtJ mX10_wasLately 52 (.if_icmp .ne) 55 70 := ⟨18, by decide +kernel, rfl, by decide⟩
theorem dX10_wasLately_55 : AtI mX10_wasLately 55 6 57 := Or.inl ⟨by decide +kernel, rfl⟩
theorem dX10_wasLately_57 : AtK mX10_wasLately 57 (iZ 0) 58 := Or.inl ⟨0, by decide +kernel, by decide, rfl⟩
theorem dX10_wasLately_58 : AtK mX10_wasLately 58 (iZ 28) 60 := Or.inr (Or.inl ⟨28, by decide +kernel, by decide, rfl⟩)
theorem dX10_wasLately_60 : AtS mX10_wasLately 60 mX10_isIn 3 63 := ⟨90, 988, 989, by decide +kernel, rfl, by decide +kernel, by decide +kernel, rfl, ⟨⟨990, by decide +kernel⟩, ⟨63, by decide +kernel⟩, ⟨by decide, by decide⟩, by decide +kernel, by decide, by decide⟩⟩
theorem dX10_wasLately_63 : AtJ mX10_wasLately 63 (.ifCond .eq) 66 70 := ⟨7, by decide +kernel, rfl, by decide⟩
theorem dX10_wasLately_66 : AtK mX10_wasLately 66 (iZ 1) 67 := Or.inl ⟨1, by decide +kernel, by decide, rfl⟩
theorem dX10_wasLately_67 : AtG mX10_wasLately 67 71 := ⟨4, by decide +kernel, by decide⟩
theorem dX10_wasLately_70 : AtK mX10_wasLately 70 (iZ 0) 71 := Or.inl ⟨0, by decide +kernel, by decide, rfl⟩
theorem dX10_wasLately_71 : At mX10_wasLately 71 .ior 1 72 := ⟨by decide +kernel, rfl⟩
theorem dX10_wasLately_72 : AtSI mX10_wasLately 72 4 74 := ⟨Or.inl ⟨by decide +kernel, rfl⟩, by decide⟩
theorem dX10_wasLately_74 : AtInc mX10_wasLately 74 5 (iZ 1) 77 := ⟨1, by decide +kernel, by decide, rfl, by decide⟩
theorem dX10_wasLately_77 : AtG mX10_wasLately 77 6 := ⟨(-71), by decide +kernel, by decide⟩
theorem dX10_wasLately_80 : AtI mX10_wasLately 80 4 82 := Or.inl ⟨by decide +kernel, rfl⟩
theorem dX10_wasLately_82 : At mX10_wasLately 82 .ireturn 1 83 := ⟨by decide +kernel, rfl⟩
theorem dX10_reason_0 : AtA mX10_reason 0 0 1 := Or.inr ⟨0, by decide +kernel, rfl, rfl⟩
theorem dX10_reason_1 : AtF mX10_reason 1 10 2 4 := ⟨13, (RX10, TX10, 31), by decide +kernel, rfl, rfl, by decide, Or.inl (Or.inl ⟨884, by decide +kernel⟩)⟩
theorem dX10_reason_4 : AtI mX10_reason 4 1 5 := Or.inr ⟨1, by decide +kernel, rfl, rfl⟩
theorem dX10_reason_5 : At mX10_reason 5 .iaload 1 6 := ⟨by decide +kernel, rfl⟩
theorem dX10_reason_6 : AtI mX10_reason 6 4 8 := Or.inl ⟨by decide +kernel, rfl⟩
theorem dX10_reason_8 : At mX10_reason 8 .ishr 1 9 := ⟨by decide +kernel, rfl⟩
theorem dX10_reason_9 : AtK mX10_reason 9 (iZ 1) 10 := Or.inl ⟨1, by decide +kernel, by decide, rfl⟩
theorem dX10_reason_10 : At mX10_reason 10 .iand 1 11 := ⟨by decide +kernel, rfl⟩
theorem dX10_reason_11 : AtJ mX10_reason 11 (.ifCond .ne) 14 16 := ⟨5, by decide +kernel, rfl, by decide⟩
theorem dX10_reason_14 : AtK mX10_reason 14 (iZ 1) 15 := Or.inl ⟨1, by decide +kernel, by decide, rfl⟩
theorem dX10_reason_15 : At mX10_reason 15 .ireturn 1 16 := ⟨by decide +kernel, rfl⟩
theorem dX10_reason_16 : AtA mX10_reason 16 0 17 := Or.inr ⟨0, by decide +kernel, rfl, rfl⟩
theorem dX10_reason_17 : AtF mX10_reason 17 10 3 20 := ⟨16, (RX10, TX10, 31), by decide +kernel, rfl, rfl, by decide, Or.inl (Or.inl ⟨885, by decide +kernel⟩)⟩
theorem dX10_reason_20 : AtI mX10_reason 20 1 21 := Or.inr ⟨1, by decide +kernel, rfl, rfl⟩
theorem dX10_reason_21 : At mX10_reason 21 .baload 1 22 := ⟨by decide +kernel, rfl⟩
theorem dX10_reason_22 : AtJ mX10_reason 22 (.ifCond .ne) 25 40 := ⟨18, by decide +kernel, rfl, by decide⟩
theorem dX10_reason_25 : AtI mX10_reason 25 2 26 := Or.inr ⟨2, by decide +kernel, rfl, rfl⟩
theorem dX10_reason_26 : AtA mX10_reason 26 0 27 := Or.inr ⟨0, by decide +kernel, rfl, rfl⟩
theorem dX10_reason_27 : AtF mX10_reason 27 10 1 30 := ⟨7, (RX10, TX10, 31), by decide +kernel, rfl, rfl, by decide, Or.inl (Or.inl ⟨883, by decide +kernel⟩)⟩
theorem dX10_reason_30 : AtI mX10_reason 30 1 31 := Or.inr ⟨1, by decide +kernel, rfl, rfl⟩
theorem dX10_reason_31 : At mX10_reason 31 .iaload 1 32 := ⟨by decide +kernel, rfl⟩
theorem dX10_reason_32 : AtK mX10_reason 32 (iZ 70) 34 := Or.inr (Or.inl ⟨70, by decide +kernel, by decide, rfl⟩)
theorem dX10_reason_34 : At mX10_reason 34 .iadd 1 35 := ⟨by decide +kernel, rfl⟩
theorem dX10_reason_35 : AtJ mX10_reason 35 (.if_icmp .gt) 38 40 := ⟨5, by decide +kernel, rfl, by decide⟩
theorem dX10_reason_38 : AtK mX10_reason 38 (iZ 2) 39 := Or.inl ⟨2, by decide +kernel, by decide, rfl⟩
theorem dX10_reason_39 : At mX10_reason 39 .ireturn 1 40 := ⟨by decide +kernel, rfl⟩
theorem dX10_reason_40 : AtA mX10_reason 40 0 41 := Or.inr ⟨0, by decide +kernel, rfl, rfl⟩
theorem dX10_reason_41 : AtI mX10_reason 41 1 42 := Or.inr ⟨1, by decide +kernel, rfl, rfl⟩
theorem dX10_reason_42 : AtK mX10_reason 42 (iZ 0) 43 := Or.inl ⟨0, by decide +kernel, by decide, rfl⟩
theorem dX10_reason_43 : AtI mX10_reason 43 2 44 := Or.inr ⟨2, by decide +kernel, rfl, rfl⟩
theorem dX10_reason_44 : AtV mX10_reason 44 mX10_bestOf 3 10 47 := ⟨125, 1035, 1037, 37, (RX10, TX10, 31), by decide +kernel, rfl, rfl, by decide +kernel, by decide +kernel, by decide +kernel, rfl, ⟨⟨1038, by decide +kernel⟩, ⟨63, by decide +kernel⟩, ⟨by decide, by decide⟩, by decide +kernel, by decide, by decide⟩⟩
theorem dX10_reason_47 : AtK mX10_reason 47 (iZ (-100)) 49 := Or.inr (Or.inl ⟨(-100), by decide +kernel, by decide, rfl⟩)
theorem dX10_reason_49 : AtJ mX10_reason 49 (.if_icmp .ne) 52 56 := ⟨7, by decide +kernel, rfl, by decide⟩
theorem dX10_reason_52 : AtK mX10_reason 52 (iZ 3) 53 := Or.inl ⟨3, by decide +kernel, by decide, rfl⟩
theorem dX10_reason_53 : AtG mX10_reason 53 71 := ⟨18, by decide +kernel, by decide⟩
theorem dX10_reason_56 : AtA mX10_reason 56 0 57 := Or.inr ⟨0, by decide +kernel, rfl, rfl⟩
theorem dX10_reason_57 : AtI mX10_reason 57 1 58 := Or.inr ⟨1, by decide +kernel, rfl, rfl⟩
theorem dX10_reason_58 : AtI mX10_reason 58 2 59 := Or.inr ⟨2, by decide +kernel, rfl, rfl⟩
theorem dX10_reason_59 : AtI mX10_reason 59 3 60 := Or.inr ⟨3, by decide +kernel, rfl, rfl⟩
theorem dX10_reason_60 : AtV mX10_reason 60 mX10_wasLately 3 10 63 := ⟨210, 1193, 1195, 51, (RX10, TX10, 31), by decide +kernel, rfl, rfl, by decide +kernel, by decide +kernel, by decide +kernel, rfl, ⟨⟨1196, by decide +kernel⟩, ⟨63, by decide +kernel⟩, ⟨by decide, by decide⟩, by decide +kernel, by decide, by decide⟩⟩
theorem dX10_reason_63 : AtJ mX10_reason 63 (.ifCond .eq) 66 70 := ⟨7, by decide +kernel, rfl, by decide⟩
theorem dX10_reason_66 : AtK mX10_reason 66 (iZ 4) 67 := Or.inl ⟨4, by decide +kernel, by decide, rfl⟩
theorem dX10_reason_67 : AtG mX10_reason 67 71 := ⟨4, by decide +kernel, by decide⟩
theorem dX10_reason_70 : AtK mX10_reason 70 (iZ 0) 71 := Or.inl ⟨0, by decide +kernel, by decide, rfl⟩
theorem dX10_reason_71 : At mX10_reason 71 .ireturn 1 72 := ⟨by decide +kernel, rfl⟩
theorem dX10_why_0 : AtA mX10_why 0 0 1 := Or.inr ⟨0, by decide +kernel, rfl, rfl⟩
theorem dX10_why_1 : AtA mX10_why 1 0 2 := Or.inr ⟨0, by decide +kernel, rfl, rfl⟩
theorem dX10_why_2 : AtI mX10_why 2 1 3 := Or.inr ⟨1, by decide +kernel, rfl, rfl⟩
theorem dX10_why_3 : AtV mX10_why 3 mX10_isText 1 10 6 := ⟨105, 996, 998, 33, (RX10, TX10, 31), by decide +kernel, rfl, rfl, by decide +kernel, by decide +kernel, by decide +kernel, rfl, ⟨⟨999, by decide +kernel⟩, ⟨63, by decide +kernel⟩, ⟨by decide, by decide⟩, by decide +kernel, by decide, by decide⟩⟩
theorem dX10_why_6 : AtJ mX10_why 6 (.ifCond .ne) 9 13 := ⟨7, by decide +kernel, rfl, by decide⟩
theorem dX10_why_9 : AtK mX10_why 9 (iZ 1) 10 := Or.inl ⟨1, by decide +kernel, by decide, rfl⟩
theorem dX10_why_10 : AtG mX10_why 10 28 := ⟨18, by decide +kernel, by decide⟩
theorem dX10_why_13 : AtI mX10_why 13 2 14 := Or.inr ⟨2, by decide +kernel, rfl, rfl⟩
theorem dX10_why_14 : AtI mX10_why 14 3 15 := Or.inr ⟨3, by decide +kernel, rfl, rfl⟩
theorem dX10_why_15 : AtI mX10_why 15 4 17 := Or.inl ⟨by decide +kernel, rfl⟩
theorem dX10_why_17 : AtS mX10_why 17 mX10_isDay 3 20 := ⟨152, 1089, 1090, by decide +kernel, rfl, by decide +kernel, by decide +kernel, rfl, ⟨⟨1091, by decide +kernel⟩, ⟨63, by decide +kernel⟩, ⟨by decide, by decide⟩, by decide +kernel, by decide, by decide⟩⟩
theorem dX10_why_20 : AtJ mX10_why 20 (.ifCond .ne) 23 27 := ⟨7, by decide +kernel, rfl, by decide⟩
theorem dX10_why_23 : AtK mX10_why 23 (iZ 2) 24 := Or.inl ⟨2, by decide +kernel, by decide, rfl⟩
theorem dX10_why_24 : AtG mX10_why 24 28 := ⟨4, by decide +kernel, by decide⟩
theorem dX10_why_27 : AtK mX10_why 27 (iZ 0) 28 := Or.inl ⟨0, by decide +kernel, by decide, rfl⟩
theorem dX10_why_28 : AtP mX10_why 28 10 30 (.int) 31 := ⟨86, (RX10, TX10, 31), by decide +kernel, rfl, rfl, by decide, Or.inl ⟨912, by decide +kernel⟩, by decide +kernel, Or.inl rfl⟩
theorem dX10_why_31 : AtA mX10_why 31 0 32 := Or.inr ⟨0, by decide +kernel, rfl, rfl⟩
theorem dX10_why_32 : AtF mX10_why 32 10 30 35 := ⟨86, (RX10, TX10, 31), by decide +kernel, rfl, rfl, by decide, Or.inl (Or.inl ⟨912, by decide +kernel⟩)⟩
theorem dX10_why_35 : AtJ mX10_why 35 (.ifCond .le) 38 40 := ⟨5, by decide +kernel, rfl, by decide⟩
theorem dX10_why_38 : AtK mX10_why 38 (iZ 0) 39 := Or.inl ⟨0, by decide +kernel, by decide, rfl⟩
theorem dX10_why_39 : At mX10_why 39 .ireturn 1 40 := ⟨by decide +kernel, rfl⟩
theorem dX10_why_40 : AtI mX10_why 40 2 41 := Or.inr ⟨2, by decide +kernel, rfl, rfl⟩
theorem dX10_why_41 : AtI mX10_why 41 3 42 := Or.inr ⟨3, by decide +kernel, rfl, rfl⟩
theorem dX10_why_42 : AtI mX10_why 42 4 44 := Or.inl ⟨by decide +kernel, rfl⟩
theorem dX10_why_44 : AtS mX10_why 44 mX10_placeOf 3 47 := ⟨155, 1098, 1099, by decide +kernel, rfl, by decide +kernel, by decide +kernel, rfl, ⟨⟨1100, by decide +kernel⟩, ⟨63, by decide +kernel⟩, ⟨by decide, by decide⟩, by decide +kernel, by decide, by decide⟩⟩
theorem dX10_why_47 : AtSI mX10_why 47 5 49 := ⟨Or.inl ⟨by decide +kernel, rfl⟩, by decide⟩
theorem dX10_why_49 : AtA mX10_why 49 0 50 := Or.inr ⟨0, by decide +kernel, rfl, rfl⟩
theorem dX10_why_50 : AtI mX10_why 50 2 51 := Or.inr ⟨2, by decide +kernel, rfl, rfl⟩
theorem dX10_why_51 : AtI mX10_why 51 5 53 := Or.inl ⟨by decide +kernel, rfl⟩
theorem dX10_why_53 : AtV mX10_why 53 mX10_themeOn 2 10 56 := ⟨204, 1181, 1183, 49, (RX10, TX10, 31), by decide +kernel, rfl, rfl, by decide +kernel, by decide +kernel, by decide +kernel, rfl, ⟨⟨1184, by decide +kernel⟩, ⟨63, by decide +kernel⟩, ⟨by decide, by decide⟩, by decide +kernel, by decide, by decide⟩⟩
theorem dX10_why_56 : AtSI mX10_why 56 6 58 := ⟨Or.inl ⟨by decide +kernel, rfl⟩, by decide⟩
theorem dX10_why_58 : AtA mX10_why 58 0 59 := Or.inr ⟨0, by decide +kernel, rfl, rfl⟩
theorem dX10_why_59 : AtI mX10_why 59 6 61 := Or.inl ⟨by decide +kernel, rfl⟩
theorem dX10_why_61 : AtK mX10_why 61 (iZ (-100)) 63 := Or.inr (Or.inl ⟨(-100), by decide +kernel, by decide, rfl⟩)
theorem dX10_why_63 : AtJ mX10_why 63 (.if_icmp .ne) 66 70 := ⟨7, by decide +kernel, rfl, by decide⟩
theorem dX10_why_66 : AtK mX10_why 66 (iZ 3) 67 := Or.inl ⟨3, by decide +kernel, by decide, rfl⟩
theorem dX10_why_67 : AtG mX10_why 67 71 := ⟨4, by decide +kernel, by decide⟩
theorem dX10_why_70 : AtK mX10_why 70 (iZ 0) 71 := Or.inl ⟨0, by decide +kernel, by decide, rfl⟩
theorem dX10_why_71 : AtP mX10_why 71 10 30 (.int) 74 := ⟨86, (RX10, TX10, 31), by decide +kernel, rfl, rfl, by decide, Or.inl ⟨912, by decide +kernel⟩, by decide +kernel, Or.inl rfl⟩
theorem dX10_why_74 : AtA mX10_why 74 0 75 := Or.inr ⟨0, by decide +kernel, rfl, rfl⟩
theorem dX10_why_75 : AtF mX10_why 75 10 30 78 := ⟨86, (RX10, TX10, 31), by decide +kernel, rfl, rfl, by decide, Or.inl (Or.inl ⟨912, by decide +kernel⟩)⟩
theorem dX10_why_78 : AtJ mX10_why 78 (.ifCond .le) 81 85 := ⟨7, by decide +kernel, rfl, by decide⟩
theorem dX10_why_81 : AtK mX10_why 81 (iZ 0) 82 := Or.inl ⟨0, by decide +kernel, by decide, rfl⟩
theorem dX10_why_82 : AtG mX10_why 82 95 := ⟨13, by decide +kernel, by decide⟩
theorem dX10_why_85 : AtA mX10_why 85 0 86 := Or.inr ⟨0, by decide +kernel, rfl, rfl⟩
theorem dX10_why_86 : AtI mX10_why 86 1 87 := Or.inr ⟨1, by decide +kernel, rfl, rfl⟩
theorem dX10_why_87 : AtI mX10_why 87 2 88 := Or.inr ⟨2, by decide +kernel, rfl, rfl⟩
theorem dX10_why_88 : AtI mX10_why 88 5 90 := Or.inl ⟨by decide +kernel, rfl⟩
theorem dX10_why_90 : AtI mX10_why 90 6 92 := Or.inl ⟨by decide +kernel, rfl⟩
theorem dX10_why_92 : AtV mX10_why 92 mX10_reason 4 10 95 := ⟨213, 1189, 1191, 50, (RX10, TX10, 31), by decide +kernel, rfl, rfl, by decide +kernel, by decide +kernel, by decide +kernel, rfl, ⟨⟨1192, by decide +kernel⟩, ⟨63, by decide +kernel⟩, ⟨by decide, by decide⟩, by decide +kernel, by decide, by decide⟩⟩
theorem dX10_why_95 : At mX10_why 95 .ireturn 1 96 := ⟨by decide +kernel, rfl⟩
theorem dX10_times_0 : AtK mX10_times 0 (iZ 0) 1 := Or.inl ⟨0, by decide +kernel, by decide, rfl⟩
theorem dX10_times_1 : AtSI mX10_times 1 2 2 := ⟨Or.inr ⟨2, by decide +kernel, rfl, rfl⟩, by decide⟩
theorem dX10_times_2 : AtK mX10_times 2 (iZ 0) 3 := Or.inl ⟨0, by decide +kernel, by decide, rfl⟩
theorem dX10_times_3 : AtSI mX10_times 3 3 4 := ⟨Or.inr ⟨3, by decide +kernel, rfl, rfl⟩, by decide⟩
theorem dX10_times_4 : AtI mX10_times 4 3 5 := Or.inr ⟨3, by decide +kernel, rfl, rfl⟩
theorem dX10_times_5 : AtA mX10_times 5 0 6 := Or.inr ⟨0, by decide +kernel, rfl, rfl⟩
theorem dX10_times_6 : AtF mX10_times 6 10 25 9 := ⟨207, (RX10, TX10, 31), by decide +kernel, rfl, rfl, by decide, Or.inl (Or.inl ⟨907, by decide +kernel⟩)⟩
theorem dX10_times_9 : AtJ mX10_times 9 (.if_icmp .ge) 12 36 := ⟨27, by decide +kernel, rfl, by decide⟩
theorem dX10_times_12 : AtI mX10_times 12 2 13 := Or.inr ⟨2, by decide +kernel, rfl, rfl⟩
theorem dX10_times_13 : AtA mX10_times 13 0 14 := Or.inr ⟨0, by decide +kernel, rfl, rfl⟩
theorem dX10_times_14 : AtF mX10_times 14 10 26 17 := ⟨74, (RX10, TX10, 31), by decide +kernel, rfl, rfl, by decide, Or.inl (Or.inl ⟨908, by decide +kernel⟩)⟩
theorem dX10_times_17 : AtI mX10_times 17 3 18 := Or.inr ⟨3, by decide +kernel, rfl, rfl⟩
theorem dX10_times_18 : At mX10_times 18 .iaload 1 19 := ⟨by decide +kernel, rfl⟩
theorem dX10_times_19 : AtI mX10_times 19 1 20 := Or.inr ⟨1, by decide +kernel, rfl, rfl⟩
theorem dX10_times_20 : AtJ mX10_times 20 (.if_icmp .ne) 23 27 := ⟨7, by decide +kernel, rfl, by decide⟩
theorem dX10_times_23 : AtK mX10_times 23 (iZ 1) 24 := Or.inl ⟨1, by decide +kernel, by decide, rfl⟩
theorem dX10_times_24 : AtG mX10_times 24 28 := ⟨4, by decide +kernel, by decide⟩
theorem dX10_times_27 : AtK mX10_times 27 (iZ 0) 28 := Or.inl ⟨0, by decide +kernel, by decide, rfl⟩
theorem dX10_times_28 : At mX10_times 28 .iadd 1 29 := ⟨by decide +kernel, rfl⟩
theorem dX10_times_29 : AtSI mX10_times 29 2 30 := ⟨Or.inr ⟨2, by decide +kernel, rfl, rfl⟩, by decide⟩
theorem dX10_times_30 : AtInc mX10_times 30 3 (iZ 1) 33 := ⟨1, by decide +kernel, by decide, rfl, by decide⟩
theorem dX10_times_33 : AtG mX10_times 33 4 := ⟨(-29), by decide +kernel, by decide⟩
theorem dX10_times_36 : AtI mX10_times 36 2 37 := Or.inr ⟨2, by decide +kernel, rfl, rfl⟩
theorem dX10_times_37 : At mX10_times 37 .ireturn 1 38 := ⟨by decide +kernel, rfl⟩
theorem dX10_hymn_0 : AtK mX10_hymn 0 (iZ (-100)) 2 := Or.inr (Or.inl ⟨(-100), by decide +kernel, by decide, rfl⟩)
theorem dX10_hymn_2 : AtSI mX10_hymn 2 4 4 := ⟨Or.inl ⟨by decide +kernel, rfl⟩, by decide⟩
theorem dX10_hymn_4 : AtK mX10_hymn 4 (iZ 0) 5 := Or.inl ⟨0, by decide +kernel, by decide, rfl⟩
theorem dX10_hymn_5 : AtSI mX10_hymn 5 5 7 := ⟨Or.inl ⟨by decide +kernel, rfl⟩, by decide⟩
theorem dX10_hymn_7 : AtK mX10_hymn 7 (iZ 0) 8 := Or.inl ⟨0, by decide +kernel, by decide, rfl⟩
theorem dX10_hymn_8 : AtSI mX10_hymn 8 6 10 := ⟨Or.inl ⟨by decide +kernel, rfl⟩, by decide⟩
theorem dX10_hymn_10 : AtK mX10_hymn 10 (iZ 0) 11 := Or.inl ⟨0, by decide +kernel, by decide, rfl⟩
theorem dX10_hymn_11 : AtSI mX10_hymn 11 7 13 := ⟨Or.inl ⟨by decide +kernel, rfl⟩, by decide⟩
theorem dX10_hymn_13 : AtI mX10_hymn 13 7 15 := Or.inl ⟨by decide +kernel, rfl⟩
theorem dX10_hymn_15 : AtA mX10_hymn 15 0 16 := Or.inr ⟨0, by decide +kernel, rfl, rfl⟩
theorem dX10_hymn_16 : AtF mX10_hymn 16 10 0 19 := ⟨94, (RX10, TX10, 31), by decide +kernel, rfl, rfl, by decide, Or.inl (Or.inl ⟨882, by decide +kernel⟩)⟩
theorem dX10_hymn_19 : AtJ mX10_hymn 19 (.if_icmp .ge) 22 145 := ⟨126, by decide +kernel, rfl, by decide⟩
theorem dX10_hymn_22 : AtA mX10_hymn 22 0 23 := Or.inr ⟨0, by decide +kernel, rfl, rfl⟩
theorem dX10_hymn_23 : AtI mX10_hymn 23 7 25 := Or.inl ⟨by decide +kernel, rfl⟩
theorem dX10_hymn_25 : AtI mX10_hymn 25 1 26 := Or.inr ⟨1, by decide +kernel, rfl, rfl⟩
theorem dX10_hymn_26 : AtI mX10_hymn 26 2 27 := Or.inr ⟨2, by decide +kernel, rfl, rfl⟩
theorem dX10_hymn_27 : AtI mX10_hymn 27 3 28 := Or.inr ⟨3, by decide +kernel, rfl, rfl⟩
theorem dX10_hymn_28 : AtV mX10_hymn 28 mX10_reason 4 10 31 := ⟨213, 1189, 1191, 50, (RX10, TX10, 31), by decide +kernel, rfl, rfl, by decide +kernel, by decide +kernel, by decide +kernel, rfl, ⟨⟨1192, by decide +kernel⟩, ⟨63, by decide +kernel⟩, ⟨by decide, by decide⟩, by decide +kernel, by decide, by decide⟩⟩
theorem dX10_hymn_31 : AtJ mX10_hymn 31 (.ifCond .ne) 34 139 := ⟨108, by decide +kernel, rfl, by decide⟩
theorem dX10_hymn_34 : AtA mX10_hymn 34 0 35 := Or.inr ⟨0, by decide +kernel, rfl, rfl⟩
theorem dX10_hymn_35 : AtI mX10_hymn 35 7 37 := Or.inl ⟨by decide +kernel, rfl⟩
theorem dX10_hymn_37 : AtA mX10_hymn 37 0 38 := Or.inr ⟨0, by decide +kernel, rfl, rfl⟩
theorem dX10_hymn_38 : AtI mX10_hymn 38 7 40 := Or.inl ⟨by decide +kernel, rfl⟩
theorem dX10_hymn_40 : AtK mX10_hymn 40 (iZ 0) 41 := Or.inl ⟨0, by decide +kernel, by decide, rfl⟩
theorem dX10_hymn_41 : AtI mX10_hymn 41 1 42 := Or.inr ⟨1, by decide +kernel, rfl, rfl⟩
theorem dX10_hymn_42 : AtV mX10_hymn 42 mX10_bestOf 3 10 45 := ⟨125, 1035, 1037, 37, (RX10, TX10, 31), by decide +kernel, rfl, rfl, by decide +kernel, by decide +kernel, by decide +kernel, rfl, ⟨⟨1038, by decide +kernel⟩, ⟨63, by decide +kernel⟩, ⟨by decide, by decide⟩, by decide +kernel, by decide, by decide⟩⟩
theorem dX10_hymn_45 : AtV mX10_hymn 45 mX10_clash 2 10 48 := ⟨119, 1027, 1029, 36, (RX10, TX10, 31), by decide +kernel, rfl, rfl, by decide +kernel, by decide +kernel, by decide +kernel, rfl, ⟨⟨1030, by decide +kernel⟩, ⟨63, by decide +kernel⟩, ⟨by decide, by decide⟩, by decide +kernel, by decide, by decide⟩⟩
theorem dX10_hymn_48 : AtSI mX10_hymn 48 8 50 := ⟨Or.inl ⟨by decide +kernel, rfl⟩, by decide⟩
theorem dX10_hymn_50 : AtI mX10_hymn 50 4 52 := Or.inl ⟨by decide +kernel, rfl⟩
theorem dX10_hymn_52 : AtK mX10_hymn 52 (iZ (-100)) 54 := Or.inr (Or.inl ⟨(-100), by decide +kernel, by decide, rfl⟩)
theorem dX10_hymn_54 : AtJ mX10_hymn 54 (.if_icmp .eq) 57 86 := ⟨32, by decide +kernel, rfl, by decide⟩
theorem dX10_hymn_57 : AtA mX10_hymn 57 0 58 := Or.inr ⟨0, by decide +kernel, rfl, rfl⟩
theorem dX10_hymn_58 : AtI mX10_hymn 58 7 60 := Or.inl ⟨by decide +kernel, rfl⟩
theorem dX10_hymn_60 : AtV mX10_hymn 60 mX10_times 1 10 63 := ⟨217, 1209, 1211, 54, (RX10, TX10, 31), by decide +kernel, rfl, rfl, by decide +kernel, by decide +kernel, by decide +kernel, rfl, ⟨⟨1212, by decide +kernel⟩, ⟨63, by decide +kernel⟩, ⟨by decide, by decide⟩, by decide +kernel, by decide, by decide⟩⟩
theorem dX10_hymn_63 : AtI mX10_hymn 63 5 65 := Or.inl ⟨by decide +kernel, rfl⟩
theorem dX10_hymn_65 : AtJ mX10_hymn 65 (.if_icmp .gt) 68 86 := ⟨21, by decide +kernel, rfl, by decide⟩
theorem dX10_hymn_68 : AtA mX10_hymn 68 0 69 := Or.inr ⟨0, by decide +kernel, rfl, rfl⟩
theorem dX10_hymn_69 : AtI mX10_hymn 69 7 71 := Or.inl ⟨by decide +kernel, rfl⟩
theorem dX10_hymn_71 : AtV mX10_hymn 71 mX10_times 1 10 74 := ⟨217, 1209, 1211, 54, (RX10, TX10, 31), by decide +kernel, rfl, rfl, by decide +kernel, by decide +kernel, by decide +kernel, rfl, ⟨⟨1212, by decide +kernel⟩, ⟨63, by decide +kernel⟩, ⟨by decide, by decide⟩, by decide +kernel, by decide, by decide⟩⟩
theorem dX10_hymn_74 : AtI mX10_hymn 74 5 76 := Or.inl ⟨by decide +kernel, rfl⟩
theorem dX10_hymn_76 : AtJ mX10_hymn 76 (.if_icmp .ne) 79 90 := ⟨14, by decide +kernel, rfl, by decide⟩
theorem dX10_hymn_79 : AtI mX10_hymn 79 8 81 := Or.inl ⟨by decide +kernel, rfl⟩
theorem dX10_hymn_81 : AtI mX10_hymn 81 6 83 := Or.inl ⟨by decide +kernel, rfl⟩
theorem dX10_hymn_83 : AtJ mX10_hymn 83 (.if_icmp .ge) 86 90 := ⟨7, by decide +kernel, rfl, by decide⟩
theorem dX10_hymn_86 : AtK mX10_hymn 86 (iZ 1) 87 := Or.inl ⟨1, by decide +kernel, by decide, rfl⟩
theorem dX10_hymn_87 : AtG mX10_hymn 87 91 := ⟨4, by decide +kernel, by decide⟩
theorem dX10_hymn_90 : AtK mX10_hymn 90 (iZ 0) 91 := Or.inl ⟨0, by decide +kernel, by decide, rfl⟩
theorem dX10_hymn_91 : AtSI mX10_hymn 91 9 93 := ⟨Or.inl ⟨by decide +kernel, rfl⟩, by decide⟩
theorem dX10_hymn_93 : AtI mX10_hymn 93 9 95 := Or.inl ⟨by decide +kernel, rfl⟩
theorem dX10_hymn_95 : AtJ mX10_hymn 95 (.ifCond .eq) 98 103 := ⟨8, by decide +kernel, rfl, by decide⟩
theorem dX10_hymn_98 : AtI mX10_hymn 98 7 100 := Or.inl ⟨by decide +kernel, rfl⟩
theorem dX10_hymn_100 : AtG mX10_hymn 100 105 := ⟨5, by decide +kernel, by decide⟩
theorem dX10_hymn_103 : AtI mX10_hymn 103 4 105 := Or.inl ⟨by decide +kernel, rfl⟩
theorem dX10_hymn_105 : AtSI mX10_hymn 105 4 107 := ⟨Or.inl ⟨by decide +kernel, rfl⟩, by decide⟩
theorem dX10_hymn_107 : AtI mX10_hymn 107 9 109 := Or.inl ⟨by decide +kernel, rfl⟩
theorem dX10_hymn_109 : AtJ mX10_hymn 109 (.ifCond .eq) 112 121 := ⟨12, by decide +kernel, rfl, by decide⟩
theorem dX10_hymn_112 : AtA mX10_hymn 112 0 113 := Or.inr ⟨0, by decide +kernel, rfl, rfl⟩
theorem dX10_hymn_113 : AtI mX10_hymn 113 7 115 := Or.inl ⟨by decide +kernel, rfl⟩
theorem dX10_hymn_115 : AtV mX10_hymn 115 mX10_times 1 10 118 := ⟨217, 1209, 1211, 54, (RX10, TX10, 31), by decide +kernel, rfl, rfl, by decide +kernel, by decide +kernel, by decide +kernel, rfl, ⟨⟨1212, by decide +kernel⟩, ⟨63, by decide +kernel⟩, ⟨by decide, by decide⟩, by decide +kernel, by decide, by decide⟩⟩
theorem dX10_hymn_118 : AtG mX10_hymn 118 123 := ⟨5, by decide +kernel, by decide⟩
theorem dX10_hymn_121 : AtI mX10_hymn 121 5 123 := Or.inl ⟨by decide +kernel, rfl⟩
theorem dX10_hymn_123 : AtSI mX10_hymn 123 5 125 := ⟨Or.inl ⟨by decide +kernel, rfl⟩, by decide⟩
theorem dX10_hymn_125 : AtI mX10_hymn 125 9 127 := Or.inl ⟨by decide +kernel, rfl⟩
theorem dX10_hymn_127 : AtJ mX10_hymn 127 (.ifCond .eq) 130 135 := ⟨8, by decide +kernel, rfl, by decide⟩
theorem dX10_hymn_130 : AtI mX10_hymn 130 8 132 := Or.inl ⟨by decide +kernel, rfl⟩
theorem dX10_hymn_132 : AtG mX10_hymn 132 137 := ⟨5, by decide +kernel, by decide⟩
theorem dX10_hymn_135 : AtI mX10_hymn 135 6 137 := Or.inl ⟨by decide +kernel, rfl⟩
theorem dX10_hymn_137 : AtSI mX10_hymn 137 6 139 := ⟨Or.inl ⟨by decide +kernel, rfl⟩, by decide⟩
theorem dX10_hymn_139 : AtInc mX10_hymn 139 7 (iZ 1) 142 := ⟨1, by decide +kernel, by decide, rfl, by decide⟩
theorem dX10_hymn_142 : AtG mX10_hymn 142 13 := ⟨(-129), by decide +kernel, by decide⟩
theorem dX10_hymn_145 : AtI mX10_hymn 145 4 147 := Or.inl ⟨by decide +kernel, rfl⟩
theorem dX10_hymn_147 : At mX10_hymn 147 .ireturn 1 148 := ⟨by decide +kernel, rfl⟩
theorem dX10_isLater_0 : AtA mX10_isLater 0 0 1 := Or.inr ⟨0, by decide +kernel, rfl, rfl⟩
theorem dX10_isLater_1 : AtF mX10_isLater 1 10 25 4 := ⟨207, (RX10, TX10, 31), by decide +kernel, rfl, rfl, by decide, Or.inl (Or.inl ⟨907, by decide +kernel⟩)⟩
theorem dX10_isLater_4 : AtJ mX10_isLater 4 (.ifCond .eq) 7 52 := ⟨48, by decide +kernel, rfl, by decide⟩
theorem dX10_isLater_7 : AtI mX10_isLater 7 1 8 := Or.inr ⟨1, by decide +kernel, rfl, rfl⟩
theorem dX10_isLater_8 : AtA mX10_isLater 8 0 9 := Or.inr ⟨0, by decide +kernel, rfl, rfl⟩
theorem dX10_isLater_9 : AtF mX10_isLater 9 10 28 12 := ⟨80, (RX10, TX10, 31), by decide +kernel, rfl, rfl, by decide, Or.inl (Or.inl ⟨910, by decide +kernel⟩)⟩
theorem dX10_isLater_12 : AtA mX10_isLater 12 0 13 := Or.inr ⟨0, by decide +kernel, rfl, rfl⟩
theorem dX10_isLater_13 : AtF mX10_isLater 13 10 25 16 := ⟨207, (RX10, TX10, 31), by decide +kernel, rfl, rfl, by decide, Or.inl (Or.inl ⟨907, by decide +kernel⟩)⟩
theorem dX10_isLater_16 : AtK mX10_isLater 16 (iZ 1) 17 := Or.inl ⟨1, by decide +kernel, by decide, rfl⟩
theorem dX10_isLater_17 : At mX10_isLater 17 .isub 1 18 := ⟨by decide +kernel, rfl⟩
theorem dX10_isLater_18 : At mX10_isLater 18 .iaload 1 19 := ⟨by decide +kernel, rfl⟩
theorem dX10_isLater_19 : AtJ mX10_isLater 19 (.if_icmp .gt) 22 52 := ⟨33, by decide +kernel, rfl, by decide⟩
theorem dX10_isLater_22 : AtI mX10_isLater 22 1 23 := Or.inr ⟨1, by decide +kernel, rfl, rfl⟩
theorem dX10_isLater_23 : AtA mX10_isLater 23 0 24 := Or.inr ⟨0, by decide +kernel, rfl, rfl⟩
theorem dX10_isLater_24 : AtF mX10_isLater 24 10 28 27 := ⟨80, (RX10, TX10, 31), by decide +kernel, rfl, rfl, by decide, Or.inl (Or.inl ⟨910, by decide +kernel⟩)⟩
theorem dX10_isLater_27 : AtA mX10_isLater 27 0 28 := Or.inr ⟨0, by decide +kernel, rfl, rfl⟩
theorem dX10_isLater_28 : AtF mX10_isLater 28 10 25 31 := ⟨207, (RX10, TX10, 31), by decide +kernel, rfl, rfl, by decide, Or.inl (Or.inl ⟨907, by decide +kernel⟩)⟩
theorem dX10_isLater_31 : AtK mX10_isLater 31 (iZ 1) 32 := Or.inl ⟨1, by decide +kernel, by decide, rfl⟩
theorem dX10_isLater_32 : At mX10_isLater 32 .isub 1 33 := ⟨by decide +kernel, rfl⟩
theorem dX10_isLater_33 : At mX10_isLater 33 .iaload 1 34 := ⟨by decide +kernel, rfl⟩
theorem dX10_isLater_34 : AtJ mX10_isLater 34 (.if_icmp .ne) 37 56 := ⟨22, by decide +kernel, rfl, by decide⟩
theorem dX10_isLater_37 : AtI mX10_isLater 37 2 38 := Or.inr ⟨2, by decide +kernel, rfl, rfl⟩
theorem dX10_isLater_38 : AtA mX10_isLater 38 0 39 := Or.inr ⟨0, by decide +kernel, rfl, rfl⟩
theorem dX10_isLater_39 : AtF mX10_isLater 39 10 29 42 := ⟨83, (RX10, TX10, 31), by decide +kernel, rfl, rfl, by decide, Or.inl (Or.inl ⟨911, by decide +kernel⟩)⟩
theorem dX10_isLater_42 : AtA mX10_isLater 42 0 43 := Or.inr ⟨0, by decide +kernel, rfl, rfl⟩
theorem dX10_isLater_43 : AtF mX10_isLater 43 10 25 46 := ⟨207, (RX10, TX10, 31), by decide +kernel, rfl, rfl, by decide, Or.inl (Or.inl ⟨907, by decide +kernel⟩)⟩
theorem dX10_isLater_46 : AtK mX10_isLater 46 (iZ 1) 47 := Or.inl ⟨1, by decide +kernel, by decide, rfl⟩
theorem dX10_isLater_47 : At mX10_isLater 47 .isub 1 48 := ⟨by decide +kernel, rfl⟩
theorem dX10_isLater_48 : At mX10_isLater 48 .iaload 1 49 := ⟨by decide +kernel, rfl⟩
theorem dX10_isLater_49 : AtJ mX10_isLater 49 (.if_icmp .le) 52 56 := ⟨7, by decide +kernel, rfl, by decide⟩
theorem dX10_isLater_52 : AtK mX10_isLater 52 (iZ 1) 53 := Or.inl ⟨1, by decide +kernel, by decide, rfl⟩
theorem dX10_isLater_53 : AtG mX10_isLater 53 57 := ⟨4, by decide +kernel, by decide⟩
theorem dX10_isLater_56 : AtK mX10_isLater 56 (iZ 0) 57 := Or.inl ⟨0, by decide +kernel, by decide, rfl⟩
theorem dX10_isLater_57 : At mX10_isLater 57 .ireturn 1 58 := ⟨by decide +kernel, rfl⟩
theorem dX10_sing_0 : AtA mX10_sing 0 0 1 := Or.inr ⟨0, by decide +kernel, rfl, rfl⟩
theorem dX10_sing_1 : AtI mX10_sing 1 1 2 := Or.inr ⟨1, by decide +kernel, rfl, rfl⟩
theorem dX10_sing_2 : AtI mX10_sing 2 2 3 := Or.inr ⟨2, by decide +kernel, rfl, rfl⟩
theorem dX10_sing_3 : AtI mX10_sing 3 3 4 := Or.inr ⟨3, by decide +kernel, rfl, rfl⟩
theorem dX10_sing_4 : AtS mX10_sing 4 mX10_isDay 3 7 := ⟨152, 1089, 1090, by decide +kernel, rfl, by decide +kernel, by decide +kernel, rfl, ⟨⟨1091, by decide +kernel⟩, ⟨63, by decide +kernel⟩, ⟨by decide, by decide⟩, by decide +kernel, by decide, by decide⟩⟩
theorem dX10_sing_7 : AtJ mX10_sing 7 (.ifCond .eq) 10 14 := ⟨7, by decide +kernel, rfl, by decide⟩
theorem dX10_sing_10 : AtK mX10_sing 10 (iZ 0) 11 := Or.inl ⟨0, by decide +kernel, by decide, rfl⟩
theorem dX10_sing_11 : AtG mX10_sing 11 15 := ⟨4, by decide +kernel, by decide⟩
theorem dX10_sing_14 : AtK mX10_sing 14 (iZ 1) 15 := Or.inl ⟨1, by decide +kernel, by decide, rfl⟩
theorem dX10_sing_15 : AtP mX10_sing 15 10 30 (.int) 18 := ⟨86, (RX10, TX10, 31), by decide +kernel, rfl, rfl, by decide, Or.inl ⟨912, by decide +kernel⟩, by decide +kernel, Or.inl rfl⟩
theorem dX10_sing_18 : AtA mX10_sing 18 0 19 := Or.inr ⟨0, by decide +kernel, rfl, rfl⟩
theorem dX10_sing_19 : AtF mX10_sing 19 10 30 22 := ⟨86, (RX10, TX10, 31), by decide +kernel, rfl, rfl, by decide, Or.inl (Or.inl ⟨912, by decide +kernel⟩)⟩
theorem dX10_sing_22 : AtJ mX10_sing 22 (.ifCond .le) 25 27 := ⟨5, by decide +kernel, rfl, by decide⟩
theorem dX10_sing_25 : AtK mX10_sing 25 (iZ 0) 26 := Or.inl ⟨0, by decide +kernel, by decide, rfl⟩
theorem dX10_sing_26 : At mX10_sing 26 .ireturn 1 27 := ⟨by decide +kernel, rfl⟩
theorem dX10_sing_27 : AtI mX10_sing 27 1 28 := Or.inr ⟨1, by decide +kernel, rfl, rfl⟩
theorem dX10_sing_28 : AtI mX10_sing 28 2 29 := Or.inr ⟨2, by decide +kernel, rfl, rfl⟩
theorem dX10_sing_29 : AtI mX10_sing 29 3 30 := Or.inr ⟨3, by decide +kernel, rfl, rfl⟩
theorem dX10_sing_30 : AtS mX10_sing 30 mX10_placeOf 3 33 := ⟨155, 1098, 1099, by decide +kernel, rfl, by decide +kernel, by decide +kernel, rfl, ⟨⟨1100, by decide +kernel⟩, ⟨63, by decide +kernel⟩, ⟨by decide, by decide⟩, by decide +kernel, by decide, by decide⟩⟩
theorem dX10_sing_33 : AtSI mX10_sing 33 4 35 := ⟨Or.inl ⟨by decide +kernel, rfl⟩, by decide⟩
theorem dX10_sing_35 : AtA mX10_sing 35 0 36 := Or.inr ⟨0, by decide +kernel, rfl, rfl⟩
theorem dX10_sing_36 : AtI mX10_sing 36 1 37 := Or.inr ⟨1, by decide +kernel, rfl, rfl⟩
theorem dX10_sing_37 : AtI mX10_sing 37 4 39 := Or.inl ⟨by decide +kernel, rfl⟩
theorem dX10_sing_39 : AtV mX10_sing 39 mX10_themeOn 2 10 42 := ⟨204, 1181, 1183, 49, (RX10, TX10, 31), by decide +kernel, rfl, rfl, by decide +kernel, by decide +kernel, by decide +kernel, rfl, ⟨⟨1184, by decide +kernel⟩, ⟨63, by decide +kernel⟩, ⟨by decide, by decide⟩, by decide +kernel, by decide, by decide⟩⟩
theorem dX10_sing_42 : AtSI mX10_sing 42 5 44 := ⟨Or.inl ⟨by decide +kernel, rfl⟩, by decide⟩
theorem dX10_sing_44 : AtI mX10_sing 44 5 46 := Or.inl ⟨by decide +kernel, rfl⟩
theorem dX10_sing_46 : AtK mX10_sing 46 (iZ (-100)) 48 := Or.inr (Or.inl ⟨(-100), by decide +kernel, by decide, rfl⟩)
theorem dX10_sing_48 : AtJ mX10_sing 48 (.if_icmp .eq) 51 70 := ⟨22, by decide +kernel, rfl, by decide⟩
theorem dX10_sing_51 : AtA mX10_sing 51 0 52 := Or.inr ⟨0, by decide +kernel, rfl, rfl⟩
theorem dX10_sing_52 : AtF mX10_sing 52 10 25 55 := ⟨207, (RX10, TX10, 31), by decide +kernel, rfl, rfl, by decide, Or.inl (Or.inl ⟨907, by decide +kernel⟩)⟩
theorem dX10_sing_55 : AtK mX10_sing 55 (iZ 60) 57 := Or.inr (Or.inl ⟨60, by decide +kernel, by decide, rfl⟩)
theorem dX10_sing_57 : AtJ mX10_sing 57 (.if_icmp .eq) 60 70 := ⟨13, by decide +kernel, rfl, by decide⟩
theorem dX10_sing_60 : AtA mX10_sing 60 0 61 := Or.inr ⟨0, by decide +kernel, rfl, rfl⟩
theorem dX10_sing_61 : AtI mX10_sing 61 1 62 := Or.inr ⟨1, by decide +kernel, rfl, rfl⟩
theorem dX10_sing_62 : AtI mX10_sing 62 4 64 := Or.inl ⟨by decide +kernel, rfl⟩
theorem dX10_sing_64 : AtV mX10_sing 64 mX10_isLater 2 10 67 := ⟨220, 1201, 1203, 52, (RX10, TX10, 31), by decide +kernel, rfl, rfl, by decide +kernel, by decide +kernel, by decide +kernel, rfl, ⟨⟨1204, by decide +kernel⟩, ⟨63, by decide +kernel⟩, ⟨by decide, by decide⟩, by decide +kernel, by decide, by decide⟩⟩
theorem dX10_sing_67 : AtJ mX10_sing 67 (.ifCond .ne) 70 75 := ⟨8, by decide +kernel, rfl, by decide⟩
theorem dX10_sing_70 : AtK mX10_sing 70 (iZ (-100)) 72 := Or.inr (Or.inl ⟨(-100), by decide +kernel, by decide, rfl⟩)
theorem dX10_sing_72 : AtG mX10_sing 72 84 := ⟨12, by decide +kernel, by decide⟩
theorem dX10_sing_75 : AtA mX10_sing 75 0 76 := Or.inr ⟨0, by decide +kernel, rfl, rfl⟩
theorem dX10_sing_76 : AtI mX10_sing 76 1 77 := Or.inr ⟨1, by decide +kernel, rfl, rfl⟩
theorem dX10_sing_77 : AtI mX10_sing 77 4 79 := Or.inl ⟨by decide +kernel, rfl⟩
theorem dX10_sing_79 : AtI mX10_sing 79 5 81 := Or.inl ⟨by decide +kernel, rfl⟩
theorem dX10_sing_81 : AtV mX10_sing 81 mX10_hymn 3 10 84 := ⟨223, 1205, 1207, 53, (RX10, TX10, 31), by decide +kernel, rfl, rfl, by decide +kernel, by decide +kernel, by decide +kernel, rfl, ⟨⟨1208, by decide +kernel⟩, ⟨63, by decide +kernel⟩, ⟨by decide, by decide⟩, by decide +kernel, by decide, by decide⟩⟩
theorem dX10_sing_84 : AtSI mX10_sing 84 6 86 := ⟨Or.inl ⟨by decide +kernel, rfl⟩, by decide⟩
theorem dX10_sing_86 : AtA mX10_sing 86 0 87 := Or.inr ⟨0, by decide +kernel, rfl, rfl⟩
theorem dX10_sing_87 : AtI mX10_sing 87 6 89 := Or.inl ⟨by decide +kernel, rfl⟩
theorem dX10_sing_89 : AtK mX10_sing 89 (iZ (-100)) 91 := Or.inr (Or.inl ⟨(-100), by decide +kernel, by decide, rfl⟩)
theorem dX10_sing_91 : AtJ mX10_sing 91 (.if_icmp .ne) 94 98 := ⟨7, by decide +kernel, rfl, by decide⟩
theorem dX10_sing_94 : AtK mX10_sing 94 (iZ 2) 95 := Or.inl ⟨2, by decide +kernel, by decide, rfl⟩
theorem dX10_sing_95 : AtG mX10_sing 95 99 := ⟨4, by decide +kernel, by decide⟩
theorem dX10_sing_98 : AtK mX10_sing 98 (iZ 0) 99 := Or.inl ⟨0, by decide +kernel, by decide, rfl⟩
theorem dX10_sing_99 : AtP mX10_sing 99 10 30 (.int) 102 := ⟨86, (RX10, TX10, 31), by decide +kernel, rfl, rfl, by decide, Or.inl ⟨912, by decide +kernel⟩, by decide +kernel, Or.inl rfl⟩
theorem dX10_sing_102 : AtA mX10_sing 102 0 103 := Or.inr ⟨0, by decide +kernel, rfl, rfl⟩
theorem dX10_sing_103 : AtF mX10_sing 103 10 30 106 := ⟨86, (RX10, TX10, 31), by decide +kernel, rfl, rfl, by decide, Or.inl (Or.inl ⟨912, by decide +kernel⟩)⟩
theorem dX10_sing_106 : AtJ mX10_sing 106 (.ifCond .le) 109 111 := ⟨5, by decide +kernel, rfl, by decide⟩
theorem dX10_sing_109 : AtK mX10_sing 109 (iZ 0) 110 := Or.inl ⟨0, by decide +kernel, by decide, rfl⟩
theorem dX10_sing_110 : At mX10_sing 110 .ireturn 1 111 := ⟨by decide +kernel, rfl⟩
theorem dX10_sing_111 : AtA mX10_sing 111 0 112 := Or.inr ⟨0, by decide +kernel, rfl, rfl⟩
theorem dX10_sing_112 : AtF mX10_sing 112 10 26 115 := ⟨74, (RX10, TX10, 31), by decide +kernel, rfl, rfl, by decide, Or.inl (Or.inl ⟨908, by decide +kernel⟩)⟩
theorem dX10_sing_115 : AtA mX10_sing 115 0 116 := Or.inr ⟨0, by decide +kernel, rfl, rfl⟩
theorem dX10_sing_116 : AtF mX10_sing 116 10 25 119 := ⟨207, (RX10, TX10, 31), by decide +kernel, rfl, rfl, by decide, Or.inl (Or.inl ⟨907, by decide +kernel⟩)⟩
theorem dX10_sing_119 : AtI mX10_sing 119 6 121 := Or.inl ⟨by decide +kernel, rfl⟩
theorem dX10_sing_121 : At mX10_sing 121 .iastore 1 122 := ⟨by decide +kernel, rfl⟩
theorem dX10_sing_122 : AtA mX10_sing 122 0 123 := Or.inr ⟨0, by decide +kernel, rfl, rfl⟩
theorem dX10_sing_123 : AtF mX10_sing 123 10 27 126 := ⟨77, (RX10, TX10, 31), by decide +kernel, rfl, rfl, by decide, Or.inl (Or.inl ⟨909, by decide +kernel⟩)⟩
theorem dX10_sing_126 : AtA mX10_sing 126 0 127 := Or.inr ⟨0, by decide +kernel, rfl, rfl⟩
theorem dX10_sing_127 : AtF mX10_sing 127 10 25 130 := ⟨207, (RX10, TX10, 31), by decide +kernel, rfl, rfl, by decide, Or.inl (Or.inl ⟨907, by decide +kernel⟩)⟩
theorem dX10_sing_130 : AtA mX10_sing 130 0 131 := Or.inr ⟨0, by decide +kernel, rfl, rfl⟩
theorem dX10_sing_131 : AtI mX10_sing 131 6 133 := Or.inl ⟨by decide +kernel, rfl⟩
theorem dX10_sing_133 : AtK mX10_sing 133 (iZ 0) 134 := Or.inl ⟨0, by decide +kernel, by decide, rfl⟩
theorem dX10_sing_134 : AtI mX10_sing 134 1 135 := Or.inr ⟨1, by decide +kernel, rfl, rfl⟩
theorem dX10_sing_135 : AtV mX10_sing 135 mX10_bestOf 3 10 138 := ⟨125, 1035, 1037, 37, (RX10, TX10, 31), by decide +kernel, rfl, rfl, by decide +kernel, by decide +kernel, by decide +kernel, rfl, ⟨⟨1038, by decide +kernel⟩, ⟨63, by decide +kernel⟩, ⟨by decide, by decide⟩, by decide +kernel, by decide, by decide⟩⟩
theorem dX10_sing_138 : At mX10_sing 138 .iastore 1 139 := ⟨by decide +kernel, rfl⟩
theorem dX10_sing_139 : AtA mX10_sing 139 0 140 := Or.inr ⟨0, by decide +kernel, rfl, rfl⟩
theorem dX10_sing_140 : AtF mX10_sing 140 10 28 143 := ⟨80, (RX10, TX10, 31), by decide +kernel, rfl, rfl, by decide, Or.inl (Or.inl ⟨910, by decide +kernel⟩)⟩
theorem dX10_sing_143 : AtA mX10_sing 143 0 144 := Or.inr ⟨0, by decide +kernel, rfl, rfl⟩
theorem dX10_sing_144 : AtF mX10_sing 144 10 25 147 := ⟨207, (RX10, TX10, 31), by decide +kernel, rfl, rfl, by decide, Or.inl (Or.inl ⟨907, by decide +kernel⟩)⟩
theorem dX10_sing_147 : AtI mX10_sing 147 1 148 := Or.inr ⟨1, by decide +kernel, rfl, rfl⟩
theorem dX10_sing_148 : At mX10_sing 148 .iastore 1 149 := ⟨by decide +kernel, rfl⟩
theorem dX10_sing_149 : AtA mX10_sing 149 0 150 := Or.inr ⟨0, by decide +kernel, rfl, rfl⟩
theorem dX10_sing_150 : AtF mX10_sing 150 10 29 153 := ⟨83, (RX10, TX10, 31), by decide +kernel, rfl, rfl, by decide, Or.inl (Or.inl ⟨911, by decide +kernel⟩)⟩
theorem dX10_sing_153 : AtA mX10_sing 153 0 154 := Or.inr ⟨0, by decide +kernel, rfl, rfl⟩
theorem dX10_sing_154 : AtF mX10_sing 154 10 25 157 := ⟨207, (RX10, TX10, 31), by decide +kernel, rfl, rfl, by decide, Or.inl (Or.inl ⟨907, by decide +kernel⟩)⟩
theorem dX10_sing_157 : AtI mX10_sing 157 4 159 := Or.inl ⟨by decide +kernel, rfl⟩
theorem dX10_sing_159 : At mX10_sing 159 .iastore 1 160 := ⟨by decide +kernel, rfl⟩
theorem dX10_sing_160 : AtA mX10_sing 160 0 161 := Or.inr ⟨0, by decide +kernel, rfl, rfl⟩
theorem dX10_sing_161 : At mX10_sing 161 .dup 1 162 := ⟨by decide +kernel, rfl⟩
theorem dX10_sing_162 : AtF mX10_sing 162 10 25 165 := ⟨207, (RX10, TX10, 31), by decide +kernel, rfl, rfl, by decide, Or.inl (Or.inl ⟨907, by decide +kernel⟩)⟩
theorem dX10_sing_165 : AtK mX10_sing 165 (iZ 1) 166 := Or.inl ⟨1, by decide +kernel, by decide, rfl⟩
theorem dX10_sing_166 : At mX10_sing 166 .iadd 1 167 := ⟨by decide +kernel, rfl⟩
theorem dX10_sing_167 : AtP mX10_sing 167 10 25 (.int) 170 := ⟨207, (RX10, TX10, 31), by decide +kernel, rfl, rfl, by decide, Or.inl ⟨907, by decide +kernel⟩, by decide +kernel, Or.inl rfl⟩
theorem dX10_sing_170 : AtI mX10_sing 170 6 172 := Or.inl ⟨by decide +kernel, rfl⟩
theorem dX10_sing_172 : At mX10_sing 172 .ireturn 1 173 := ⟨by decide +kernel, rfl⟩
theorem dX10_service_0 : AtA mX10_service 0 0 1 := Or.inr ⟨0, by decide +kernel, rfl, rfl⟩
theorem dX10_service_1 : AtI mX10_service 1 1 2 := Or.inr ⟨1, by decide +kernel, rfl, rfl⟩
theorem dX10_service_2 : AtK mX10_service 2 (iZ 0) 3 := Or.inl ⟨0, by decide +kernel, by decide, rfl⟩
theorem dX10_service_3 : AtA mX10_service 3 0 4 := Or.inr ⟨0, by decide +kernel, rfl, rfl⟩
theorem dX10_service_4 : AtF mX10_service 4 10 25 7 := ⟨207, (RX10, TX10, 31), by decide +kernel, rfl, rfl, by decide, Or.inl (Or.inl ⟨907, by decide +kernel⟩)⟩
theorem dX10_service_7 : AtK mX10_service 7 (iZ 1) 8 := Or.inl ⟨1, by decide +kernel, by decide, rfl⟩
theorem dX10_service_8 : At mX10_service 8 .isub 1 9 := ⟨by decide +kernel, rfl⟩
theorem dX10_service_9 : AtS mX10_service 9 mX10_isIn 3 12 := ⟨90, 988, 989, by decide +kernel, rfl, by decide +kernel, by decide +kernel, rfl, ⟨⟨990, by decide +kernel⟩, ⟨63, by decide +kernel⟩, ⟨by decide, by decide⟩, by decide +kernel, by decide, by decide⟩⟩
theorem dX10_service_12 : AtJ mX10_service 12 (.ifCond .ne) 15 19 := ⟨7, by decide +kernel, rfl, by decide⟩
theorem dX10_service_15 : AtK mX10_service 15 (iZ 1) 16 := Or.inl ⟨1, by decide +kernel, by decide, rfl⟩
theorem dX10_service_16 : AtG mX10_service 16 33 := ⟨17, by decide +kernel, by decide⟩
theorem dX10_service_19 : AtI mX10_service 19 2 20 := Or.inr ⟨2, by decide +kernel, rfl, rfl⟩
theorem dX10_service_20 : AtK mX10_service 20 (iZ 0) 21 := Or.inl ⟨0, by decide +kernel, by decide, rfl⟩
theorem dX10_service_21 : AtK mX10_service 21 (iZ 4) 22 := Or.inl ⟨4, by decide +kernel, by decide, rfl⟩
theorem dX10_service_22 : AtS mX10_service 22 mX10_isIn 3 25 := ⟨90, 988, 989, by decide +kernel, rfl, by decide +kernel, by decide +kernel, rfl, ⟨⟨990, by decide +kernel⟩, ⟨63, by decide +kernel⟩, ⟨by decide, by decide⟩, by decide +kernel, by decide, by decide⟩⟩
theorem dX10_service_25 : AtJ mX10_service 25 (.ifCond .ne) 28 32 := ⟨7, by decide +kernel, rfl, by decide⟩
theorem dX10_service_28 : AtK mX10_service 28 (iZ 2) 29 := Or.inl ⟨2, by decide +kernel, by decide, rfl⟩
theorem dX10_service_29 : AtG mX10_service 29 33 := ⟨4, by decide +kernel, by decide⟩
theorem dX10_service_32 : AtK mX10_service 32 (iZ 0) 33 := Or.inl ⟨0, by decide +kernel, by decide, rfl⟩
theorem dX10_service_33 : AtP mX10_service 33 10 30 (.int) 36 := ⟨86, (RX10, TX10, 31), by decide +kernel, rfl, rfl, by decide, Or.inl ⟨912, by decide +kernel⟩, by decide +kernel, Or.inl rfl⟩
theorem dX10_service_36 : AtA mX10_service 36 0 37 := Or.inr ⟨0, by decide +kernel, rfl, rfl⟩
theorem dX10_service_37 : AtF mX10_service 37 10 30 40 := ⟨86, (RX10, TX10, 31), by decide +kernel, rfl, rfl, by decide, Or.inl (Or.inl ⟨912, by decide +kernel⟩)⟩
theorem dX10_service_40 : AtJ mX10_service 40 (.ifCond .le) 43 45 := ⟨5, by decide +kernel, rfl, by decide⟩
theorem dX10_service_43 : AtK mX10_service 43 (iZ 0) 44 := Or.inl ⟨0, by decide +kernel, by decide, rfl⟩
theorem dX10_service_44 : At mX10_service 44 .ireturn 1 45 := ⟨by decide +kernel, rfl⟩
theorem dX10_service_45 : AtA mX10_service 45 0 46 := Or.inr ⟨0, by decide +kernel, rfl, rfl⟩
theorem dX10_service_46 : AtF mX10_service 46 10 26 49 := ⟨74, (RX10, TX10, 31), by decide +kernel, rfl, rfl, by decide, Or.inl (Or.inl ⟨908, by decide +kernel⟩)⟩
theorem dX10_service_49 : AtI mX10_service 49 1 50 := Or.inr ⟨1, by decide +kernel, rfl, rfl⟩
theorem dX10_service_50 : At mX10_service 50 .iaload 1 51 := ⟨by decide +kernel, rfl⟩
theorem dX10_service_51 : AtSI mX10_service 51 3 52 := ⟨Or.inr ⟨3, by decide +kernel, rfl, rfl⟩, by decide⟩
theorem dX10_service_52 : AtA mX10_service 52 0 53 := Or.inr ⟨0, by decide +kernel, rfl, rfl⟩
theorem dX10_service_53 : AtF mX10_service 53 10 27 56 := ⟨77, (RX10, TX10, 31), by decide +kernel, rfl, rfl, by decide, Or.inl (Or.inl ⟨909, by decide +kernel⟩)⟩
theorem dX10_service_56 : AtI mX10_service 56 1 57 := Or.inr ⟨1, by decide +kernel, rfl, rfl⟩
theorem dX10_service_57 : At mX10_service 57 .iaload 1 58 := ⟨by decide +kernel, rfl⟩
theorem dX10_service_58 : AtSI mX10_service 58 4 60 := ⟨Or.inl ⟨by decide +kernel, rfl⟩, by decide⟩
theorem dX10_service_60 : AtI mX10_service 60 2 61 := Or.inr ⟨2, by decide +kernel, rfl, rfl⟩
theorem dX10_service_92 : AtI mX10_service 92 3 93 := Or.inr ⟨3, by decide +kernel, rfl, rfl⟩
theorem dX10_service_93 : At mX10_service 93 .ireturn 1 94 := ⟨by decide +kernel, rfl⟩
theorem dX10_service_94 : AtI mX10_service 94 4 96 := Or.inl ⟨by decide +kernel, rfl⟩
theorem dX10_service_96 : At mX10_service 96 .ireturn 1 97 := ⟨by decide +kernel, rfl⟩
theorem dX10_service_97 : AtA mX10_service 97 0 98 := Or.inr ⟨0, by decide +kernel, rfl, rfl⟩
theorem dX10_service_98 : AtF mX10_service 98 10 28 101 := ⟨80, (RX10, TX10, 31), by decide +kernel, rfl, rfl, by decide, Or.inl (Or.inl ⟨910, by decide +kernel⟩)⟩
theorem dX10_service_101 : AtI mX10_service 101 1 102 := Or.inr ⟨1, by decide +kernel, rfl, rfl⟩
theorem dX10_service_102 : At mX10_service 102 .iaload 1 103 := ⟨by decide +kernel, rfl⟩
theorem dX10_service_103 : At mX10_service 103 .ireturn 1 104 := ⟨by decide +kernel, rfl⟩
theorem dX10_service_104 : AtA mX10_service 104 0 105 := Or.inr ⟨0, by decide +kernel, rfl, rfl⟩
theorem dX10_service_105 : AtF mX10_service 105 10 28 108 := ⟨80, (RX10, TX10, 31), by decide +kernel, rfl, rfl, by decide, Or.inl (Or.inl ⟨910, by decide +kernel⟩)⟩
theorem dX10_service_108 : AtI mX10_service 108 1 109 := Or.inr ⟨1, by decide +kernel, rfl, rfl⟩
theorem dX10_service_109 : At mX10_service 109 .iaload 1 110 := ⟨by decide +kernel, rfl⟩
theorem dX10_service_110 : AtA mX10_service 110 0 111 := Or.inr ⟨0, by decide +kernel, rfl, rfl⟩
theorem dX10_service_111 : AtF mX10_service 111 10 29 114 := ⟨83, (RX10, TX10, 31), by decide +kernel, rfl, rfl, by decide, Or.inl (Or.inl ⟨911, by decide +kernel⟩)⟩
theorem dX10_service_114 : AtI mX10_service 114 1 115 := Or.inr ⟨1, by decide +kernel, rfl, rfl⟩
theorem dX10_service_115 : At mX10_service 115 .iaload 1 116 := ⟨by decide +kernel, rfl⟩
theorem dX10_service_116 : AtS mX10_service 116 mX10_dateOf 2 119 := ⟨198, 1170, 1171, by decide +kernel, rfl, by decide +kernel, by decide +kernel, rfl, ⟨⟨1172, by decide +kernel⟩, ⟨63, by decide +kernel⟩, ⟨by decide, by decide⟩, by decide +kernel, by decide, by decide⟩⟩
theorem dX10_service_119 : At mX10_service 119 .ireturn 1 120 := ⟨by decide +kernel, rfl⟩
theorem dX10_service_120 : AtA mX10_service 120 0 121 := Or.inr ⟨0, by decide +kernel, rfl, rfl⟩
theorem dX10_service_121 : AtI mX10_service 121 3 122 := Or.inr ⟨3, by decide +kernel, rfl, rfl⟩
theorem dX10_service_122 : AtI mX10_service 122 4 124 := Or.inl ⟨by decide +kernel, rfl⟩
theorem dX10_service_124 : AtV mX10_service 124 mX10_fit 2 10 127 := ⟨115, 1019, 1021, 35, (RX10, TX10, 31), by decide +kernel, rfl, rfl, by decide +kernel, by decide +kernel, by decide +kernel, rfl, ⟨⟨1022, by decide +kernel⟩, ⟨63, by decide +kernel⟩, ⟨by decide, by decide⟩, by decide +kernel, by decide, by decide⟩⟩
theorem dX10_service_127 : AtJ mX10_service 127 (.ifCond .ne) 130 135 := ⟨8, by decide +kernel, rfl, by decide⟩
theorem dX10_service_130 : AtK mX10_service 130 (iZ (-100)) 132 := Or.inr (Or.inl ⟨(-100), by decide +kernel, by decide, rfl⟩)
theorem dX10_service_132 : AtG mX10_service 132 142 := ⟨10, by decide +kernel, by decide⟩
theorem dX10_service_135 : AtA mX10_service 135 0 136 := Or.inr ⟨0, by decide +kernel, rfl, rfl⟩
theorem dX10_service_136 : AtI mX10_service 136 3 137 := Or.inr ⟨3, by decide +kernel, rfl, rfl⟩
theorem dX10_service_137 : AtI mX10_service 137 4 139 := Or.inl ⟨by decide +kernel, rfl⟩
theorem dX10_service_139 : AtV mX10_service 139 mX10_clash 2 10 142 := ⟨119, 1027, 1029, 36, (RX10, TX10, 31), by decide +kernel, rfl, rfl, by decide +kernel, by decide +kernel, by decide +kernel, rfl, ⟨⟨1030, by decide +kernel⟩, ⟨63, by decide +kernel⟩, ⟨by decide, by decide⟩, by decide +kernel, by decide, by decide⟩⟩
theorem dX10_service_142 : At mX10_service 142 .ireturn 1 143 := ⟨by decide +kernel, rfl⟩
theorem dX10_sung_0 : AtA mX10_sung 0 0 1 := Or.inr ⟨0, by decide +kernel, rfl, rfl⟩
theorem dX10_sung_1 : AtA mX10_sung 1 0 2 := Or.inr ⟨0, by decide +kernel, rfl, rfl⟩
theorem dX10_sung_2 : AtI mX10_sung 2 1 3 := Or.inr ⟨1, by decide +kernel, rfl, rfl⟩
theorem dX10_sung_3 : AtV mX10_sung 3 mX10_isText 1 10 6 := ⟨105, 996, 998, 33, (RX10, TX10, 31), by decide +kernel, rfl, rfl, by decide +kernel, by decide +kernel, by decide +kernel, rfl, ⟨⟨999, by decide +kernel⟩, ⟨63, by decide +kernel⟩, ⟨by decide, by decide⟩, by decide +kernel, by decide, by decide⟩⟩
theorem dX10_sung_6 : AtJ mX10_sung 6 (.ifCond .eq) 9 13 := ⟨7, by decide +kernel, rfl, by decide⟩
theorem dX10_sung_9 : AtK mX10_sung 9 (iZ 0) 10 := Or.inl ⟨0, by decide +kernel, by decide, rfl⟩
theorem dX10_sung_10 : AtG mX10_sung 10 14 := ⟨4, by decide +kernel, by decide⟩
theorem dX10_sung_13 : AtK mX10_sung 13 (iZ 1) 14 := Or.inl ⟨1, by decide +kernel, by decide, rfl⟩
theorem dX10_sung_14 : AtP mX10_sung 14 10 30 (.int) 17 := ⟨86, (RX10, TX10, 31), by decide +kernel, rfl, rfl, by decide, Or.inl ⟨912, by decide +kernel⟩, by decide +kernel, Or.inl rfl⟩
theorem dX10_sung_17 : AtA mX10_sung 17 0 18 := Or.inr ⟨0, by decide +kernel, rfl, rfl⟩
theorem dX10_sung_18 : AtF mX10_sung 18 10 30 21 := ⟨86, (RX10, TX10, 31), by decide +kernel, rfl, rfl, by decide, Or.inl (Or.inl ⟨912, by decide +kernel⟩)⟩
theorem dX10_sung_21 : AtJ mX10_sung 21 (.ifCond .le) 24 28 := ⟨7, by decide +kernel, rfl, by decide⟩
theorem dX10_sung_24 : AtK mX10_sung 24 (iZ 0) 25 := Or.inl ⟨0, by decide +kernel, by decide, rfl⟩
theorem dX10_sung_25 : AtG mX10_sung 25 33 := ⟨8, by decide +kernel, by decide⟩
theorem dX10_sung_28 : AtA mX10_sung 28 0 29 := Or.inr ⟨0, by decide +kernel, rfl, rfl⟩
theorem dX10_sung_29 : AtI mX10_sung 29 1 30 := Or.inr ⟨1, by decide +kernel, rfl, rfl⟩
theorem dX10_sung_30 : AtV mX10_sung 30 mX10_times 1 10 33 := ⟨217, 1209, 1211, 54, (RX10, TX10, 31), by decide +kernel, rfl, rfl, by decide +kernel, by decide +kernel, by decide +kernel, rfl, ⟨⟨1212, by decide +kernel⟩, ⟨63, by decide +kernel⟩, ⟨by decide, by decide⟩, by decide +kernel, by decide, by decide⟩⟩
theorem dX10_sung_33 : At mX10_sung 33 .ireturn 1 34 := ⟨by decide +kernel, rfl⟩
end
section
/-! further rules -/
theorem kint {K : hK} {M : hM} {sz : Nat} {a b : Int} (h : K (.inl (some (.int (iZ a)))) M sz) (e : a = b) : K (.inl (some (.int (iZ b)))) M sz := e ▸ h
theorem hv.ext {D : va_G} {dA : Nat → ClassId} {M : hM} {H : Heap} (h : hv D dA M H) {a k9 len : Nat} {f f' : Nat → Int32} (hm : M a = some (.inr (k9, len, .inl f))) (he : ∀ k, k < len → f k = f' k) : hv D dA (hup M a (.inr (k9, len, .inl f'))) H := by
  refine h.set ?_ (fun _ _ => rfl)
  have h1 : H[a]? = some (arrV (dA k9) len (fun j => .int (f j))) := h a _ hm
  show H[a]? = some (arrV (dA k9) len (fun j => .int (f' j)))
  rw [h1]
  unfold arrV
  congr 3
  funext j
  show Value.int (f j.val) = Value.int (f' j.val)
  rw [he j.val j.isLt]
section R5
variable {X : hX} {d : hD} {pc n t i a9 : Nat} {lv st : List Value} {M : hM} {sz cs ss : Nat} {a b : Int}
theorem z_alenM (hX : Cok X d) (h : At d pc .arraylength 1 n) (kk : G X n lv (.int (iZ 12) :: st) M sz cs ss) : G X pc lv (.ref X.2.2.2.2.2.2.2.2.1 :: st) M sz cs ss := g_alenM hX h kk
theorem z_alenD (hX : Cok X d) (h : At d pc .arraylength 1 n) (kk : G X n lv (.int (iZ 0) :: st) M sz cs ss) : G X pc lv (.ref X.2.2.2.2.2.2.2.2.2 :: st) M sz cs ss := g_alenD hX h kk
/-- an int array's places beyond its length say nothing -/
theorem g_ext {k9 len : Nat} {f f' : Nat → Int32} (hm : M a9 = some (.inr (k9, len, .inl f))) (he : ∀ k, k < len → f k = f' k) (kk : G X pc lv st (hup M a9 (.inr (k9, len, .inl f'))) sz cs ss) : G X pc lv st M sz cs ss := fun H locs ls hz hM hA hS hl => kk H locs ls hz (hM.ext hm he) (dom_up hA (hA a9 _ hm)) hS hl
theorem g_ext2 {k9 len : Nat} {f f' : Nat → Int32} (h0 : M a9 = some (.inr (k9, len, .inl f))) (he : ∀ k, k < len → f k = f' k) (kk : G X pc lv st (hup M a9 (.inr (k9, len, .inl f'))) sz cs ss) : G X pc lv st M sz cs ss := g_ext h0 he kk
/-! class objects and System.arraycopy -/
def getC9 : MethodName := ⟨"java/lang/Object", "getClass", "()Ljava/lang/Class;"⟩
def AtGC (d : hD) (pc n : Nat) : Prop := ∃ index i1 i2 i3 i4 i5 : Nat, decode d.2.1 pc = .ok (.invokevirtual index, 3) ∧ pc + 3 = n ∧ lw_tbl[i1]? = some (Cond.methodLink d.1.cls index getC9) ∧ lw_tbl[i2]? = some (Cond.declares getC9) ∧ lw_tbl[i3]? = some (Cond.selects "[Ljava/lang/Object;" getC9 getC9) ∧ lw_tbl[i4]? = some (Cond.instanceMethod getC9) ∧ lw_tbl[i5]? = some (Cond.native getC9) ∧ 1 ≤ d.2.2.2.2.1.frames ∧ 30 ≤ d.2.2.2.2.1.locals
theorem g_getC {len : Nat} {f : Nat → Option Nat} (hX : Cok X d) (h : AtGC d pc n) (hm : M a9 = some (.inr (3, len, .inr (.inr f)))) (hw : (st.map fun v => v.category).sum ≤ 8) (kk : G X n lv (.ref (X.2.2.2.2.2.1.2 99 0) :: st) M sz cs ss) : G X pc lv (.ref a9 :: st) M sz cs ss := by
  obtain ⟨⟨p, l, e, R, s, m, args, below⟩, meth, c, A, Q, g⟩ := X
  obtain ⟨hx, hb, hml, hown, hts, hKS, hAz, hAn, hst9, hlk, hrt, hnm, hR, hex⟩ := hX
  intro H locs ls hz hM hA hS hl
  obtain ⟨index, i1, i2, i3, i4, i5, h1, rfl, e1, e2, e3, e4, e5, hf, hlo⟩ := h
  obtain ⟨hK, -, -, -, -, -, -, -, -, hMi⟩ := hKS
  have hR' : R = d.2.2.2.2.1 := hR
  refine va_getC hx hb hl.1.symm hown (hts.at i1 e1 rfl) (hts.at i2 e2 rfl) (hts.at i3 e3 rfl) (hts.at i4 e4 rfl) (hts.at i5 e5 rfl) hMi ⟨_, hM a9 _ hm, rfl, ?_⟩ (by rw [hR']; exact hf) (by show _ ≤ R.locals; rw [hR']; omega) h1 (kk H locs ls hz hM hA hS hl)
  obtain ⟨_, _, _, _, _, k4⟩ := (hK.2 3 _ rfl).2
  exact k4
def AtLC (d : hD) (pc n : Nat) : Prop := ∃ index i1 : Nat, decode d.2.1 pc = .ok (.ldc index, 2) ∧ pc + 2 = n ∧ lw_tbl[i1]? = some (Cond.classLink d.1.cls index "[Ljava/lang/Object;")
theorem g_ldcM (hX : Cok X d) (h : AtLC d pc n) (kk : G X n lv (.ref (X.2.2.2.2.2.1.2 99 0) :: st) M sz cs ss) : G X pc lv st M sz cs ss := by
  obtain ⟨⟨p, l, e, R, s, m, args, below⟩, meth, c, A, Q, g⟩ := X
  obtain ⟨hx, hb, hml, hown, hts, hKS, hAz, hAn, hst9, hlk, hrt, hnm, hR, hex⟩ := hX
  intro H locs ls hz hM hA hS hl
  obtain ⟨index, i1, h1, rfl, e1⟩ := h
  obtain ⟨hK, -, -, -, -, -, -, -, -, hMi⟩ := hKS
  exact va_ldcM hx hb hown (hts.at i1 e1 rfl) hMi h1 (kk H locs ls hz hM hA hS hl)
def AtCP (d : hD) (pc n : Nat) : Prop := ∃ index i1 i2 i3 i4 : Nat, decode d.2.1 pc = .ok (.invokestatic index, 3) ∧ pc + 3 = n ∧ lw_tbl[i1]? = some (Cond.methodLink d.1.cls index arraycopyName) ∧ lw_tbl[i2]? = some (Cond.native arraycopyName) ∧ lw_tbl[i3]? = some (Cond.static arraycopyName) ∧ lw_tbl[i4]? = some (Cond.initialized "java/lang/System") ∧ 1 ≤ d.2.2.2.2.1.frames ∧ nativeFrameWords "java/lang/System" "arraycopy" 5 + 11 ≤ d.2.2.2.2.1.locals
theorem g_acopy {b9 n0 n1 : Nat} {f g9 : Nat → Option Nat} {z : Int} (hX : Cok X d) (h : AtCP d pc n) (hm0 : M a9 = some (.inr (3, n0, .inr (.inr f)))) (hm1 : M b9 = some (.inr (3, n1, .inr (.inr g9)))) (hz0 : 0 ≤ z) (hz1 : z ≤ n0) (hz2 : z ≤ n1) (hn0 : n0 < 100000)
    (hel : ∀ i : Nat, i < n0 → ∀ y : Nat, f i = some y → ∃ (ci j : Nat) (fs : List Value) (q : vw_C), M y = some (.inl (ci, fs)) ∧ cls9[ci]? = some q ∧ lw_tbl[j]? = some (Cond.castable q.1 "java/lang/Object"))
    (kk : G X n lv [] (hup M b9 (.inr (3, n1, .inr (.inr (fun k => if k < z.toNat then f k else g9 k))))) sz cs ss) : G X pc lv [.int (iZ z), .int (iZ 0), .ref b9, .int (iZ 0), .ref a9] M sz cs ss := by
  obtain ⟨⟨p, l, e, R, s, m, args, below⟩, meth, c, A, Q, G9⟩ := X
  obtain ⟨hx, hb, hml, hown, hts, hKS, hAz, hAn, hst9, hlk, hrt, hnm, hR, hex⟩ := hX
  intro H locs ls hz hM hA hS hl
  obtain ⟨index, i1, i2, i3, i4, hd1, rfl, e1, e2, e3, e4, hf, hlo⟩ := h
  have hR' : R = d.2.2.2.2.1 := hR
  have hzr : inR z := by unfold inR; omega
  have hcl : (iZ z).toNatClampNeg = z.toNat := z_cl hzr
  have hc00 : (iZ 0).toNatClampNeg = 0 := z_cl inR0
  have hK := hKS.1
  have hc0 : H[a9]? = some (vp_cell (G9.2.1 3) (n0, .inr (.inr (.inr (.inr f))))) := hM a9 _ hm0
  have hc1 : H[b9]? = some (vp_cell (G9.2.1 3) (n1, .inr (.inr (.inr (.inr g9))))) := hM b9 _ hm1
  have hn3 : ¬ iZ z < 0 := by rw [z_0, z_lt hzr inR0]; omega
  have h0n : ¬ iZ 0 < 0 := by rw [z_0, z_lt inR0 inR0]; omega
  have t0 : (iZ 0).toInt = 0 := zt inR0
  have tz : (iZ z).toInt = z := zt hzr
  intro T hT X0
  obtain ⟨-, k1, hk1, cm1, hkk1⟩ := (hK.2 3 _ rfl).1 n1 (fun j => va_rf (g9 j))
  obtain ⟨vm', X', step⟩ := X0.arraycopy hx hown (hts.at i1 e1 rfl) (hts.at i2 e2 rfl) (hts.at i3 e3 rfl) (hts.at i4 e4 rfl) (src := a9) (dst := b9) (cs := vp_cell (G9.2.1 3) (n0, .inr (.inr (.inr (.inr f))))) (cd := vp_cell (G9.2.1 3) (n1, .inr (.inr (.inr (.inr g9))))) (srcPos := iZ 0) (destPos := iZ 0) (n := iZ z) (by rw [hT]; exact hc0) (by rw [hT]; exact hc1)
    (fun _ h => by cases h) (fun _ h => by cases h) (fun h => by cases h) (fun h => by cases h) hk1 hk1 hkk1 hkk1 rfl h0n h0n hn3
    (by rw [t0, tz]; show ¬ _ > ((arrV _ n0 (fun j => va_rf (f j))).slots.size : Int); rw [arrV_size]; omega)
    (by rw [t0, tz]; show ¬ _ > ((arrV _ n1 (fun j => va_rf (g9 j))).slots.size : Int); rw [arrV_size]; omega)
    (fun vm₁ hal i hi => by
      rw [hcl] at hi
      rw [hc00, Nat.zero_add]
      have e : (vp_cell (G9.2.1 3) (n0, .inr (.inr (.inr (.inr f))))).slots.getD i .null = va_rf (f i) := by
        show (arrV _ n0 (fun j => va_rf (f j))).slots.getD _ _ = _
        rw [Array.getD_eq_getD_getElem?, arrV_read _ _ (by omega)]
        rfl
      rw [e]
      cases hy : f i with
      | none => exact ⟨rfl, trivial⟩
      | some y =>
        obtain ⟨ci, j, fs, q, hmy, hq, hj⟩ := hel i (by omega) y hy
        obtain ⟨r', hr', cellV, g1, g2, g3, -⟩ := hM y _ hmy
        have hcls := (hK.1 ci q hq).2
        obtain ⟨c0, t1, f1, f2, f3⟩ := Cond.castable_spec (hts.at j hj rfl)
        cases hcls.1.symm.trans f1
        obtain ⟨kC, hkC, -⟩ := hcls.2
        obtain ⟨kA, comp, r1, r2, r3, -⟩ := (hK.2 3 _ rfl).2
        cases hk1.symm.trans r1
        cases hkk1.symm.trans r2
        cases r3.symm.trans f2
        obtain ⟨kE, hkE, -⟩ := Vm.findClass_spec r3
        obtain ⟨kC', hkC', -⟩ := hal.2.2 _ _ hkC
        obtain ⟨kE', hkE', -⟩ := hal.2.2 _ _ hkE
        refine ⟨rfl, cellV, (show T.heap[y]? = some cellV by rw [hT]; exact g1), (fun q h => by rw [g3] at h; cases h), ⟨kC', by rw [g2]; exact hkC'⟩, ?_, ?_⟩
        · exact ⟨kE', hkE'⟩
        · show vm₁.assignable _ _ = true
          rw [hal.assignable, g2]
          exact f3)
    (g := F0 m pc ls [.int (iZ z), .int (iZ 0), .ref b9, .int (iZ 0), .ref a9]) rfl (by rw [hl.1]) (rest := []) rfl (by rw [hb]; exact hd1) (by rw [hR']; exact hf) (by show 2 * 0 + 0 + _ ≤ R.locals; rw [hR']; omega)
  have e1 : copied (vp_cell (G9.2.1 3) (n0, .inr (.inr (.inr (.inr f))))) (vp_cell (G9.2.1 3) (n1, .inr (.inr (.inr (.inr g9))))) (iZ 0) (iZ 0) (iZ z) = vp_cell (G9.2.1 3) (n1, .inr (.inr (.inr (.inr (fun k => if k < z.toNat then f k else g9 k))))) := by
    have h9 := va_copied (n1 := n1) (dp := (iZ 0).toNatClampNeg) (fun z => va_rf z) (G9.2.1 3) (G9.2.1 3) f g9 (show (iZ 0).toNatClampNeg + (iZ z).toNatClampNeg ≤ n0 by rw [hc00, hcl]; omega)
    rw [vp_cell_q, vp_cell_q, vp_cell_q]
    refine h9.trans ?_
    rw [hc00, hcl]
    unfold arrV
    congr 3
    funext j
    unfold va_cpy
    show va_rf (if 0 ≤ j.val ∧ j.val < 0 + z.toNat then f (0 + (j.val - 0)) else g9 j.val) = va_rf (if j.val < z.toNat then f j.val else g9 j.val)
    by_cases hj : j.val < z.toNat
    · rw [if_pos (by omega), if_pos hj, Nat.sub_zero, Nat.zero_add]
    · rw [if_neg (by omega), if_neg hj]
  rw [e1] at X' step
  have hlt : b9 < H.size := (Array.getElem?_eq_some_iff.mp hc1).1
  generalize hcell9 : vp_cell (G9.2.1 3) (n1, .inr (.inr (.inr (.inr (fun k => if k < z.toNat then f k else g9 k))))) = cell9 at X' step
  have hheap : ((T.setVm vm').setCell b9 cell9).heap = H.setIfInBounds b9 cell9 := by rw [← hT]; rfl
  have oq : ∀ q : Nat, q ≠ b9 → (H.setIfInBounds b9 cell9)[q]? = H[q]? := fun q hq => by simp [Array.getElem?_setIfInBounds, Ne.symm hq]
  obtain ⟨t, a1, b1⟩ := kk (H.setIfInBounds b9 cell9) _ ls (by simp; exact hz) (hM.set (show (H.setIfInBounds b9 cell9)[b9]? = some _ by rw [← hcell9]; simp [Array.getElem?_setIfInBounds, hlt]) oq) (dom_up hA (hA b9 _ hm1)) ⟨by simp; exact hS.1, fun q g1 g2 => by
      rw [oq q (fun e => g2 (by rw [e]; exact hA b9 _ hm1))]
      exact hS.2.1 q g1 g2, fun q hq => by
      rcases List.mem_append.mp hq with h | h
      · exact hS.2.2 q h
      · obtain ⟨z, -, hz⟩ := List.mem_map.mp h
        rw [← hz]
        exact hA b9 _ hm1⟩ hl _ hheap X'
  exact ⟨t, step t a1, b1⟩
end R5
end
section
/-! days and years: what they are, and the class's methods for them -/
abbrev leapZ (y : Int) : Prop := (y % 4 = 0 ∧ y % 100 ≠ 0) ∨ y % 400 = 0
def ylenZ (y : Int) : Int := if leapZ y then 366 else 365
def mlenZ (y m : Int) : Int := if m = 2 then (if leapZ y then 29 else 28) else if m = 4 ∨ m = 6 ∨ m = 9 ∨ m = 11 then 30 else 31
def placeZ (y m d : Int) : Int := fMz (m - 1).toNat + bZ (2 < m ∧ leapZ y) + d - 1
def dnumZ (y p : Int) : Int := 365 * (y - 1600) + ((y - 1600 + 3) / 4 - (y - 1600 + 99) / 100 + (y - 1600 + 399) / 400) + p
def wdayZ (y p : Int) : Int := (dnumZ y p + 6) % 7
def monZ (y p : Int) : Nat → Int → Int
  | 0, m => m
  | n + 1, m => if m < 12 ∧ placeZ y (m + 1) 1 ≤ p then monZ y p n (m + 1) else m
def dateZ (y p : Int) : Int := 100 * monZ y p 12 1 + p - placeZ y (monZ y p 12 1) 1 + 1
/-- Easter as a day of March, step by step -/
def eaX (y : Int) : Int := 3 * (y / 100 + 1) / 4 - 12
def eaZ (y : Int) : Int := (8 * (y / 100 + 1) + 5) / 25 - 5
def eaD (y : Int) : Int := 5 * y / 4 - eaX y - 10
def eaE (y : Int) : Int := (11 * (y % 19 + 1) + 20 + eaZ y - eaX y) % 30
def eaE2 (y : Int) : Int := if eaE y = 24 ∨ (eaE y = 25 ∧ 11 < y % 19 + 1) then eaE y + 1 else eaE y
def eaN (y : Int) : Int := if 44 - eaE2 y < 21 then 44 - eaE2 y + 30 else 44 - eaE2 y
def eastZ (y : Int) : Int := eaN y + 7 - (eaD y + eaN y) % 7
theorem fMz_r (k : Nat) : 0 ≤ fMz k ∧ fMz k ≤ 334 := by
  rcases Nat.lt_or_ge k 12 with h | h
  · revert k
    decide
  · unfold fMz
    rw [List.getD_eq_getElem?_getD, List.getElem?_eq_none (by simpa using h)]
    decide
theorem bZ_le (c : Prop) [Decidable c] : 0 ≤ bZ c ∧ bZ c ≤ 1 := by unfold bZ; split <;> omega

def sp_X0_isLeap : hS := fun as M sz K => ∃ y : Int, as = [.int (iZ y)] ∧ (0 ≤ y ∧ y ≤ 5000) ∧ K (.inl (some (.int (iZ (bZ (leapZ y)))))) M sz
theorem s_X0_isLeap {l : Launch} {g : hG} (hst : l.stackTraces = false) : Ctr l g mX0_isLeap sp_X0_isLeap := by
  refine Ctr.mk9 hst (by decide) ?_ ?_
  · rintro as M sz K ⟨y, rfl, hy, hK⟩
    exact ⟨by simp [mX0_isLeap], cat_ok rfl⟩
  rintro X as M sz K hX rfl rfl hR ⟨y, rfl, hy, hK⟩
  show G X 0 [.int (iZ y)] [] M sz 0 0
  refine g_iload hX dX0_isLeap_0 rfl ?_
  refine g_const hX dX0_isLeap_1 ?_
  refine z_irem hX dX0_isLeap_2 (by constructor <;> omega) (by constructor <;> omega) (by omega) (by omega) ?_
  refine z_if_ne hX dX0_isLeap_3 (by constructor <;> omega) (fun c3 => ?_) (fun c3 => ?_)
  · refine g_iload hX dX0_isLeap_13 rfl ?_
    refine g_const hX dX0_isLeap_14 ?_
    refine z_irem hX dX0_isLeap_17 (by constructor <;> omega) (by constructor <;> omega) (by omega) (by omega) ?_
    refine z_if_ne hX dX0_isLeap_18 (by constructor <;> omega) (fun c18 => ?_) (fun c18 => ?_)
    · refine g_const hX dX0_isLeap_25 ?_
      refine g_iret hX hR dX0_isLeap_26 rfl (by first | rfl | exact nar_b _ | exact nar_01 (by omega)) (by decide) (by decide) ?_
      exact kint hK (by unfold bZ; split <;> omega)
    · refine g_const hX dX0_isLeap_21 ?_
      refine g_goto hX dX0_isLeap_22 ?_
      refine g_iret hX hR dX0_isLeap_26 rfl (by first | rfl | exact nar_b _ | exact nar_01 (by omega)) (by decide) (by decide) ?_
      exact kint hK (by unfold bZ; split <;> omega)
  · refine g_iload hX dX0_isLeap_6 rfl ?_
    refine g_const hX dX0_isLeap_7 ?_
    refine z_irem hX dX0_isLeap_9 (by constructor <;> omega) (by constructor <;> omega) (by omega) (by omega) ?_
    refine z_if_ne hX dX0_isLeap_10 (by constructor <;> omega) (fun c10 => ?_) (fun c10 => ?_)
    · refine g_const hX dX0_isLeap_21 ?_
      refine g_goto hX dX0_isLeap_22 ?_
      refine g_iret hX hR dX0_isLeap_26 rfl (by first | rfl | exact nar_b _ | exact nar_01 (by omega)) (by decide) (by decide) ?_
      exact kint hK (by unfold bZ; split <;> omega)
    · refine g_iload hX dX0_isLeap_13 rfl ?_
      refine g_const hX dX0_isLeap_14 ?_
      refine z_irem hX dX0_isLeap_17 (by constructor <;> omega) (by constructor <;> omega) (by omega) (by omega) ?_
      refine z_if_ne hX dX0_isLeap_18 (by constructor <;> omega) (fun c18 => ?_) (fun c18 => ?_)
      · refine g_const hX dX0_isLeap_25 ?_
        refine g_iret hX hR dX0_isLeap_26 rfl (by first | rfl | exact nar_b _ | exact nar_01 (by omega)) (by decide) (by decide) ?_
        exact kint hK (by unfold bZ; split <;> omega)
      · refine g_const hX dX0_isLeap_21 ?_
        refine g_goto hX dX0_isLeap_22 ?_
        refine g_iret hX hR dX0_isLeap_26 rfl (by first | rfl | exact nar_b _ | exact nar_01 (by omega)) (by decide) (by decide) ?_
        exact kint hK (by unfold bZ; split <;> omega)

def sp_X0_yearLength : hS := fun as M sz K => ∃ y : Int, as = [.int (iZ y)] ∧ (0 ≤ y ∧ y ≤ 5000) ∧ K (.inl (some (.int (iZ (ylenZ y))))) M sz
theorem s_X0_yearLength {l : Launch} {g : hG} (hst : l.stackTraces = false) : Ctr l g mX0_yearLength sp_X0_yearLength := by
  refine Ctr.mk9 hst (by decide) ?_ ?_
  · rintro as M sz K ⟨y, rfl, hy, hK⟩
    exact ⟨by simp [mX0_yearLength], cat_ok rfl⟩
  rintro X as M sz K hX rfl rfl hR ⟨y, rfl, hy, hK⟩
  show G X 0 [.int (iZ y)] [] M sz 0 0
  refine g_iload hX dX0_yearLength_0 rfl ?_
  refine g_cS1 (c2 := 0) (s2 := 0) hX (s_X0_isLeap hst) dX0_yearLength_1 (by first | exact Nat.le_of_ble_eq_true rfl | simp [cat_rf, Value.category]) ⟨rfl, rfl, by decide, by decide⟩ ?_
  refine ⟨_, rfl, by omega, Kc_i ?_⟩
  refine z_ifb_eq hX dX0_yearLength_4 (fun c4 => ?_) (fun c4 => ?_)
  · refine g_const hX dX0_yearLength_13 ?_
    refine g_iret hX hR dX0_yearLength_16 rfl rfl (by decide) (by decide) ?_
    exact kint hK (by unfold ylenZ; split <;> omega)
  · refine g_const hX dX0_yearLength_7 ?_
    refine g_goto hX dX0_yearLength_10 ?_
    refine g_iret hX hR dX0_yearLength_16 rfl rfl (by decide) (by decide) ?_
    exact kint hK (by unfold ylenZ; split <;> omega)

def sp_X0_monthLength : hS := fun as M sz K => ∃ y m : Int, as = [.int (iZ y), .int (iZ m)] ∧ (0 ≤ y ∧ y ≤ 5000) ∧ inR m ∧ K (.inl (some (.int (iZ (mlenZ y m))))) M sz
theorem s_X0_monthLength {l : Launch} {g : hG} (hst : l.stackTraces = false) : Ctr l g mX0_monthLength sp_X0_monthLength := by
  refine Ctr.mk9 hst (by decide) ?_ ?_
  · rintro as M sz K ⟨y, m, rfl, hy, hm, hK⟩
    exact ⟨by simp [mX0_monthLength], cat_ok rfl⟩
  rintro X as M sz K hX rfl rfl hR ⟨y, m, rfl, hy, hm, hK⟩
  show G X 0 [.int (iZ y), .int (iZ m)] [] M sz 0 0
  refine g_iload hX dX0_monthLength_0 rfl ?_
  refine g_const hX dX0_monthLength_1 ?_
  refine z_icmp_ne hX dX0_monthLength_2 (by first | assumption | (constructor <;> omega)) (by first | assumption | (constructor <;> omega)) (fun c2 => ?_) (fun c2 => ?_)
  · refine g_iload hX dX0_monthLength_20 rfl ?_
    refine g_const hX dX0_monthLength_21 ?_
    refine z_icmp_eq hX dX0_monthLength_22 (by first | assumption | (constructor <;> omega)) (by first | assumption | (constructor <;> omega)) (fun c22 => ?_) (fun c22 => ?_)
    · refine g_const hX dX0_monthLength_43 ?_
      refine g_goto hX dX0_monthLength_45 ?_
      refine g_iret hX hR dX0_monthLength_50 rfl rfl (by decide) (by decide) ?_
      exact kint hK (by unfold mlenZ; simp_all <;> omega)
    · refine g_iload hX dX0_monthLength_25 rfl ?_
      refine g_const hX dX0_monthLength_26 ?_
      refine z_icmp_eq hX dX0_monthLength_28 (by first | assumption | (constructor <;> omega)) (by first | assumption | (constructor <;> omega)) (fun c28 => ?_) (fun c28 => ?_)
      · refine g_const hX dX0_monthLength_43 ?_
        refine g_goto hX dX0_monthLength_45 ?_
        refine g_iret hX hR dX0_monthLength_50 rfl rfl (by decide) (by decide) ?_
        exact kint hK (by unfold mlenZ; simp_all <;> omega)
      · refine g_iload hX dX0_monthLength_31 rfl ?_
        refine g_const hX dX0_monthLength_32 ?_
        refine z_icmp_eq hX dX0_monthLength_34 (by first | assumption | (constructor <;> omega)) (by first | assumption | (constructor <;> omega)) (fun c34 => ?_) (fun c34 => ?_)
        · refine g_const hX dX0_monthLength_43 ?_
          refine g_goto hX dX0_monthLength_45 ?_
          refine g_iret hX hR dX0_monthLength_50 rfl rfl (by decide) (by decide) ?_
          exact kint hK (by unfold mlenZ; simp_all <;> omega)
        · refine g_iload hX dX0_monthLength_37 rfl ?_
          refine g_const hX dX0_monthLength_38 ?_
          refine z_icmp_ne hX dX0_monthLength_40 (by first | assumption | (constructor <;> omega)) (by first | assumption | (constructor <;> omega)) (fun c40 => ?_) (fun c40 => ?_)
          · refine g_const hX dX0_monthLength_48 ?_
            refine g_iret hX hR dX0_monthLength_50 rfl rfl (by decide) (by decide) ?_
            exact kint hK (by unfold mlenZ; simp_all <;> omega)
          · refine g_const hX dX0_monthLength_43 ?_
            refine g_goto hX dX0_monthLength_45 ?_
            refine g_iret hX hR dX0_monthLength_50 rfl rfl (by decide) (by decide) ?_
            exact kint hK (by unfold mlenZ; simp_all <;> omega)
  · refine g_iload hX dX0_monthLength_5 rfl ?_
    refine g_cS1 (c2 := 0) (s2 := 0) hX (s_X0_isLeap hst) dX0_monthLength_6 (by first | exact Nat.le_of_ble_eq_true rfl | simp [cat_rf, Value.category]) ⟨rfl, rfl, by decide, by decide⟩ ?_
    refine ⟨_, rfl, by omega, Kc_i ?_⟩
    refine z_ifb_eq hX dX0_monthLength_9 (fun c9 => ?_) (fun c9 => ?_)
    · refine g_const hX dX0_monthLength_17 ?_
      refine g_iret hX hR dX0_monthLength_19 rfl rfl (by decide) (by decide) ?_
      exact kint hK (by unfold mlenZ; simp_all <;> omega)
    · refine g_const hX dX0_monthLength_12 ?_
      refine g_goto hX dX0_monthLength_14 ?_
      refine g_iret hX hR dX0_monthLength_19 rfl rfl (by decide) (by decide) ?_
      exact kint hK (by unfold mlenZ; simp_all <;> omega)

def sp_X0_dayOfYear : hS := fun as M sz K => ∃ y m d : Int, as = [.int (iZ y), .int (iZ m), .int (iZ d)] ∧ (0 ≤ y ∧ y ≤ 5000) ∧ (1 ≤ m ∧ m ≤ 12) ∧ (-100000 ≤ d ∧ d ≤ 100000) ∧ K (.inl (some (.int (iZ (placeZ y m d))))) M sz
theorem s_X0_dayOfYear {l : Launch} {g : hG} (hst : l.stackTraces = false) : Ctr l g mX0_dayOfYear sp_X0_dayOfYear := by
  refine Ctr.mk9 hst (by decide) ?_ ?_
  · rintro as M sz K ⟨y, m, d, rfl, hy, hm, hd, hK⟩
    exact ⟨by simp [mX0_dayOfYear], cat_ok rfl⟩
  rintro X as M sz K hX rfl rfl hR ⟨y, m, d, rfl, hy, hm, hd, hK⟩
  show G X 0 [.int (iZ y), .int (iZ m), .int (iZ d), U9, U9] [] M sz 0 0
  refine g_iload hX dX0_dayOfYear_0 rfl ?_
  refine g_const hX dX0_dayOfYear_1 ?_
  refine z_icmp_lt hX dX0_dayOfYear_2 (by constructor <;> omega) (by constructor <;> omega) (fun c2 => ?_) (fun c2 => ?_)
  · refine g_const hX dX0_dayOfYear_23 ?_
    refine g_istore hX dX0_dayOfYear_24 ?_
    dsimp only [List.set]
    refine g_iload hX dX0_dayOfYear_25 rfl ?_
    refine g_const hX dX0_dayOfYear_26 ?_
    refine z_icmp_le hX dX0_dayOfYear_27 (by constructor <;> omega) (by constructor <;> omega) (fun c27 => ?_) (fun c27 => ?_)
    · refine g_const hX dX0_dayOfYear_41 ?_
      refine g_istore hX dX0_dayOfYear_42 ?_
      dsimp only [List.set]
      refine g_iload hX dX0_dayOfYear_44 rfl ?_
      refine g_iload hX dX0_dayOfYear_45 rfl ?_
      refine z_iadd hX dX0_dayOfYear_47 ?_
      refine g_iload hX dX0_dayOfYear_48 rfl ?_
      refine z_iadd hX dX0_dayOfYear_49 ?_
      refine g_const hX dX0_dayOfYear_50 ?_
      refine z_isub hX dX0_dayOfYear_51 ?_
      refine g_iret hX hR dX0_dayOfYear_52 rfl rfl (by decide) (by decide) ?_
      exact kint hK (by unfold placeZ bZ; split <;> omega)
    · refine g_iload hX dX0_dayOfYear_30 rfl ?_
      refine g_cS1 (c2 := 0) (s2 := 0) hX (s_X0_isLeap hst) dX0_dayOfYear_31 (by first | exact Nat.le_of_ble_eq_true rfl | simp [cat_rf, Value.category]) ⟨rfl, rfl, by decide, by decide⟩ ?_
      refine ⟨_, rfl, by omega, Kc_i ?_⟩
      refine z_ifb_eq hX dX0_dayOfYear_34 (fun c34 => ?_) (fun c34 => ?_)
      · refine g_const hX dX0_dayOfYear_41 ?_
        refine g_istore hX dX0_dayOfYear_42 ?_
        dsimp only [List.set]
        refine g_iload hX dX0_dayOfYear_44 rfl ?_
        refine g_iload hX dX0_dayOfYear_45 rfl ?_
        refine z_iadd hX dX0_dayOfYear_47 ?_
        refine g_iload hX dX0_dayOfYear_48 rfl ?_
        refine z_iadd hX dX0_dayOfYear_49 ?_
        refine g_const hX dX0_dayOfYear_50 ?_
        refine z_isub hX dX0_dayOfYear_51 ?_
        refine g_iret hX hR dX0_dayOfYear_52 rfl rfl (by decide) (by decide) ?_
        exact kint hK (by unfold placeZ bZ; split <;> omega)
      · refine g_const hX dX0_dayOfYear_37 ?_
        refine g_goto hX dX0_dayOfYear_38 ?_
        refine g_istore hX dX0_dayOfYear_42 ?_
        dsimp only [List.set]
        refine g_iload hX dX0_dayOfYear_44 rfl ?_
        refine g_iload hX dX0_dayOfYear_45 rfl ?_
        refine z_iadd hX dX0_dayOfYear_47 ?_
        refine g_iload hX dX0_dayOfYear_48 rfl ?_
        refine z_iadd hX dX0_dayOfYear_49 ?_
        refine g_const hX dX0_dayOfYear_50 ?_
        refine z_isub hX dX0_dayOfYear_51 ?_
        refine g_iret hX hR dX0_dayOfYear_52 rfl rfl (by decide) (by decide) ?_
        exact kint hK (by unfold placeZ bZ; split <;> omega)
  · refine g_iload hX dX0_dayOfYear_5 rfl ?_
    refine g_getsM hX dX0_dayOfYear_6 ?_
    refine z_alenM hX dX0_dayOfYear_9 ?_
    refine z_icmp_gt hX dX0_dayOfYear_10 (by constructor <;> omega) (by constructor <;> omega) (fun c10 => ?_) (fun c10 => ?_)
    · refine g_const hX dX0_dayOfYear_23 ?_
      refine g_istore hX dX0_dayOfYear_24 ?_
      dsimp only [List.set]
      refine g_iload hX dX0_dayOfYear_25 rfl ?_
      refine g_const hX dX0_dayOfYear_26 ?_
      refine z_icmp_le hX dX0_dayOfYear_27 (by constructor <;> omega) (by constructor <;> omega) (fun c27 => ?_) (fun c27 => ?_)
      · refine g_const hX dX0_dayOfYear_41 ?_
        refine g_istore hX dX0_dayOfYear_42 ?_
        dsimp only [List.set]
        refine g_iload hX dX0_dayOfYear_44 rfl ?_
        refine g_iload hX dX0_dayOfYear_45 rfl ?_
        refine z_iadd hX dX0_dayOfYear_47 ?_
        refine g_iload hX dX0_dayOfYear_48 rfl ?_
        refine z_iadd hX dX0_dayOfYear_49 ?_
        refine g_const hX dX0_dayOfYear_50 ?_
        refine z_isub hX dX0_dayOfYear_51 ?_
        refine g_iret hX hR dX0_dayOfYear_52 rfl rfl (by decide) (by decide) ?_
        exact kint hK (by unfold placeZ bZ; split <;> omega)
      · refine g_iload hX dX0_dayOfYear_30 rfl ?_
        refine g_cS1 (c2 := 0) (s2 := 0) hX (s_X0_isLeap hst) dX0_dayOfYear_31 (by first | exact Nat.le_of_ble_eq_true rfl | simp [cat_rf, Value.category]) ⟨rfl, rfl, by decide, by decide⟩ ?_
        refine ⟨_, rfl, by omega, Kc_i ?_⟩
        refine z_ifb_eq hX dX0_dayOfYear_34 (fun c34 => ?_) (fun c34 => ?_)
        · refine g_const hX dX0_dayOfYear_41 ?_
          refine g_istore hX dX0_dayOfYear_42 ?_
          dsimp only [List.set]
          refine g_iload hX dX0_dayOfYear_44 rfl ?_
          refine g_iload hX dX0_dayOfYear_45 rfl ?_
          refine z_iadd hX dX0_dayOfYear_47 ?_
          refine g_iload hX dX0_dayOfYear_48 rfl ?_
          refine z_iadd hX dX0_dayOfYear_49 ?_
          refine g_const hX dX0_dayOfYear_50 ?_
          refine z_isub hX dX0_dayOfYear_51 ?_
          refine g_iret hX hR dX0_dayOfYear_52 rfl rfl (by decide) (by decide) ?_
          exact kint hK (by unfold placeZ bZ; split <;> omega)
        · refine g_const hX dX0_dayOfYear_37 ?_
          refine g_goto hX dX0_dayOfYear_38 ?_
          refine g_istore hX dX0_dayOfYear_42 ?_
          dsimp only [List.set]
          refine g_iload hX dX0_dayOfYear_44 rfl ?_
          refine g_iload hX dX0_dayOfYear_45 rfl ?_
          refine z_iadd hX dX0_dayOfYear_47 ?_
          refine g_iload hX dX0_dayOfYear_48 rfl ?_
          refine z_iadd hX dX0_dayOfYear_49 ?_
          refine g_const hX dX0_dayOfYear_50 ?_
          refine z_isub hX dX0_dayOfYear_51 ?_
          refine g_iret hX hR dX0_dayOfYear_52 rfl rfl (by decide) (by decide) ?_
          exact kint hK (by unfold placeZ bZ; split <;> omega)
    · refine g_getsM hX dX0_dayOfYear_13 ?_
      refine g_iload hX dX0_dayOfYear_16 rfl ?_
      refine g_const hX dX0_dayOfYear_17 ?_
      refine z_isub hX dX0_dayOfYear_18 ?_
      refine z_ialdM hX dX0_dayOfYear_19 (by omega) (by omega) ?_
      have hfm := fMz_r (m - 1).toNat
      refine g_goto hX dX0_dayOfYear_20 ?_
      refine g_istore hX dX0_dayOfYear_24 ?_
      dsimp only [List.set]
      refine g_iload hX dX0_dayOfYear_25 rfl ?_
      refine g_const hX dX0_dayOfYear_26 ?_
      refine z_icmp_le hX dX0_dayOfYear_27 (by constructor <;> omega) (by constructor <;> omega) (fun c27 => ?_) (fun c27 => ?_)
      · refine g_const hX dX0_dayOfYear_41 ?_
        refine g_istore hX dX0_dayOfYear_42 ?_
        dsimp only [List.set]
        refine g_iload hX dX0_dayOfYear_44 rfl ?_
        refine g_iload hX dX0_dayOfYear_45 rfl ?_
        refine z_iadd hX dX0_dayOfYear_47 ?_
        refine g_iload hX dX0_dayOfYear_48 rfl ?_
        refine z_iadd hX dX0_dayOfYear_49 ?_
        refine g_const hX dX0_dayOfYear_50 ?_
        refine z_isub hX dX0_dayOfYear_51 ?_
        refine g_iret hX hR dX0_dayOfYear_52 rfl rfl (by decide) (by decide) ?_
        exact kint hK (by unfold placeZ bZ; split <;> omega)
      · refine g_iload hX dX0_dayOfYear_30 rfl ?_
        refine g_cS1 (c2 := 0) (s2 := 0) hX (s_X0_isLeap hst) dX0_dayOfYear_31 (by first | exact Nat.le_of_ble_eq_true rfl | simp [cat_rf, Value.category]) ⟨rfl, rfl, by decide, by decide⟩ ?_
        refine ⟨_, rfl, by omega, Kc_i ?_⟩
        refine z_ifb_eq hX dX0_dayOfYear_34 (fun c34 => ?_) (fun c34 => ?_)
        · refine g_const hX dX0_dayOfYear_41 ?_
          refine g_istore hX dX0_dayOfYear_42 ?_
          dsimp only [List.set]
          refine g_iload hX dX0_dayOfYear_44 rfl ?_
          refine g_iload hX dX0_dayOfYear_45 rfl ?_
          refine z_iadd hX dX0_dayOfYear_47 ?_
          refine g_iload hX dX0_dayOfYear_48 rfl ?_
          refine z_iadd hX dX0_dayOfYear_49 ?_
          refine g_const hX dX0_dayOfYear_50 ?_
          refine z_isub hX dX0_dayOfYear_51 ?_
          refine g_iret hX hR dX0_dayOfYear_52 rfl rfl (by decide) (by decide) ?_
          exact kint hK (by unfold placeZ bZ; split <;> omega)
        · refine g_const hX dX0_dayOfYear_37 ?_
          refine g_goto hX dX0_dayOfYear_38 ?_
          refine g_istore hX dX0_dayOfYear_42 ?_
          dsimp only [List.set]
          refine g_iload hX dX0_dayOfYear_44 rfl ?_
          refine g_iload hX dX0_dayOfYear_45 rfl ?_
          refine z_iadd hX dX0_dayOfYear_47 ?_
          refine g_iload hX dX0_dayOfYear_48 rfl ?_
          refine z_iadd hX dX0_dayOfYear_49 ?_
          refine g_const hX dX0_dayOfYear_50 ?_
          refine z_isub hX dX0_dayOfYear_51 ?_
          refine g_iret hX hR dX0_dayOfYear_52 rfl rfl (by decide) (by decide) ?_
          exact kint hK (by unfold placeZ bZ; split <;> omega)

def sp_X0_dayNumber : hS := fun as M sz K => ∃ y p : Int, as = [.int (iZ y), .int (iZ p)] ∧ (1600 ≤ y ∧ y ≤ 5000) ∧ (-100000 ≤ p ∧ p ≤ 100000) ∧ K (.inl (some (.int (iZ (dnumZ y p))))) M sz
theorem s_X0_dayNumber {l : Launch} {g : hG} (hst : l.stackTraces = false) : Ctr l g mX0_dayNumber sp_X0_dayNumber := by
  refine Ctr.mk9 hst (by decide) ?_ ?_
  · rintro as M sz K ⟨y, p, rfl, hy, hp, hK⟩
    exact ⟨by simp [mX0_dayNumber], cat_ok rfl⟩
  rintro X as M sz K hX rfl rfl hR ⟨y, p, rfl, hy, hp, hK⟩
  show G X 0 [.int (iZ y), .int (iZ p), U9, U9] [] M sz 0 0
  refine g_iload hX dX0_dayNumber_0 rfl ?_
  refine g_const hX dX0_dayNumber_1 ?_
  refine z_isub hX dX0_dayNumber_4 ?_
  refine g_istore hX dX0_dayNumber_5 ?_
  dsimp only [List.set]
  refine g_iload hX dX0_dayNumber_6 rfl ?_
  refine g_const hX dX0_dayNumber_7 ?_
  refine z_iadd hX dX0_dayNumber_8 ?_
  refine g_const hX dX0_dayNumber_9 ?_
  refine z_idiv hX dX0_dayNumber_10 (by constructor <;> omega) (by constructor <;> omega) (by omega) (by omega) ?_
  refine g_iload hX dX0_dayNumber_11 rfl ?_
  refine g_const hX dX0_dayNumber_12 ?_
  refine z_iadd hX dX0_dayNumber_14 ?_
  refine g_const hX dX0_dayNumber_15 ?_
  refine z_idiv hX dX0_dayNumber_17 (by constructor <;> omega) (by constructor <;> omega) (by omega) (by omega) ?_
  refine z_isub hX dX0_dayNumber_18 ?_
  refine g_iload hX dX0_dayNumber_19 rfl ?_
  refine g_const hX dX0_dayNumber_20 ?_
  refine z_iadd hX dX0_dayNumber_23 ?_
  refine g_const hX dX0_dayNumber_24 ?_
  refine z_idiv hX dX0_dayNumber_27 (by constructor <;> omega) (by constructor <;> omega) (by omega) (by omega) ?_
  refine z_iadd hX dX0_dayNumber_28 ?_
  refine g_istore hX dX0_dayNumber_29 ?_
  dsimp only [List.set]
  refine g_const hX dX0_dayNumber_30 ?_
  refine g_iload hX dX0_dayNumber_33 rfl ?_
  refine z_imul hX dX0_dayNumber_34 ?_
  refine g_iload hX dX0_dayNumber_35 rfl ?_
  refine z_iadd hX dX0_dayNumber_36 ?_
  refine g_iload hX dX0_dayNumber_37 rfl ?_
  refine z_iadd hX dX0_dayNumber_38 ?_
  refine g_iret hX hR dX0_dayNumber_39 rfl rfl (by decide) (by decide) ?_
  exact kint hK (by unfold dnumZ; omega)

theorem dnum_r {y p : Int} (hy : 1600 ≤ y ∧ y ≤ 5000) (hp : -100000 ≤ p ∧ p ≤ 100000) : p ≤ dnumZ y p ∧ dnumZ y p ≤ 2000000 := by
  unfold dnumZ
  omega

def sp_X0_dayOfWeek : hS := fun as M sz K => ∃ y p : Int, as = [.int (iZ y), .int (iZ p)] ∧ (1600 ≤ y ∧ y ≤ 5000) ∧ (0 ≤ p ∧ p ≤ 100000) ∧ K (.inl (some (.int (iZ (wdayZ y p))))) M sz
theorem s_X0_dayOfWeek {l : Launch} {g : hG} (hst : l.stackTraces = false) : Ctr l g mX0_dayOfWeek sp_X0_dayOfWeek := by
  refine Ctr.mk9 hst (by decide) ?_ ?_
  · rintro as M sz K ⟨y, p, rfl, hy, hp, hK⟩
    exact ⟨by simp [mX0_dayOfWeek], cat_ok rfl⟩
  rintro X as M sz K hX rfl rfl hR ⟨y, p, rfl, hy, hp, hK⟩
  show G X 0 [.int (iZ y), .int (iZ p)] [] M sz 0 0
  refine g_iload hX dX0_dayOfWeek_0 rfl ?_
  refine g_iload hX dX0_dayOfWeek_1 rfl ?_
  refine g_cS2 (c2 := 0) (s2 := 0) hX (s_X0_dayNumber hst) dX0_dayOfWeek_2 (by first | exact Nat.le_of_ble_eq_true rfl | simp [cat_rf, Value.category]) ⟨rfl, rfl, by decide, by decide⟩ ?_
  refine ⟨_, _, rfl, by omega, by omega, Kc_i ?_⟩
  have hdn := dnum_r (p := p) (y := y) (by omega) (by omega)
  refine g_const hX dX0_dayOfWeek_5 ?_
  refine z_iadd hX dX0_dayOfWeek_7 ?_
  refine g_const hX dX0_dayOfWeek_8 ?_
  refine z_irem hX dX0_dayOfWeek_10 (by constructor <;> omega) (by constructor <;> omega) (by omega) (by omega) ?_
  refine g_iret hX hR dX0_dayOfWeek_11 rfl rfl (by decide) (by decide) ?_
  exact hK

theorem eaE_r (y : Int) : 0 ≤ eaE y ∧ eaE y < 30 := by unfold eaE; omega
theorem eaE2_r (y : Int) : 0 ≤ eaE2 y ∧ eaE2 y < 30 := by
  have := eaE_r y
  unfold eaE2
  split <;> omega
theorem east_r (y : Int) : 22 ≤ eastZ y ∧ eastZ y ≤ 58 := by
  have := eaE2_r y
  unfold eastZ eaN
  split <;> omega

def sp_X0_easterAsDayOfMarch : hS := fun as M sz K => ∃ y : Int, as = [.int (iZ y)] ∧ (1600 ≤ y ∧ y ≤ 2399) ∧ K (.inl (some (.int (iZ (eastZ y))))) M sz
theorem s_X0_easterAsDayOfMarch {l : Launch} {g : hG} (hst : l.stackTraces = false) : Ctr l g mX0_easterAsDayOfMarch sp_X0_easterAsDayOfMarch := by
  refine Ctr.mk9 hst (by decide) ?_ ?_
  · rintro as M sz K ⟨y, rfl, hy, hK⟩
    exact ⟨by simp [mX0_easterAsDayOfMarch], cat_ok rfl⟩
  rintro X as M sz K hX rfl rfl hR ⟨y, rfl, hy, hK⟩
  show G X 0 [.int (iZ y), U9, U9, U9, U9, U9, U9, U9] [] M sz 0 0
  refine g_iload hX dX0_easterAsDayOfMarch_0 rfl ?_
  refine g_const hX dX0_easterAsDayOfMarch_1 ?_
  refine z_irem hX dX0_easterAsDayOfMarch_3 (by constructor <;> omega) (by constructor <;> omega) (by omega) (by omega) ?_
  refine g_const hX dX0_easterAsDayOfMarch_4 ?_
  refine z_iadd hX dX0_easterAsDayOfMarch_5 ?_
  refine g_istore hX dX0_easterAsDayOfMarch_6 ?_
  dsimp only [List.set]
  refine g_iload hX dX0_easterAsDayOfMarch_7 rfl ?_
  refine g_const hX dX0_easterAsDayOfMarch_8 ?_
  refine z_idiv hX dX0_easterAsDayOfMarch_10 (by constructor <;> omega) (by constructor <;> omega) (by omega) (by omega) ?_
  refine g_const hX dX0_easterAsDayOfMarch_11 ?_
  refine z_iadd hX dX0_easterAsDayOfMarch_12 ?_
  refine g_istore hX dX0_easterAsDayOfMarch_13 ?_
  dsimp only [List.set]
  refine g_const hX dX0_easterAsDayOfMarch_14 ?_
  refine g_iload hX dX0_easterAsDayOfMarch_15 rfl ?_
  refine z_imul hX dX0_easterAsDayOfMarch_16 ?_
  refine g_const hX dX0_easterAsDayOfMarch_17 ?_
  refine z_idiv hX dX0_easterAsDayOfMarch_18 (by constructor <;> omega) (by constructor <;> omega) (by omega) (by omega) ?_
  refine g_const hX dX0_easterAsDayOfMarch_19 ?_
  refine z_isub hX dX0_easterAsDayOfMarch_21 ?_
  refine g_istore hX dX0_easterAsDayOfMarch_22 ?_
  dsimp only [List.set]
  rw [show (3 * (y / 100 + 1) / 4 - 12 : Int) = eaX y from rfl]
  have heaX : 0 ≤ eaX y ∧ eaX y ≤ 8 := by unfold eaX; omega
  refine g_const hX dX0_easterAsDayOfMarch_23 ?_
  refine g_iload hX dX0_easterAsDayOfMarch_25 rfl ?_
  refine z_imul hX dX0_easterAsDayOfMarch_26 ?_
  refine g_const hX dX0_easterAsDayOfMarch_27 ?_
  refine z_iadd hX dX0_easterAsDayOfMarch_28 ?_
  refine g_const hX dX0_easterAsDayOfMarch_29 ?_
  refine z_idiv hX dX0_easterAsDayOfMarch_31 (by constructor <;> omega) (by constructor <;> omega) (by omega) (by omega) ?_
  refine g_const hX dX0_easterAsDayOfMarch_32 ?_
  refine z_isub hX dX0_easterAsDayOfMarch_33 ?_
  refine g_istore hX dX0_easterAsDayOfMarch_34 ?_
  dsimp only [List.set]
  rw [show ((8 * (y / 100 + 1) + 5) / 25 - 5 : Int) = eaZ y from rfl]
  have heaZ : 0 ≤ eaZ y ∧ eaZ y ≤ 8 := by unfold eaZ; omega
  refine g_const hX dX0_easterAsDayOfMarch_36 ?_
  refine g_iload hX dX0_easterAsDayOfMarch_37 rfl ?_
  refine z_imul hX dX0_easterAsDayOfMarch_38 ?_
  refine g_const hX dX0_easterAsDayOfMarch_39 ?_
  refine z_idiv hX dX0_easterAsDayOfMarch_40 (by constructor <;> omega) (by constructor <;> omega) (by omega) (by omega) ?_
  refine g_iload hX dX0_easterAsDayOfMarch_41 rfl ?_
  refine z_isub hX dX0_easterAsDayOfMarch_42 ?_
  refine g_const hX dX0_easterAsDayOfMarch_43 ?_
  refine z_isub hX dX0_easterAsDayOfMarch_45 ?_
  refine g_istore hX dX0_easterAsDayOfMarch_46 ?_
  dsimp only [List.set]
  rw [show (5 * y / 4 - eaX y - 10 : Int) = eaD y from rfl]
  have heaD : 1000 ≤ eaD y ∧ eaD y ≤ 4000 := by unfold eaD; omega
  refine g_const hX dX0_easterAsDayOfMarch_48 ?_
  refine g_iload hX dX0_easterAsDayOfMarch_50 rfl ?_
  refine z_imul hX dX0_easterAsDayOfMarch_51 ?_
  refine g_const hX dX0_easterAsDayOfMarch_52 ?_
  refine z_iadd hX dX0_easterAsDayOfMarch_54 ?_
  refine g_iload hX dX0_easterAsDayOfMarch_55 rfl ?_
  refine z_iadd hX dX0_easterAsDayOfMarch_57 ?_
  refine g_iload hX dX0_easterAsDayOfMarch_58 rfl ?_
  refine z_isub hX dX0_easterAsDayOfMarch_59 ?_
  refine g_const hX dX0_easterAsDayOfMarch_60 ?_
  refine z_irem hX dX0_easterAsDayOfMarch_62 (by constructor <;> omega) (by constructor <;> omega) (by omega) (by omega) ?_
  refine g_istore hX dX0_easterAsDayOfMarch_63 ?_
  dsimp only [List.set]
  rw [show ((11 * (y % 19 + 1) + 20 + eaZ y - eaX y) % 30 : Int) = eaE y from rfl]
  have heaE : 0 ≤ eaE y ∧ eaE y < 30 := by unfold eaE; omega
  refine g_iload hX dX0_easterAsDayOfMarch_65 rfl ?_
  refine g_const hX dX0_easterAsDayOfMarch_67 ?_
  refine z_icmp_eq hX dX0_easterAsDayOfMarch_69 (by constructor <;> omega) (by constructor <;> omega) (fun c69 => ?_) (fun c69 => ?_)
  · refine z_iinc hX dX0_easterAsDayOfMarch_85 rfl ?_
    dsimp only [List.set]
    refine g_const hX dX0_easterAsDayOfMarch_88 ?_
    refine g_iload hX dX0_easterAsDayOfMarch_90 rfl ?_
    refine z_isub hX dX0_easterAsDayOfMarch_92 ?_
    refine g_istore hX dX0_easterAsDayOfMarch_93 ?_
    dsimp only [List.set]
    refine g_iload hX dX0_easterAsDayOfMarch_95 rfl ?_
    refine g_const hX dX0_easterAsDayOfMarch_97 ?_
    refine z_icmp_ge hX dX0_easterAsDayOfMarch_99 (by constructor <;> omega) (by constructor <;> omega) (fun c99 => ?_) (fun c99 => ?_)
    · refine g_iload hX dX0_easterAsDayOfMarch_105 rfl ?_
      refine g_const hX dX0_easterAsDayOfMarch_107 ?_
      refine z_iadd hX dX0_easterAsDayOfMarch_109 ?_
      refine g_iload hX dX0_easterAsDayOfMarch_110 rfl ?_
      refine g_iload hX dX0_easterAsDayOfMarch_112 rfl ?_
      refine z_iadd hX dX0_easterAsDayOfMarch_114 ?_
      refine g_const hX dX0_easterAsDayOfMarch_115 ?_
      refine z_irem hX dX0_easterAsDayOfMarch_117 (by constructor <;> omega) (by constructor <;> omega) (by omega) (by omega) ?_
      refine z_isub hX dX0_easterAsDayOfMarch_118 ?_
      refine g_iret hX hR dX0_easterAsDayOfMarch_119 rfl rfl (by decide) (by decide) ?_
      exact kint hK (by unfold eastZ eaN eaE2; simp_all <;> omega)
    · refine z_iinc hX dX0_easterAsDayOfMarch_102 rfl ?_
      dsimp only [List.set]
      refine g_iload hX dX0_easterAsDayOfMarch_105 rfl ?_
      refine g_const hX dX0_easterAsDayOfMarch_107 ?_
      refine z_iadd hX dX0_easterAsDayOfMarch_109 ?_
      refine g_iload hX dX0_easterAsDayOfMarch_110 rfl ?_
      refine g_iload hX dX0_easterAsDayOfMarch_112 rfl ?_
      refine z_iadd hX dX0_easterAsDayOfMarch_114 ?_
      refine g_const hX dX0_easterAsDayOfMarch_115 ?_
      refine z_irem hX dX0_easterAsDayOfMarch_117 (by constructor <;> omega) (by constructor <;> omega) (by omega) (by omega) ?_
      refine z_isub hX dX0_easterAsDayOfMarch_118 ?_
      refine g_iret hX hR dX0_easterAsDayOfMarch_119 rfl rfl (by decide) (by decide) ?_
      exact kint hK (by unfold eastZ eaN eaE2; simp_all <;> omega)
  · refine g_iload hX dX0_easterAsDayOfMarch_72 rfl ?_
    refine g_const hX dX0_easterAsDayOfMarch_74 ?_
    refine z_icmp_ne hX dX0_easterAsDayOfMarch_76 (by constructor <;> omega) (by constructor <;> omega) (fun c76 => ?_) (fun c76 => ?_)
    · refine g_const hX dX0_easterAsDayOfMarch_88 ?_
      refine g_iload hX dX0_easterAsDayOfMarch_90 rfl ?_
      refine z_isub hX dX0_easterAsDayOfMarch_92 ?_
      refine g_istore hX dX0_easterAsDayOfMarch_93 ?_
      dsimp only [List.set]
      refine g_iload hX dX0_easterAsDayOfMarch_95 rfl ?_
      refine g_const hX dX0_easterAsDayOfMarch_97 ?_
      refine z_icmp_ge hX dX0_easterAsDayOfMarch_99 (by constructor <;> omega) (by constructor <;> omega) (fun c99 => ?_) (fun c99 => ?_)
      · refine g_iload hX dX0_easterAsDayOfMarch_105 rfl ?_
        refine g_const hX dX0_easterAsDayOfMarch_107 ?_
        refine z_iadd hX dX0_easterAsDayOfMarch_109 ?_
        refine g_iload hX dX0_easterAsDayOfMarch_110 rfl ?_
        refine g_iload hX dX0_easterAsDayOfMarch_112 rfl ?_
        refine z_iadd hX dX0_easterAsDayOfMarch_114 ?_
        refine g_const hX dX0_easterAsDayOfMarch_115 ?_
        refine z_irem hX dX0_easterAsDayOfMarch_117 (by constructor <;> omega) (by constructor <;> omega) (by omega) (by omega) ?_
        refine z_isub hX dX0_easterAsDayOfMarch_118 ?_
        refine g_iret hX hR dX0_easterAsDayOfMarch_119 rfl rfl (by decide) (by decide) ?_
        exact kint hK (by unfold eastZ eaN eaE2; simp_all <;> omega)
      · refine z_iinc hX dX0_easterAsDayOfMarch_102 rfl ?_
        dsimp only [List.set]
        refine g_iload hX dX0_easterAsDayOfMarch_105 rfl ?_
        refine g_const hX dX0_easterAsDayOfMarch_107 ?_
        refine z_iadd hX dX0_easterAsDayOfMarch_109 ?_
        refine g_iload hX dX0_easterAsDayOfMarch_110 rfl ?_
        refine g_iload hX dX0_easterAsDayOfMarch_112 rfl ?_
        refine z_iadd hX dX0_easterAsDayOfMarch_114 ?_
        refine g_const hX dX0_easterAsDayOfMarch_115 ?_
        refine z_irem hX dX0_easterAsDayOfMarch_117 (by constructor <;> omega) (by constructor <;> omega) (by omega) (by omega) ?_
        refine z_isub hX dX0_easterAsDayOfMarch_118 ?_
        refine g_iret hX hR dX0_easterAsDayOfMarch_119 rfl rfl (by decide) (by decide) ?_
        exact kint hK (by unfold eastZ eaN eaE2; simp_all <;> omega)
    · refine g_iload hX dX0_easterAsDayOfMarch_79 rfl ?_
      refine g_const hX dX0_easterAsDayOfMarch_80 ?_
      refine z_icmp_le hX dX0_easterAsDayOfMarch_82 (by constructor <;> omega) (by constructor <;> omega) (fun c82 => ?_) (fun c82 => ?_)
      · refine g_const hX dX0_easterAsDayOfMarch_88 ?_
        refine g_iload hX dX0_easterAsDayOfMarch_90 rfl ?_
        refine z_isub hX dX0_easterAsDayOfMarch_92 ?_
        refine g_istore hX dX0_easterAsDayOfMarch_93 ?_
        dsimp only [List.set]
        refine g_iload hX dX0_easterAsDayOfMarch_95 rfl ?_
        refine g_const hX dX0_easterAsDayOfMarch_97 ?_
        refine z_icmp_ge hX dX0_easterAsDayOfMarch_99 (by constructor <;> omega) (by constructor <;> omega) (fun c99 => ?_) (fun c99 => ?_)
        · refine g_iload hX dX0_easterAsDayOfMarch_105 rfl ?_
          refine g_const hX dX0_easterAsDayOfMarch_107 ?_
          refine z_iadd hX dX0_easterAsDayOfMarch_109 ?_
          refine g_iload hX dX0_easterAsDayOfMarch_110 rfl ?_
          refine g_iload hX dX0_easterAsDayOfMarch_112 rfl ?_
          refine z_iadd hX dX0_easterAsDayOfMarch_114 ?_
          refine g_const hX dX0_easterAsDayOfMarch_115 ?_
          refine z_irem hX dX0_easterAsDayOfMarch_117 (by constructor <;> omega) (by constructor <;> omega) (by omega) (by omega) ?_
          refine z_isub hX dX0_easterAsDayOfMarch_118 ?_
          refine g_iret hX hR dX0_easterAsDayOfMarch_119 rfl rfl (by decide) (by decide) ?_
          exact kint hK (by unfold eastZ eaN eaE2; simp_all <;> omega)
        · refine z_iinc hX dX0_easterAsDayOfMarch_102 rfl ?_
          dsimp only [List.set]
          refine g_iload hX dX0_easterAsDayOfMarch_105 rfl ?_
          refine g_const hX dX0_easterAsDayOfMarch_107 ?_
          refine z_iadd hX dX0_easterAsDayOfMarch_109 ?_
          refine g_iload hX dX0_easterAsDayOfMarch_110 rfl ?_
          refine g_iload hX dX0_easterAsDayOfMarch_112 rfl ?_
          refine z_iadd hX dX0_easterAsDayOfMarch_114 ?_
          refine g_const hX dX0_easterAsDayOfMarch_115 ?_
          refine z_irem hX dX0_easterAsDayOfMarch_117 (by constructor <;> omega) (by constructor <;> omega) (by omega) (by omega) ?_
          refine z_isub hX dX0_easterAsDayOfMarch_118 ?_
          refine g_iret hX hR dX0_easterAsDayOfMarch_119 rfl rfl (by decide) (by decide) ?_
          exact kint hK (by unfold eastZ eaN eaE2; simp_all <;> omega)
      · refine z_iinc hX dX0_easterAsDayOfMarch_85 rfl ?_
        dsimp only [List.set]
        refine g_const hX dX0_easterAsDayOfMarch_88 ?_
        refine g_iload hX dX0_easterAsDayOfMarch_90 rfl ?_
        refine z_isub hX dX0_easterAsDayOfMarch_92 ?_
        refine g_istore hX dX0_easterAsDayOfMarch_93 ?_
        dsimp only [List.set]
        refine g_iload hX dX0_easterAsDayOfMarch_95 rfl ?_
        refine g_const hX dX0_easterAsDayOfMarch_97 ?_
        refine z_icmp_ge hX dX0_easterAsDayOfMarch_99 (by constructor <;> omega) (by constructor <;> omega) (fun c99 => ?_) (fun c99 => ?_)
        · refine g_iload hX dX0_easterAsDayOfMarch_105 rfl ?_
          refine g_const hX dX0_easterAsDayOfMarch_107 ?_
          refine z_iadd hX dX0_easterAsDayOfMarch_109 ?_
          refine g_iload hX dX0_easterAsDayOfMarch_110 rfl ?_
          refine g_iload hX dX0_easterAsDayOfMarch_112 rfl ?_
          refine z_iadd hX dX0_easterAsDayOfMarch_114 ?_
          refine g_const hX dX0_easterAsDayOfMarch_115 ?_
          refine z_irem hX dX0_easterAsDayOfMarch_117 (by constructor <;> omega) (by constructor <;> omega) (by omega) (by omega) ?_
          refine z_isub hX dX0_easterAsDayOfMarch_118 ?_
          refine g_iret hX hR dX0_easterAsDayOfMarch_119 rfl rfl (by decide) (by decide) ?_
          exact kint hK (by unfold eastZ eaN eaE2; simp_all <;> omega)
        · refine z_iinc hX dX0_easterAsDayOfMarch_102 rfl ?_
          dsimp only [List.set]
          refine g_iload hX dX0_easterAsDayOfMarch_105 rfl ?_
          refine g_const hX dX0_easterAsDayOfMarch_107 ?_
          refine z_iadd hX dX0_easterAsDayOfMarch_109 ?_
          refine g_iload hX dX0_easterAsDayOfMarch_110 rfl ?_
          refine g_iload hX dX0_easterAsDayOfMarch_112 rfl ?_
          refine z_iadd hX dX0_easterAsDayOfMarch_114 ?_
          refine g_const hX dX0_easterAsDayOfMarch_115 ?_
          refine z_irem hX dX0_easterAsDayOfMarch_117 (by constructor <;> omega) (by constructor <;> omega) (by omega) (by omega) ?_
          refine z_isub hX dX0_easterAsDayOfMarch_118 ?_
          refine g_iret hX hR dX0_easterAsDayOfMarch_119 rfl rfl (by decide) (by decide) ?_
          exact kint hK (by unfold eastZ eaN eaE2; simp_all <;> omega)

theorem place_r {y m d : Int} (hm : 1 ≤ m ∧ m ≤ 12) : d - 1 ≤ placeZ y m d ∧ placeZ y m d ≤ 334 + d := by
  have h1 := fMz_r (m - 1).toNat
  have h2 := bZ_le (2 < m ∧ leapZ y)
  unfold placeZ
  omega
theorem monZ_s (y p : Int) (n : Nat) (m : Int) : monZ y p (n + 1) m = if m < 12 ∧ placeZ y (m + 1) 1 ≤ p then monZ y p n (m + 1) else m := rfl
theorem mon_r (y p : Int) : ∀ (n : Nat) (m : Int), 1 ≤ m → m ≤ 12 → m ≤ monZ y p n m ∧ monZ y p n m ≤ 12
  | 0, m, h1, h2 => ⟨Int.le_refl m, h2⟩
  | n + 1, m, h1, h2 => by
    unfold monZ
    split
    · have := mon_r y p n (m + 1) (by omega) (by omega)
      omega
    · omega
theorem mon_top (y p : Int) (n : Nat) : monZ y p n 12 = 12 := by
  cases n <;> simp [monZ]

def sp_X0_monthAndDay : hS := fun as M sz K => ∃ y p : Int, as = [.int (iZ y), .int (iZ p)] ∧ (1600 ≤ y ∧ y ≤ 2399) ∧ (-1000 ≤ p ∧ p ≤ 1000) ∧ K (.inl (some (.int (iZ (dateZ y p))))) M sz
theorem s_X0_monthAndDay {l : Launch} {g : hG} (hst : l.stackTraces = false) : Ctr l g mX0_monthAndDay sp_X0_monthAndDay := by
  refine Ctr.mk9 hst (by decide) ?_ ?_
  · rintro as M sz K ⟨y, p, rfl, hy, hp, hK⟩
    exact ⟨by simp [mX0_monthAndDay], cat_ok rfl⟩
  rintro X as M sz K hX rfl rfl hR ⟨y, p, rfl, hy, hp, hK⟩
  show G X 0 [.int (iZ y), .int (iZ p), U9] [] M sz 0 0
  have loop : ∀ (k9 : Nat) (m : Int), 1 ≤ m → m ≤ 12 → m + k9 = 13 → monZ y p k9 m = monZ y p 12 1 → G X 2 [.int (iZ y), .int (iZ p), .int (iZ m)] [] M sz 0 0 := by
    intro k9
    induction k9 with
    | zero => intro m h1 h2 h3; omega
    | succ k9 ih =>
    intro m h1 h2 h3 hs
    refine g_iload hX dX0_monthAndDay_2 rfl ?_
    refine g_const hX dX0_monthAndDay_3 ?_
    refine z_icmp_ge hX dX0_monthAndDay_5 (by constructor <;> omega) (by constructor <;> omega) (fun c5 => ?_) (fun c5 => ?_)
    · have hs : m = monZ y p 12 1 := by rw [← hs]; first | (have e9 : m = 12 := by omega) ; (rw [e9, mon_top]) | (rw [monZ_s, if_neg (by omega)])
      refine g_const hX dX0_monthAndDay_26 ?_
      refine g_iload hX dX0_monthAndDay_28 rfl ?_
      refine z_imul hX dX0_monthAndDay_29 ?_
      refine g_iload hX dX0_monthAndDay_30 rfl ?_
      refine z_iadd hX dX0_monthAndDay_31 ?_
      refine g_iload hX dX0_monthAndDay_32 rfl ?_
      refine g_iload hX dX0_monthAndDay_33 rfl ?_
      refine g_const hX dX0_monthAndDay_34 ?_
      refine g_cS3 (c2 := 0) (s2 := 0) hX (s_X0_dayOfYear hst) dX0_monthAndDay_35 (by first | exact Nat.le_of_ble_eq_true rfl | simp [cat_rf, Value.category]) ⟨rfl, rfl, by decide, by decide⟩ ?_
      refine ⟨_, _, _, rfl, by omega, by omega, by omega, Kc_i ?_⟩
      have hpl := place_r (y := y) (m := m) (d := 1) (by omega)
      refine z_isub hX dX0_monthAndDay_38 ?_
      refine g_const hX dX0_monthAndDay_39 ?_
      refine z_iadd hX dX0_monthAndDay_40 ?_
      refine g_iret hX hR dX0_monthAndDay_41 rfl rfl (by decide) (by decide) ?_
      exact kint hK (by rw [hs]; unfold dateZ; omega)
    · refine g_iload hX dX0_monthAndDay_8 rfl ?_
      refine g_iload hX dX0_monthAndDay_9 rfl ?_
      refine g_iload hX dX0_monthAndDay_10 rfl ?_
      refine g_const hX dX0_monthAndDay_11 ?_
      refine z_iadd hX dX0_monthAndDay_12 ?_
      refine g_const hX dX0_monthAndDay_13 ?_
      refine g_cS3 (c2 := 0) (s2 := 0) hX (s_X0_dayOfYear hst) dX0_monthAndDay_14 (by first | exact Nat.le_of_ble_eq_true rfl | simp [cat_rf, Value.category]) ⟨rfl, rfl, by decide, by decide⟩ ?_
      refine ⟨_, _, _, rfl, by omega, by omega, by omega, Kc_i ?_⟩
      have hpl := place_r (y := y) (m := (m + 1)) (d := 1) (by omega)
      refine z_icmp_lt hX dX0_monthAndDay_17 (by constructor <;> omega) (by constructor <;> omega) (fun c17 => ?_) (fun c17 => ?_)
      · have hs : m = monZ y p 12 1 := by rw [← hs]; first | (have e9 : m = 12 := by omega) ; (rw [e9, mon_top]) | (rw [monZ_s, if_neg (by omega)])
        refine g_const hX dX0_monthAndDay_26 ?_
        refine g_iload hX dX0_monthAndDay_28 rfl ?_
        refine z_imul hX dX0_monthAndDay_29 ?_
        refine g_iload hX dX0_monthAndDay_30 rfl ?_
        refine z_iadd hX dX0_monthAndDay_31 ?_
        refine g_iload hX dX0_monthAndDay_32 rfl ?_
        refine g_iload hX dX0_monthAndDay_33 rfl ?_
        refine g_const hX dX0_monthAndDay_34 ?_
        refine g_cS3 (c2 := 0) (s2 := 0) hX (s_X0_dayOfYear hst) dX0_monthAndDay_35 (by first | exact Nat.le_of_ble_eq_true rfl | simp [cat_rf, Value.category]) ⟨rfl, rfl, by decide, by decide⟩ ?_
        refine ⟨_, _, _, rfl, by omega, by omega, by omega, Kc_i ?_⟩
        have hpl := place_r (y := y) (m := m) (d := 1) (by omega)
        refine z_isub hX dX0_monthAndDay_38 ?_
        refine g_const hX dX0_monthAndDay_39 ?_
        refine z_iadd hX dX0_monthAndDay_40 ?_
        refine g_iret hX hR dX0_monthAndDay_41 rfl rfl (by decide) (by decide) ?_
        exact kint hK (by rw [hs]; unfold dateZ; omega)
      · refine z_iinc hX dX0_monthAndDay_20 rfl ?_
        dsimp only [List.set]
        refine g_goto hX dX0_monthAndDay_23 ?_
        exact ih (m + 1) (by omega) (by omega) (by omega) (by rw [← hs, monZ_s, if_pos (by omega)])
  refine g_const hX dX0_monthAndDay_0 ?_
  refine g_istore hX dX0_monthAndDay_1 ?_
  dsimp only [List.set]
  exact loop 12 1 (by omega) (by omega) (by omega) rfl

def ebA (y : Int) : Int := y % 19
def ebB (y : Int) : Int := y / 100
def ebC (y : Int) : Int := y % 100
def ebG (y : Int) : Int := (ebB y - (ebB y + 8) / 25 + 1) / 3
def ebH (y : Int) : Int := (19 * ebA y + ebB y - ebB y / 4 - ebG y + 15) % 30
def ebL (y : Int) : Int := (32 + 2 * (ebB y % 4) + 2 * (ebC y / 4) - ebH y - ebC y % 4) % 7
def ebM (y : Int) : Int := (ebA y + 11 * ebH y + 22 * ebL y) / 451
def ebS (y : Int) : Int := ebH y + ebL y - 7 * ebM y + 114
def eastAZ (y : Int) : Int := 100 * (ebS y / 31) + ebS y % 31 + 1
def eastMDZ (y : Int) : Int := if 31 < eastZ y then 400 + eastZ y - 31 else 300 + eastZ y
set_option maxRecDepth 100000 in
theorem east_both9 : ∀ k : Nat, k < 800 → eastAZ (1600 + (k : Int)) = eastMDZ (1600 + (k : Int)) := by decide +kernel
theorem east_both {y : Int} (h1 : 1600 ≤ y) (h2 : y ≤ 2399) : eastAZ y = eastMDZ y := by
  have := east_both9 (y - 1600).toNat (by omega)
  rw [show (1600 : Int) + ((y - 1600).toNat : Int) = y by omega] at this
  exact this

def sp_X0_easterByRests : hS := fun as M sz K => ∃ y : Int, as = [.int (iZ y)] ∧ (1600 ≤ y ∧ y ≤ 2399) ∧ K (.inl (some (.int (iZ (eastAZ y))))) M sz
theorem s_X0_easterByRests {l : Launch} {g : hG} (hst : l.stackTraces = false) : Ctr l g mX0_easterByRests sp_X0_easterByRests := by
  refine Ctr.mk9 hst (by decide) ?_ ?_
  · rintro as M sz K ⟨y, rfl, hy, hK⟩
    exact ⟨by simp [mX0_easterByRests], cat_ok rfl⟩
  rintro X as M sz K hX rfl rfl hR ⟨y, rfl, hy, hK⟩
  show G X 0 [.int (iZ y), U9, U9, U9, U9, U9, U9, U9, U9] [] M sz 0 0
  refine g_iload hX dX0_easterByRests_0 rfl ?_
  refine g_const hX dX0_easterByRests_1 ?_
  refine z_irem hX dX0_easterByRests_3 (by constructor <;> omega) (by constructor <;> omega) (by omega) (by omega) ?_
  refine g_istore hX dX0_easterByRests_4 ?_
  dsimp only [List.set]
  rw [show (y % 19 : Int) = ebA y from rfl]
  have hebA : 0 ≤ ebA y ∧ ebA y ≤ 18 := by unfold ebA; omega
  refine g_iload hX dX0_easterByRests_5 rfl ?_
  refine g_const hX dX0_easterByRests_6 ?_
  refine z_idiv hX dX0_easterByRests_8 (by constructor <;> omega) (by constructor <;> omega) (by omega) (by omega) ?_
  refine g_istore hX dX0_easterByRests_9 ?_
  dsimp only [List.set]
  rw [show (y / 100 : Int) = ebB y from rfl]
  have hebB : 16 ≤ ebB y ∧ ebB y ≤ 23 := by unfold ebB; omega
  refine g_iload hX dX0_easterByRests_10 rfl ?_
  refine g_const hX dX0_easterByRests_11 ?_
  refine z_irem hX dX0_easterByRests_13 (by constructor <;> omega) (by constructor <;> omega) (by omega) (by omega) ?_
  refine g_istore hX dX0_easterByRests_14 ?_
  dsimp only [List.set]
  rw [show (y % 100 : Int) = ebC y from rfl]
  have hebC : 0 ≤ ebC y ∧ ebC y ≤ 99 := by unfold ebC; omega
  refine g_iload hX dX0_easterByRests_15 rfl ?_
  refine g_iload hX dX0_easterByRests_16 rfl ?_
  refine g_const hX dX0_easterByRests_17 ?_
  refine z_iadd hX dX0_easterByRests_19 ?_
  refine g_const hX dX0_easterByRests_20 ?_
  refine z_idiv hX dX0_easterByRests_22 (by constructor <;> omega) (by constructor <;> omega) (by omega) (by omega) ?_
  refine z_isub hX dX0_easterByRests_23 ?_
  refine g_const hX dX0_easterByRests_24 ?_
  refine z_iadd hX dX0_easterByRests_25 ?_
  refine g_const hX dX0_easterByRests_26 ?_
  refine z_idiv hX dX0_easterByRests_27 (by constructor <;> omega) (by constructor <;> omega) (by omega) (by omega) ?_
  refine g_istore hX dX0_easterByRests_28 ?_
  dsimp only [List.set]
  rw [show ((ebB y - (ebB y + 8) / 25 + 1) / 3 : Int) = ebG y from rfl]
  have hebG : 0 ≤ ebG y ∧ ebG y ≤ 10 := by unfold ebG; omega
  refine g_const hX dX0_easterByRests_30 ?_
  refine g_iload hX dX0_easterByRests_32 rfl ?_
  refine z_imul hX dX0_easterByRests_33 ?_
  refine g_iload hX dX0_easterByRests_34 rfl ?_
  refine z_iadd hX dX0_easterByRests_35 ?_
  refine g_iload hX dX0_easterByRests_36 rfl ?_
  refine g_const hX dX0_easterByRests_37 ?_
  refine z_idiv hX dX0_easterByRests_38 (by constructor <;> omega) (by constructor <;> omega) (by omega) (by omega) ?_
  refine z_isub hX dX0_easterByRests_39 ?_
  refine g_iload hX dX0_easterByRests_40 rfl ?_
  refine z_isub hX dX0_easterByRests_42 ?_
  refine g_const hX dX0_easterByRests_43 ?_
  refine z_iadd hX dX0_easterByRests_45 ?_
  refine g_const hX dX0_easterByRests_46 ?_
  refine z_irem hX dX0_easterByRests_48 (by constructor <;> omega) (by constructor <;> omega) (by omega) (by omega) ?_
  refine g_istore hX dX0_easterByRests_49 ?_
  dsimp only [List.set]
  rw [show ((19 * ebA y + ebB y - ebB y / 4 - ebG y + 15) % 30 : Int) = ebH y from rfl]
  have hebH : 0 ≤ ebH y ∧ ebH y ≤ 29 := by unfold ebH; omega
  refine g_const hX dX0_easterByRests_51 ?_
  refine g_const hX dX0_easterByRests_53 ?_
  refine g_iload hX dX0_easterByRests_54 rfl ?_
  refine g_const hX dX0_easterByRests_55 ?_
  refine z_irem hX dX0_easterByRests_56 (by constructor <;> omega) (by constructor <;> omega) (by omega) (by omega) ?_
  refine z_imul hX dX0_easterByRests_57 ?_
  refine z_iadd hX dX0_easterByRests_58 ?_
  refine g_const hX dX0_easterByRests_59 ?_
  refine g_iload hX dX0_easterByRests_60 rfl ?_
  refine g_const hX dX0_easterByRests_61 ?_
  refine z_idiv hX dX0_easterByRests_62 (by constructor <;> omega) (by constructor <;> omega) (by omega) (by omega) ?_
  refine z_imul hX dX0_easterByRests_63 ?_
  refine z_iadd hX dX0_easterByRests_64 ?_
  refine g_iload hX dX0_easterByRests_65 rfl ?_
  refine z_isub hX dX0_easterByRests_67 ?_
  refine g_iload hX dX0_easterByRests_68 rfl ?_
  refine g_const hX dX0_easterByRests_69 ?_
  refine z_irem hX dX0_easterByRests_70 (by constructor <;> omega) (by constructor <;> omega) (by omega) (by omega) ?_
  refine z_isub hX dX0_easterByRests_71 ?_
  refine g_const hX dX0_easterByRests_72 ?_
  refine z_irem hX dX0_easterByRests_74 (by constructor <;> omega) (by constructor <;> omega) (by omega) (by omega) ?_
  refine g_istore hX dX0_easterByRests_75 ?_
  dsimp only [List.set]
  rw [show ((32 + 2 * (ebB y % 4) + 2 * (ebC y / 4) - ebH y - ebC y % 4) % 7 : Int) = ebL y from rfl]
  have hebL : 0 ≤ ebL y ∧ ebL y ≤ 6 := by unfold ebL; omega
  refine g_iload hX dX0_easterByRests_77 rfl ?_
  refine g_const hX dX0_easterByRests_78 ?_
  refine g_iload hX dX0_easterByRests_80 rfl ?_
  refine z_imul hX dX0_easterByRests_82 ?_
  refine z_iadd hX dX0_easterByRests_83 ?_
  refine g_const hX dX0_easterByRests_84 ?_
  refine g_iload hX dX0_easterByRests_86 rfl ?_
  refine z_imul hX dX0_easterByRests_88 ?_
  refine z_iadd hX dX0_easterByRests_89 ?_
  refine g_const hX dX0_easterByRests_90 ?_
  refine z_idiv hX dX0_easterByRests_93 (by constructor <;> omega) (by constructor <;> omega) (by omega) (by omega) ?_
  refine g_istore hX dX0_easterByRests_94 ?_
  dsimp only [List.set]
  rw [show ((ebA y + 11 * ebH y + 22 * ebL y) / 451 : Int) = ebM y from rfl]
  have hebM : 0 ≤ ebM y ∧ ebM y ≤ 3 := by unfold ebM; omega
  refine g_iload hX dX0_easterByRests_96 rfl ?_
  refine g_iload hX dX0_easterByRests_98 rfl ?_
  refine z_iadd hX dX0_easterByRests_100 ?_
  refine g_const hX dX0_easterByRests_101 ?_
  refine g_iload hX dX0_easterByRests_103 rfl ?_
  refine z_imul hX dX0_easterByRests_105 ?_
  refine z_isub hX dX0_easterByRests_106 ?_
  refine g_const hX dX0_easterByRests_107 ?_
  refine z_iadd hX dX0_easterByRests_109 ?_
  refine g_istore hX dX0_easterByRests_110 ?_
  dsimp only [List.set]
  rw [show (ebH y + ebL y - 7 * ebM y + 114 : Int) = ebS y from rfl]
  have hebS : 90 ≤ ebS y ∧ ebS y ≤ 150 := by unfold ebS; omega
  refine g_const hX dX0_easterByRests_112 ?_
  refine g_iload hX dX0_easterByRests_114 rfl ?_
  refine g_const hX dX0_easterByRests_116 ?_
  refine z_idiv hX dX0_easterByRests_118 (by constructor <;> omega) (by constructor <;> omega) (by omega) (by omega) ?_
  refine z_imul hX dX0_easterByRests_119 ?_
  refine g_iload hX dX0_easterByRests_120 rfl ?_
  refine g_const hX dX0_easterByRests_122 ?_
  refine z_irem hX dX0_easterByRests_124 (by constructor <;> omega) (by constructor <;> omega) (by omega) (by omega) ?_
  refine z_iadd hX dX0_easterByRests_125 ?_
  refine g_const hX dX0_easterByRests_126 ?_
  refine z_iadd hX dX0_easterByRests_127 ?_
  refine g_iret hX hR dX0_easterByRests_128 rfl rfl (by decide) (by decide) ?_
  exact kint hK (by unfold eastAZ; rfl)
end
section
theorem dJ7_copyOf_1904c_3 : AtGC mJ7_copyOf_1904c 3 6 := ⟨86, 392, 1241, 1240, 393, 409, by decide +kernel, rfl, by decide +kernel, by decide +kernel, by decide +kernel, by decide +kernel, by decide +kernel, by decide, by decide⟩
theorem dJ7_copyOf_6403c_1 : AtLC mJ7_copyOf_6403c 1 3 := ⟨110, 413, by decide +kernel, rfl, by decide +kernel⟩
theorem dJ7_copyOf_6403c_35 : AtCP mJ7_copyOf_6403c 35 38 := ⟨150, 419, 421, 420, 74, by decide +kernel, rfl, by decide +kernel, by decide +kernel, by decide +kernel, by decide +kernel, by decide, by decide⟩
theorem hup_hup (M : hM) (a : Nat) (x y : hC) : hup (hup M a x) a y = hup M a y := by
  funext q
  unfold hup
  split <;> rfl
theorem hup_comm (M : hM) {a b : Nat} (x y : hC) (h : a ≠ b) : hup (hup M a x) b y = hup (hup M b y) a x := by
  funext q
  unfold hup
  by_cases h1 : q = b
  · rw [if_pos h1, if_neg (by rw [h1]; exact Ne.symm h), if_pos h1]
  · rw [if_neg h1, if_neg h1]
theorem z_shr1 {a : Int} (ha : inR a) (h : 0 ≤ a) : iZ a >>> (iZ 1 &&& 31) = iZ (a / 2) := by
  have h1 := pk_shr (iZ a) (iZ 1 &&& 31) 1 (by decide)
  rw [zt ha] at h1
  have h2 : inR (a / 2) := by unfold inR at *; omega
  rw [← Int32.toInt_inj, h1, zt h2]
  simp [Int.shiftRight_eq_div_pow]

theorem plain_int : plainName "java/lang/Integer" = true ∨ plainName "java/lang/Integer" = false := by cases plainName "java/lang/Integer" <;> simp
def AtMmin (d : hD) (pc n : Nat) : Prop := ∃ index i1 i2 i3 i4 : Nat, decode d.2.1 pc = .ok (.invokestatic index, 3) ∧ pc + 3 = n ∧ lw_tbl[i1]? = some (Cond.methodLink d.1.cls index Lib.Math.min.name) ∧ lw_tbl[i2]? = some (Cond.static Lib.Math.min.name) ∧ lw_tbl[i3]? = some (Cond.initialized "java/lang/Math") ∧ lw_tbl[i4]? = some (Cond.code Lib.Math.min.name Lib.Math.min.code 2 (some .int)) ∧ 1 ≤ d.2.2.2.2.1.frames ∧ 21 ≤ d.2.2.2.2.1.locals
theorem z_mmin {X : hX} {d : hD} {pc n : Nat} {lv st : List Value} {M : hM} {sz cs ss : Nat} {a b : Int} (hX : Cok X d) (h : AtMmin d pc n) (ha : inR a) (hb9 : inR b) (hw : (st.map fun v => v.category).sum ≤ 8) (hc : cs ≤ d.2.2.2.2.1.cells) (hs : ss ≤ d.2.2.2.2.1.slots) (kk : G X n lv (.int (iZ (if b < a then b else a)) :: st) M sz cs ss) : G X pc lv (.int (iZ b) :: .int (iZ a) :: st) M sz cs ss := by
  obtain ⟨⟨p, l, e, R, s, m, args, below⟩, meth, c, A, Q, g⟩ := X
  obtain ⟨hx, hb, hml, hown, hts, hKS, hAz, hAn, hst9, hlk, hrt, hnm, hR, hex⟩ := hX
  intro H locs ls hz hM hA hS hl
  obtain ⟨index, i1, i2, i3, i4, h1, rfl, e1, e2, e3, e4, hf, hlo⟩ := h
  have hR' : R = d.2.2.2.2.1 := hR
  refine va_mmin hx hb hl.1.symm hown (hts.at i1 e1 rfl) (hts.at i2 e2 rfl) (hts.at i3 e3 rfl) (hts.at i4 e4 rfl) (by rw [hR']; exact hf) (by show _ ≤ R.locals; rw [hR']; omega) (by rw [hR']; exact hc) (by rw [hR']; exact hs) h1 ?_
  have e : (if iZ b < iZ a then iZ b else iZ a) = iZ (if b < a then b else a) := by
    by_cases q : b < a
    · rw [if_pos q, if_pos ((z_lt hb9 ha).mpr q)]
    · rw [if_neg q, if_neg (fun z9 => q ((z_lt hb9 ha).mp z9))]
  rw [e]
  exact kk H locs ls hz hM hA hS hl
def AtMmax (d : hD) (pc n : Nat) : Prop := ∃ index i1 i2 i3 i4 : Nat, decode d.2.1 pc = .ok (.invokestatic index, 3) ∧ pc + 3 = n ∧ lw_tbl[i1]? = some (Cond.methodLink d.1.cls index Lib.Math.max.name) ∧ lw_tbl[i2]? = some (Cond.static Lib.Math.max.name) ∧ lw_tbl[i3]? = some (Cond.initialized "java/lang/Math") ∧ lw_tbl[i4]? = some (Cond.code Lib.Math.max.name Lib.Math.max.code 2 (some .int)) ∧ 1 ≤ d.2.2.2.2.1.frames ∧ 21 ≤ d.2.2.2.2.1.locals
theorem z_mmax {X : hX} {d : hD} {pc n : Nat} {lv st : List Value} {M : hM} {sz cs ss : Nat} {a b : Int} (hX : Cok X d) (h : AtMmax d pc n) (ha : inR a) (hb9 : inR b) (hw : (st.map fun v => v.category).sum ≤ 8) (hc : cs ≤ d.2.2.2.2.1.cells) (hs : ss ≤ d.2.2.2.2.1.slots) (kk : G X n lv (.int (iZ (if a < b then b else a)) :: st) M sz cs ss) : G X pc lv (.int (iZ b) :: .int (iZ a) :: st) M sz cs ss := by
  obtain ⟨⟨p, l, e, R, s, m, args, below⟩, meth, c, A, Q, g⟩ := X
  obtain ⟨hx, hb, hml, hown, hts, hKS, hAz, hAn, hst9, hlk, hrt, hnm, hR, hex⟩ := hX
  intro H locs ls hz hM hA hS hl
  obtain ⟨index, i1, i2, i3, i4, h1, rfl, e1, e2, e3, e4, hf, hlo⟩ := h
  have hR' : R = d.2.2.2.2.1 := hR
  refine va_mmax hx hb hl.1.symm hown (hts.at i1 e1 rfl) (hts.at i2 e2 rfl) (hts.at i3 e3 rfl) (hts.at i4 e4 rfl) (by rw [hR']; exact hf) (by show _ ≤ R.locals; rw [hR']; omega) (by rw [hR']; exact hc) (by rw [hR']; exact hs) h1 ?_
  have e : (if iZ a < iZ b then iZ b else iZ a) = iZ (if a < b then b else a) := by
    by_cases q : a < b
    · rw [if_pos q, if_pos ((z_lt ha hb9).mpr q)]
    · rw [if_neg q, if_neg (fun z9 => q ((z_lt ha hb9).mp z9))]
  rw [e]
  exact kk H locs ls hz hM hA hS hl
theorem dmX8_put_53 : AtMmin mX8_put 53 56 := ⟨70, 741, 417, 73, 418, by decide +kernel, rfl, by decide +kernel, by decide +kernel, by decide +kernel, by decide +kernel, by decide, by decide⟩
theorem dmX9_shift_62 : AtMmin mX9_shift 62 65 := ⟨140, 591, 417, 73, 418, by decide +kernel, rfl, by decide +kernel, by decide +kernel, by decide +kernel, by decide +kernel, by decide, by decide⟩
theorem dmJx4a65c_grow_92f84_49 : AtMmax mJx4a65c_grow_92f84 49 52 := ⟨79, 422, 383, 73, 384, by decide +kernel, rfl, by decide +kernel, by decide +kernel, by decide +kernel, by decide +kernel, by decide, by decide⟩
theorem dmJ7_copyOf_6403c_32 : AtMmin mJ7_copyOf_6403c 32 35 := ⟨304, 416, 417, 73, 418, by decide +kernel, rfl, by decide +kernel, by decide +kernel, by decide +kernel, by decide +kernel, by decide, by decide⟩
theorem dmJ8_newLength_cabcc_3 : AtMmax mJ8_newLength_cabcc 3 6 := ⟨194, 382, 383, 73, 384, by decide +kernel, rfl, by decide +kernel, by decide +kernel, by decide +kernel, by decide +kernel, by decide, by decide⟩
def sp_J3_checkIndex_8e157 : hS := fun as M sz K => ∃ (i n : Int) (v : Value), as = [.int (iZ i), .int (iZ n), v] ∧ (0 ≤ i ∧ i < n ∧ n ≤ 100000) ∧ v = .null ∧ K (.inl (some (.int (iZ i)))) M sz
theorem s_J3_checkIndex_8e157 {l : Launch} {g : hG} (hst : l.stackTraces = false) : Ctr l g mJ3_checkIndex_8e157 sp_J3_checkIndex_8e157 := by
  refine Ctr.mk9 hst (by decide) ?_ ?_
  · rintro as M sz K ⟨i, n, v, rfl, hi, rfl, hK⟩
    exact ⟨by simp [mJ3_checkIndex_8e157], cat_ok rfl⟩
  rintro X as M sz K hX rfl rfl hR ⟨i, n, v, rfl, hi, rfl, hK⟩
  show G X 0 [.int (iZ i), .int (iZ n), .null] [] M sz 0 0
  refine g_iload hX dJ3_checkIndex_8e157_0 rfl ?_
  refine z_if_lt hX dJ3_checkIndex_8e157_1 (by constructor <;> omega) (fun c1 => ?_) (fun c1 => ?_)
  · exfalso; omega
  · refine g_iload hX dJ3_checkIndex_8e157_4 rfl ?_
    refine g_iload hX dJ3_checkIndex_8e157_5 rfl ?_
    refine z_icmp_lt hX dJ3_checkIndex_8e157_6 (by constructor <;> omega) (by constructor <;> omega) (fun c6 => ?_) (fun c6 => ?_)
    · refine g_iload hX dJ3_checkIndex_8e157_16 rfl ?_
      refine g_iret hX hR dJ3_checkIndex_8e157_17 rfl rfl (by decide) (by decide) ?_
      exact hK
    · exfalso; omega

def sp_J15_checkIndex_7cf53 : hS := fun as M sz K => ∃ (i n : Int), as = [.int (iZ i), .int (iZ n)] ∧ (0 ≤ i ∧ i < n ∧ n ≤ 100000) ∧ K (.inl (some (.int (iZ i)))) M sz
theorem s_J15_checkIndex_7cf53 {l : Launch} {g : hG} (hst : l.stackTraces = false) : Ctr l g mJ15_checkIndex_7cf53 sp_J15_checkIndex_7cf53 := by
  refine Ctr.mk9 hst (by decide) ?_ ?_
  · rintro as M sz K ⟨i, n, rfl, hi, hK⟩
    exact ⟨by simp [mJ15_checkIndex_7cf53], cat_ok rfl⟩
  rintro X as M sz K hX rfl rfl hR ⟨i, n, rfl, hi, hK⟩
  show G X 0 [.int (iZ i), .int (iZ n)] [] M sz 0 0
  refine g_iload hX dJ15_checkIndex_7cf53_0 rfl ?_
  refine g_iload hX dJ15_checkIndex_7cf53_1 rfl ?_
  refine g_null hX dJ15_checkIndex_7cf53_2 ?_
  refine g_cS3 (c2 := 0) (s2 := 0) hX (s_J3_checkIndex_8e157 hst) dJ15_checkIndex_7cf53_3 (by first | exact Nat.le_of_ble_eq_true rfl | simp [cat_rf, Value.category]) ⟨rfl, rfl, by decide, by decide⟩ ?_
  refine ⟨_, _, _, rfl, hi, rfl, Kc_i ?_⟩
  refine g_iret hX hR dJ15_checkIndex_7cf53_6 rfl rfl (by decide) (by decide) ?_
  exact hK

/-- a list: its object, its row, how many, which -/
def LSt (aD : Nat) (M : hM) (a ea : Nat) (n : Nat) (f : Nat → Nat) : Prop := ∃ mod : Int, M a = some (.inl (0, [.int (iZ mod), .ref ea, .int (iZ (n : Int))])) ∧ ((n = 0 ∧ ea = aD) ∨ ∃ (len : Nat) (f' : Nat → Option Nat), M ea = some (.inr (3, len, .inr (.inr f'))) ∧ 10 ≤ len ∧ len ≤ 100 ∧ n ≤ len ∧ ∀ i, i < n → f' i = some (f i))
theorem LSt.congr {aD : Nat} {M : hM} {a ea n : Nat} {f f2 : Nat → Nat} (h : LSt aD M a ea n f) (e : ∀ i, i < n → f i = f2 i) : LSt aD M a ea n f2 := by
  obtain ⟨mod, h1, h2 | ⟨len, f', h2, h3, h4, h5, h6⟩⟩ := h
  · exact ⟨mod, h1, Or.inl h2⟩
  · exact ⟨mod, h1, Or.inr ⟨len, f', h2, h3, h4, h5, fun i hi => by rw [← e i hi]; exact h6 i hi⟩⟩
theorem LSt.kept {aD : Nat} {M M' : hM} {a ea n : Nat} {f : Nat → Nat} (h : LSt aD M a ea n f) (h1 : M' a = M a) (h2 : M' ea = M ea) : LSt aD M' a ea n f := by
  obtain ⟨mod, g1, g2 | ⟨len, f', g2, g3⟩⟩ := h
  · exact ⟨mod, by rw [h1]; exact g1, Or.inl g2⟩
  · exact ⟨mod, by rw [h1]; exact g1, Or.inr ⟨len, f', by rw [h2]; exact g2, g3⟩⟩

def sp_Jx4a65c_elementData_915e3 : hS := fun as M sz K => ∃ (a ea len n : Nat) (i : Int) (v w : Value) (f' : Nat → Option Nat) (f : Nat → Nat), as = [.ref a, .int (iZ i)] ∧ M a = some (.inl (0, [v, .ref ea, w])) ∧ M ea = some (.inr (3, len, .inr (.inr f'))) ∧ (0 ≤ i ∧ i < n ∧ n ≤ len ∧ len ≤ 100) ∧ (∀ i, i < n → f' i = some (f i)) ∧ K (.inl (some (.ref (f i.toNat)))) M sz
theorem s_Jx4a65c_elementData_915e3 {l : Launch} {g : hG} (hst : l.stackTraces = false) : Ctr l g mJx4a65c_elementData_915e3 sp_Jx4a65c_elementData_915e3 := by
  refine Ctr.mk9 hst (by decide) ?_ ?_
  · rintro as M sz K ⟨a, ea, len, n, i, v, w, f', f, rfl, hm, hea, hi, hf, hK⟩
    exact ⟨by simp [mJx4a65c_elementData_915e3], cat_ok rfl⟩
  rintro X as M sz K hX rfl rfl hR ⟨a, ea, len, n, i, v, w, f', f, rfl, hm, hea, hi, hf, hK⟩
  show G X 0 [.ref a, .int (iZ i)] [] M sz 0 0
  refine g_aload hX dJx4a65c_elementData_915e3_0 rfl rfl ?_
  refine g_get hX dJx4a65c_elementData_915e3_1 (by assumption) rfl ?_
  refine g_iload hX dJx4a65c_elementData_915e3_4 rfl ?_
  refine z_aald hX dJx4a65c_elementData_915e3_5 hea (by omega) (by omega) (by omega) (hf i.toNat (by omega)) ?_
  refine g_aret hX hR dJx4a65c_elementData_915e3_6 rfl (by first | exact Or.inl ⟨_, rfl⟩ | exact Or.inr ⟨_, rfl⟩) (by first | rfl | exact isRefV_rf _) (by decide) (by decide) ?_
  exact hK

def sp_Jx4a65c_get_915e3 : hS := fun as M sz K => ∃ (aD a ea n : Nat) (i : Int) (f : Nat → Nat), as = [.ref a, .int (iZ i)] ∧ LSt aD M a ea n f ∧ (0 ≤ i ∧ i < n) ∧ K (.inl (some (.ref (f i.toNat)))) M sz
theorem s_Jx4a65c_get_915e3 {l : Launch} {g : hG} (hst : l.stackTraces = false) : Ctr l g mJx4a65c_get_915e3 sp_Jx4a65c_get_915e3 := by
  refine Ctr.mk9 hst (by decide) ?_ ?_
  · rintro as M sz K ⟨aD, a, ea, n, i, f, rfl, hL, hi, hK⟩
    exact ⟨by simp [mJx4a65c_get_915e3], cat_ok rfl⟩
  rintro X as M sz K hX rfl rfl hR ⟨aD, a, ea, n, i, f, rfl, hL, hi, hK⟩
  show G X 0 [.ref a, .int (iZ i)] [] M sz 0 0
  obtain ⟨mod, hm, h0 | ⟨len, f', hea, hl1, hl2, hl3, hf⟩⟩ := hL
  · omega
  refine g_iload hX dJx4a65c_get_915e3_0 rfl ?_
  refine g_aload hX dJx4a65c_get_915e3_1 rfl rfl ?_
  refine g_get hX dJx4a65c_get_915e3_2 (by assumption) rfl ?_
  refine g_cS2 (c2 := 0) (s2 := 0) hX (s_J15_checkIndex_7cf53 hst) dJx4a65c_get_915e3_5 (by first | exact Nat.le_of_ble_eq_true rfl | simp [cat_rf, Value.category]) ⟨rfl, rfl, by decide, by decide⟩ ?_
  refine ⟨_, _, rfl, by omega, Kc_i ?_⟩
  refine g_pop hX dJx4a65c_get_915e3_8 rfl ?_
  refine g_aload hX dJx4a65c_get_915e3_9 rfl rfl ?_
  refine g_iload hX dJx4a65c_get_915e3_10 rfl ?_
  refine g_cV1 (c2 := 0) (s2 := 0) hX (s_Jx4a65c_elementData_915e3 hst) dJx4a65c_get_915e3_11 (by assumption) (by first | exact Nat.le_of_ble_eq_true rfl | simp [cat_rf, Value.category]) ⟨rfl, rfl, by decide, by decide⟩ ?_
  refine ⟨_, _, _, _, _, _, _, _, f, rfl, hm, hea, ⟨hi.1, hi.2, hl3, hl2⟩, hf, Kc_i ?_⟩
  refine g_aret hX hR dJx4a65c_get_915e3_14 rfl (by first | exact Or.inl ⟨_, rfl⟩ | exact Or.inr ⟨_, rfl⟩) (by first | rfl | exact isRefV_rf _) (by decide) (by decide) ?_
  exact hK

def sp_Jx4a65c_size_8abf5 : hS := fun as M sz K => ∃ (aD a ea n : Nat) (f : Nat → Nat), as = [.ref a] ∧ LSt aD M a ea n f ∧ K (.inl (some (.int (iZ (n : Int))))) M sz
theorem s_Jx4a65c_size_8abf5 {l : Launch} {g : hG} (hst : l.stackTraces = false) : Ctr l g mJx4a65c_size_8abf5 sp_Jx4a65c_size_8abf5 := by
  refine Ctr.mk9 hst (by decide) ?_ ?_
  · rintro as M sz K ⟨aD, a, ea, n, f, rfl, hL, hK⟩
    exact ⟨by simp [mJx4a65c_size_8abf5], cat_ok rfl⟩
  rintro X as M sz K hX rfl rfl hR ⟨aD, a, ea, n, f, rfl, hL, hK⟩
  show G X 0 [.ref a] [] M sz 0 0
  obtain ⟨mod, hm, -⟩ := hL
  refine g_aload hX dJx4a65c_size_8abf5_0 rfl rfl ?_
  refine g_get hX dJx4a65c_size_8abf5_1 (by assumption) rfl ?_
  refine g_iret hX hR dJx4a65c_size_8abf5_4 rfl rfl (by decide) (by decide) ?_
  exact hK

def sp_Jx4a65c_isEmpty_aae02 : hS := fun as M sz K => ∃ (aD a ea n : Nat) (f : Nat → Nat), as = [.ref a] ∧ LSt aD M a ea n f ∧ n ≤ 100 ∧ K (.inl (some (.int (iZ (bZ ((n : Int) = 0)))))) M sz
theorem s_Jx4a65c_isEmpty_aae02 {l : Launch} {g : hG} (hst : l.stackTraces = false) : Ctr l g mJx4a65c_isEmpty_aae02 sp_Jx4a65c_isEmpty_aae02 := by
  refine Ctr.mk9 hst (by decide) ?_ ?_
  · rintro as M sz K ⟨aD, a, ea, n, f, rfl, hL, hn, hK⟩
    exact ⟨by simp [mJx4a65c_isEmpty_aae02], cat_ok rfl⟩
  rintro X as M sz K hX rfl rfl hR ⟨aD, a, ea, n, f, rfl, hL, hn, hK⟩
  show G X 0 [.ref a] [] M sz 0 0
  obtain ⟨mod, hm, -⟩ := hL
  refine g_aload hX dJx4a65c_isEmpty_aae02_0 rfl rfl ?_
  refine g_get hX dJx4a65c_isEmpty_aae02_1 (by assumption) rfl ?_
  refine z_if_ne hX dJx4a65c_isEmpty_aae02_4 (by constructor <;> omega) (fun c4 => ?_) (fun c4 => ?_)
  · refine g_const hX dJx4a65c_isEmpty_aae02_11 ?_
    refine g_iret hX hR dJx4a65c_isEmpty_aae02_12 rfl (by first | rfl | exact nar_b _ | exact nar_01 (by omega)) (by decide) (by decide) ?_
    exact kint hK (by unfold bZ; split <;> omega)
  · refine g_const hX dJx4a65c_isEmpty_aae02_7 ?_
    refine g_goto hX dJx4a65c_isEmpty_aae02_8 ?_
    refine g_iret hX hR dJx4a65c_isEmpty_aae02_12 rfl (by first | rfl | exact nar_b _ | exact nar_01 (by omega)) (by decide) (by decide) ?_
    exact kint hK (by unfold bZ; split <;> omega)

def sp_J8_newLength_cabcc : hS := fun as M sz K => ∃ (a b c : Int), as = [.int (iZ a), .int (iZ b), .int (iZ c)] ∧ (0 ≤ a ∧ a ≤ 100000 ∧ 1 ≤ b ∧ b ≤ 100000 ∧ 0 ≤ c ∧ c ≤ 100000) ∧ K (.inl (some (.int (iZ (a + if b < c then c else b))))) M sz
theorem s_J8_newLength_cabcc {l : Launch} {g : hG} (hst : l.stackTraces = false) : Ctr l g mJ8_newLength_cabcc sp_J8_newLength_cabcc := by
  refine Ctr.mk9 hst (by decide) ?_ ?_
  · rintro as M sz K ⟨a, b, c, rfl, h, hK⟩
    exact ⟨by simp [mJ8_newLength_cabcc], cat_ok rfl⟩
  rintro X as M sz K hX rfl rfl hR ⟨a, b, c, rfl, h, hK⟩
  show G X 0 [.int (iZ a), .int (iZ b), .int (iZ c), U9] [] M sz 0 0
  refine g_iload hX dJ8_newLength_cabcc_0 rfl ?_
  refine g_iload hX dJ8_newLength_cabcc_1 rfl ?_
  refine g_iload hX dJ8_newLength_cabcc_2 rfl ?_
  refine z_mmax hX dmJ8_newLength_cabcc_3 (by constructor <;> omega) (by constructor <;> omega) (by first | exact Nat.le_of_ble_eq_true rfl | simp [cat_rf, Value.category]) (by decide) (by decide) ?_
  have hmx : (if b < c then c else b) ≤ 100000 ∧ 1 ≤ (if b < c then c else b) := by split <;> omega
  refine z_iadd hX dJ8_newLength_cabcc_6 ?_
  refine g_istore hX dJ8_newLength_cabcc_7 ?_
  dsimp only [List.set]
  refine g_const hX dJ8_newLength_cabcc_8 ?_
  refine g_iload hX dJ8_newLength_cabcc_9 rfl ?_
  refine z_icmp_ge hX dJ8_newLength_cabcc_10 (by constructor <;> omega) (by constructor <;> omega) (fun c10 => ?_) (fun c10 => ?_)
  · exfalso; omega
  · refine g_iload hX dJ8_newLength_cabcc_13 rfl ?_
    refine g_const hX dJ8_newLength_cabcc_14 ?_
    refine z_icmp_gt hX dJ8_newLength_cabcc_16 (by constructor <;> omega) (by constructor <;> omega) (fun c16 => ?_) (fun c16 => ?_)
    · exfalso; omega
    · refine g_iload hX dJ8_newLength_cabcc_19 rfl ?_
      refine g_iret hX hR dJ8_newLength_cabcc_20 rfl rfl (by decide) (by decide) ?_
      exact hK

def sp_J7_fill_53178 : hS := fun as M sz K => ∃ (a len : Nat) (v : Int) (f0 : Nat → Int32), as = [.ref a, .int (iZ v)] ∧ M a = some (.inr (0, len, .inl f0)) ∧ len ≤ 1000 ∧ K (.inl none) (hup M a (.inr (0, len, .inl (fun _ => iZ v)))) sz
theorem s_J7_fill_53178 {l : Launch} {g : hG} (hst : l.stackTraces = false) : Ctr l g mJ7_fill_53178 sp_J7_fill_53178 := by
  refine Ctr.mk9 hst (by decide) ?_ ?_
  · rintro as M sz K ⟨a, len, v, f0, rfl, hm, hlen, hK⟩
    exact ⟨by simp [mJ7_fill_53178], cat_ok rfl⟩
  rintro X as M sz K hX rfl rfl hR ⟨a, len, v, f0, rfl, hm, hlen, hK⟩
  show G X 0 [.ref a, .int (iZ v), U9, U9] [] M sz 0 0
  have loop : ∀ (k9 i : Nat) (f : Nat → Int32), i + k9 = len → (∀ k, k < i → f k = iZ v) → G X 5 [.ref a, .int (iZ v), .int (iZ (i : Int)), .int (iZ (len : Int))] [] (hup M a (.inr (0, len, .inl f))) sz 0 0 := by
    intro k9
    induction k9 with
    | zero =>
      intro i f hi hf
      refine g_iload hX dJ7_fill_53178_5 rfl ?_
      refine g_iload hX dJ7_fill_53178_6 rfl ?_
      refine z_icmp_ge hX dJ7_fill_53178_7 (by constructor <;> omega) (by constructor <;> omega) (fun c7 => ?_) (fun c7 => ?_)
      · refine g_ext (f' := fun _ => iZ v) (hup_s _ _ _) (fun k hk => hf k (by omega)) ?_
        refine g_vret hX hR dJ7_fill_53178_20 rfl (by decide) (by decide) ?_
        rw [hup_hup]; exact hK
      · exfalso; omega
    | succ k9 ih =>
      intro i f hi hf
      refine g_iload hX dJ7_fill_53178_5 rfl ?_
      refine g_iload hX dJ7_fill_53178_6 rfl ?_
      refine z_icmp_ge hX dJ7_fill_53178_7 (by constructor <;> omega) (by constructor <;> omega) (fun c7 => ?_) (fun c7 => ?_)
      · exfalso; omega
      · refine g_aload hX dJ7_fill_53178_10 rfl rfl ?_
        refine g_iload hX dJ7_fill_53178_11 rfl ?_
        refine g_iload hX dJ7_fill_53178_12 rfl ?_
        refine z_iast hX dJ7_fill_53178_13 (hup_s _ _ _) (by omega) (by omega) (by omega) ?_
        refine z_iinc hX dJ7_fill_53178_14 rfl ?_
        dsimp only [List.set]
        refine g_goto hX dJ7_fill_53178_17 ?_
        rw [hup_hup]
        exact ih (i + 1) _ (by omega) (fun k hk => by
          unfold upd
          by_cases e : k = (i : Int).toNat
          · rw [if_pos e]
          · rw [if_neg e]; exact hf k (by omega))
  refine g_const hX dJ7_fill_53178_0 ?_
  refine g_istore hX dJ7_fill_53178_1 ?_
  dsimp only [List.set]
  refine g_aload hX dJ7_fill_53178_2 rfl rfl ?_
  refine z_alen hX dJ7_fill_53178_3 hm (by decide) ?_
  refine g_istore hX dJ7_fill_53178_4 ?_
  dsimp only [List.set]
  have h9 := loop len 0 f0 (by omega) (fun k hk => absurd hk (Nat.not_lt_zero k))
  rw [show hup M a (.inr (0, len, .inl f0)) = M from by
    funext q
    unfold hup
    split
    · rename_i e; rw [e]; exact hm.symm
    · rfl] at h9
  exact h9
end
section
/-! lists that grow, and the count of bits -/
def ush9 (x : Int32) (k : Int) : Int32 := (x.toUInt32 >>> ((iZ k).toUInt32 &&& Int32.toUInt32 31)).toInt32
def bc1 (x : Int32) : Int32 := x - (ush9 x 1 &&& iZ 1431655765)
def bc2 (x : Int32) : Int32 := (bc1 x &&& iZ 858993459) + (ush9 (bc1 x) 2 &&& iZ 858993459)
def bc3 (x : Int32) : Int32 := (bc2 x + ush9 (bc2 x) 4) &&& iZ 252645135
def bc4 (x : Int32) : Int32 := bc3 x + ush9 (bc3 x) 8
def bc5 (x : Int32) : Int32 := bc4 x + ush9 (bc4 x) 16
def bcE (x : Int32) : Int32 := bc5 x &&& iZ 63
def popK (m : Nat) : Nat → Nat
  | 0 => 0
  | s + 1 => popK m s + m / 2 ^ s % 2
def popN (m : Nat) : Nat := popK m 12
set_option maxRecDepth 100000 in
theorem bc_pop : ∀ m : Nat, m < 4096 → bcE (iZ (m : Int)) = iZ ((popN m : Nat) : Int) := by decide +kernel

def sp_J6_bitCount_0f7a4 : hS := fun as M sz K => ∃ m : Nat, as = [.int (iZ (m : Int))] ∧ m < 4096 ∧ K (.inl (some (.int (iZ ((popN m : Nat) : Int))))) M sz
theorem s_J6_bitCount_0f7a4 {l : Launch} {g : hG} (hst : l.stackTraces = false) : Ctr l g mJ6_bitCount_0f7a4 sp_J6_bitCount_0f7a4 := by
  refine Ctr.mk9 hst (by decide) ?_ ?_
  · rintro as M sz K ⟨m, rfl, hm, hK⟩
    exact ⟨by simp [mJ6_bitCount_0f7a4], cat_ok rfl⟩
  rintro X as M sz K hX rfl rfl hR ⟨m, rfl, hm, hK⟩
  show G X 0 [.int (iZ (m : Int))] [] M sz 0 0
  rw [← bc_pop m hm] at hK
  refine g_iload hX dJ6_bitCount_0f7a4_0 rfl ?_
  refine g_iload hX dJ6_bitCount_0f7a4_1 rfl ?_
  refine g_const hX dJ6_bitCount_0f7a4_2 ?_
  refine g_iushr hX dJ6_bitCount_0f7a4_3 ?_
  refine g_const hX dJ6_bitCount_0f7a4_4 ?_
  refine g_iand hX dJ6_bitCount_0f7a4_7 ?_
  refine g_isub hX dJ6_bitCount_0f7a4_8 ?_
  refine g_istore hX dJ6_bitCount_0f7a4_9 ?_
  dsimp only [List.set]
  refine g_iload hX dJ6_bitCount_0f7a4_10 rfl ?_
  refine g_const hX dJ6_bitCount_0f7a4_11 ?_
  refine g_iand hX dJ6_bitCount_0f7a4_14 ?_
  refine g_iload hX dJ6_bitCount_0f7a4_15 rfl ?_
  refine g_const hX dJ6_bitCount_0f7a4_16 ?_
  refine g_iushr hX dJ6_bitCount_0f7a4_17 ?_
  refine g_const hX dJ6_bitCount_0f7a4_18 ?_
  refine g_iand hX dJ6_bitCount_0f7a4_21 ?_
  refine g_iadd hX dJ6_bitCount_0f7a4_22 ?_
  refine g_istore hX dJ6_bitCount_0f7a4_23 ?_
  dsimp only [List.set]
  refine g_iload hX dJ6_bitCount_0f7a4_24 rfl ?_
  refine g_iload hX dJ6_bitCount_0f7a4_25 rfl ?_
  refine g_const hX dJ6_bitCount_0f7a4_26 ?_
  refine g_iushr hX dJ6_bitCount_0f7a4_27 ?_
  refine g_iadd hX dJ6_bitCount_0f7a4_28 ?_
  refine g_const hX dJ6_bitCount_0f7a4_29 ?_
  refine g_iand hX dJ6_bitCount_0f7a4_32 ?_
  refine g_istore hX dJ6_bitCount_0f7a4_33 ?_
  dsimp only [List.set]
  refine g_iload hX dJ6_bitCount_0f7a4_34 rfl ?_
  refine g_iload hX dJ6_bitCount_0f7a4_35 rfl ?_
  refine g_const hX dJ6_bitCount_0f7a4_36 ?_
  refine g_iushr hX dJ6_bitCount_0f7a4_38 ?_
  refine g_iadd hX dJ6_bitCount_0f7a4_39 ?_
  refine g_istore hX dJ6_bitCount_0f7a4_40 ?_
  dsimp only [List.set]
  refine g_iload hX dJ6_bitCount_0f7a4_41 rfl ?_
  refine g_iload hX dJ6_bitCount_0f7a4_42 rfl ?_
  refine g_const hX dJ6_bitCount_0f7a4_43 ?_
  refine g_iushr hX dJ6_bitCount_0f7a4_45 ?_
  refine g_iadd hX dJ6_bitCount_0f7a4_46 ?_
  refine g_istore hX dJ6_bitCount_0f7a4_47 ?_
  dsimp only [List.set]
  refine g_iload hX dJ6_bitCount_0f7a4_48 rfl ?_
  refine g_const hX dJ6_bitCount_0f7a4_49 ?_
  refine g_iand hX dJ6_bitCount_0f7a4_51 ?_
  refine g_iret hX hR dJ6_bitCount_0f7a4_52 rfl rfl (by decide) (by decide) ?_
  exact hK

/-- an object that a row of objects may hold -/
def CST (M : hM) (y : Nat) : Prop := ∃ (ci j : Nat) (fs : List Value) (q : vw_C), M y = some (.inl (ci, fs)) ∧ cls9[ci]? = some q ∧ lw_tbl[j]? = some (Cond.castable q.1 "java/lang/Object")
theorem CST.kept {M M' : hM} {y : Nat} (h : CST M y) (e : M' y = M y) : CST M' y := by
  obtain ⟨ci, j, fs, q, h1, h2⟩ := h
  exact ⟨ci, j, fs, q, by rw [e]; exact h1, h2⟩

def sp_J7_copyOf_6403c (g : hG) : hS := fun as M sz K => ∃ (a len N : Nat) (f : Nat → Option Nat), as = [.ref a, .int (iZ (N : Int)), .ref (g.1.2 99 0)] ∧ M a = some (.inr (3, len, .inr (.inr f))) ∧ (len ≤ N ∧ N ≤ 200) ∧ (∀ i, i < len → ∀ y, f i = some y → CST M y) ∧ K (.inl (some (.ref sz))) (hup M sz (.inr (3, N, .inr (.inr (fun k => if k < len then f k else none))))) (sz + 1)
theorem s_J7_copyOf_6403c {l : Launch} {g : hG} (hst : l.stackTraces = false) : Ctr l g mJ7_copyOf_6403c (sp_J7_copyOf_6403c g) := by
  refine Ctr.mk9 hst (by decide) ?_ ?_
  · rintro as M sz K ⟨a, len, N, f, rfl, hm, hN, hc, hK⟩
    exact ⟨by simp [mJ7_copyOf_6403c], cat_ok rfl⟩
  rintro X as M sz K hX rfl rfl hR ⟨a, len, N, f, rfl, hm, hN, hc, hK⟩
  show G X 0 [.ref a, .int (iZ (N : Int)), .ref (X.2.2.2.2.2.1.2 99 0), U9] [] M sz 0 0
  refine g_dom hX (fun hdom => ?_)
  refine g_aload hX dJ7_copyOf_6403c_0 rfl rfl ?_
  refine g_ldcM hX dJ7_copyOf_6403c_1 ?_
  refine g_acmp_ne (rx := some _) (ry := some _) hX dJ7_copyOf_6403c_3 rfl rfl (fun c3 => ?_) (fun c3 => ?_)
  · exact absurd rfl c3
  · refine g_iload hX dJ7_copyOf_6403c_6 rfl ?_
    refine g_newq hX dJ7_copyOf_6403c_7 (N := N) rfl (by omega) (by decide) (by show 0 + N ≤ 200; omega) ?_
    refine g_wide (k1 := 1) (n1 := 200) (by decide) (by omega) ?_
    have hne : ∀ (q : Nat) (x : hC), M q = some x → q ≠ sz := fun q x h9 e => by have := (hdom q x h9).1; omega
    have hm1 : hup M sz (.inr (3, N, .inr (.inr (fun _ => none)))) a = some (.inr (3, len, .inr (.inr f))) := by rw [hup_n _ _ (hne a _ hm)]; exact hm
    refine g_goto hX dJ7_copyOf_6403c_10 ?_
    refine g_astore hX dJ7_copyOf_6403c_24 rfl ?_
    dsimp only [List.set]
    refine g_aload hX dJ7_copyOf_6403c_25 rfl rfl ?_
    refine g_const hX dJ7_copyOf_6403c_26 ?_
    refine g_aload hX dJ7_copyOf_6403c_27 rfl rfl ?_
    refine g_const hX dJ7_copyOf_6403c_28 ?_
    refine g_aload hX dJ7_copyOf_6403c_29 rfl rfl ?_
    refine z_alen hX dJ7_copyOf_6403c_30 (by assumption) (by decide) ?_
    refine g_iload hX dJ7_copyOf_6403c_31 rfl ?_
    refine z_mmin hX dmJ7_copyOf_6403c_32 (by constructor <;> omega) (by constructor <;> omega) (by first | exact Nat.le_of_ble_eq_true rfl | simp [cat_rf, Value.category]) (by decide) (by decide) ?_
    rw [if_neg (by omega)]
    refine g_acopy hX dJ7_copyOf_6403c_35 hm1 (hup_s _ _ _) (by omega) (by omega) (by omega) (by omega) (fun i hi y hy => ?_) ?_
    · obtain ⟨ci, j, fs, q, h1, h2⟩ := hc i hi y hy
      exact ⟨ci, j, fs, q, by rw [hup_n _ _ (hne y _ h1)]; exact h1, h2⟩
    refine g_aload hX dJ7_copyOf_6403c_38 rfl rfl ?_
    refine g_aret hX hR dJ7_copyOf_6403c_39 rfl (by first | exact Or.inl ⟨_, rfl⟩ | exact Or.inr ⟨_, rfl⟩) (by first | rfl | exact isRefV_rf _) (by decide) (by decide) ?_
    rw [hup_hup]; exact hK

def sp_J7_copyOf_1904c : hS := fun as M sz K => ∃ (a len N : Nat) (f : Nat → Option Nat), as = [.ref a, .int (iZ (N : Int))] ∧ M a = some (.inr (3, len, .inr (.inr f))) ∧ (len ≤ N ∧ N ≤ 200) ∧ (∀ i, i < len → ∀ y, f i = some y → CST M y) ∧ K (.inl (some (.ref sz))) (hup M sz (.inr (3, N, .inr (.inr (fun k => if k < len then f k else none))))) (sz + 1)
theorem s_J7_copyOf_1904c {l : Launch} {g : hG} (hst : l.stackTraces = false) : Ctr l g mJ7_copyOf_1904c sp_J7_copyOf_1904c := by
  refine Ctr.mk9 hst (by decide) ?_ ?_
  · rintro as M sz K ⟨a, len, N, f, rfl, hm, hN, hc, hK⟩
    exact ⟨by simp [mJ7_copyOf_1904c], cat_ok rfl⟩
  rintro X as M sz K hX rfl rfl hR ⟨a, len, N, f, rfl, hm, hN, hc, hK⟩
  show G X 0 [.ref a, .int (iZ (N : Int))] [] M sz 0 0
  refine g_aload hX dJ7_copyOf_1904c_0 rfl rfl ?_
  refine g_iload hX dJ7_copyOf_1904c_1 rfl ?_
  refine g_aload hX dJ7_copyOf_1904c_2 rfl rfl ?_
  refine g_getC hX dJ7_copyOf_1904c_3 hm (by first | exact Nat.le_of_ble_eq_true rfl | simp [cat_rf, Value.category]) ?_
  refine g_cS3 (c2 := 1) (s2 := 200) hX (s_J7_copyOf_6403c hst) dJ7_copyOf_1904c_6 (by first | exact Nat.le_of_ble_eq_true rfl | simp [cat_rf, Value.category]) ⟨rfl, rfl, by decide, by decide⟩ ?_
  refine ⟨_, _, _, _, rfl, hm, hN, hc, Kc_i ?_⟩
  refine g_aret hX hR dJ7_copyOf_1904c_9 rfl (by first | exact Or.inl ⟨_, rfl⟩ | exact Or.inr ⟨_, rfl⟩) (by first | rfl | exact isRefV_rf _) (by decide) (by decide) ?_
  exact hK

def sp_Jx4a65c_grow_92f84 (g : hG) : hS := fun as M sz K => ∃ (a ea len : Nat) (mn : Int) (v0 v2 : Value) (f : Nat → Option Nat), as = [.ref a, .int (iZ mn)] ∧
  ((ea = g.2.2.2.2 ∧ (1 ≤ mn ∧ mn ≤ 10) ∧ M a = some (.inl (0, [v0, .ref ea, v2])) ∧ K (.inl (some (.ref sz))) (hup (hup M sz (.inr (3, 10, .inr (.inr (fun _ => none))))) a (.inl (0, [v0, .ref sz, v2]))) (sz + 1)) ∨
   (M a = some (.inl (0, [v0, .ref ea, v2])) ∧ M ea = some (.inr (3, len, .inr (.inr f))) ∧ (10 ≤ len ∧ len ≤ 100 ∧ mn = len + 1) ∧ (∀ i, i < len → ∀ y, f i = some y → CST M y) ∧ K (.inl (some (.ref sz))) (hup (hup M sz (.inr (3, len + len / 2, .inr (.inr (fun k => if k < len then f k else none))))) a (.inl (0, [v0, .ref sz, v2]))) (sz + 1)))
theorem s_Jx4a65c_grow_92f84 {l : Launch} {g : hG} (hst : l.stackTraces = false) : Ctr l g mJx4a65c_grow_92f84 (sp_Jx4a65c_grow_92f84 g) := by
  refine Ctr.mk9 hst (by decide) ?_ ?_
  · rintro as M sz K ⟨a, ea, len, mn, v0, v2, f, rfl, h9⟩
    exact ⟨by simp [mJx4a65c_grow_92f84], cat_ok rfl⟩
  rintro X as M sz K hX rfl rfl hR ⟨a, ea, len, mn, v0, v2, f, rfl, h9⟩
  show G X 0 [.ref a, .int (iZ mn), U9, U9] [] M sz 0 0
  refine g_dom hX (fun hdom => ?_)
  rcases h9 with ⟨rfl, hmn, hm, hK⟩ | ⟨hm, hea, hl, hc, hK⟩
  · skip
    refine g_aload hX dJx4a65c_grow_92f84_0 rfl rfl ?_
    refine g_get hX dJx4a65c_grow_92f84_1 (by assumption) rfl ?_
    refine z_alenD hX dJx4a65c_grow_92f84_4 ?_
    refine g_istore hX dJx4a65c_grow_92f84_5 ?_
    dsimp only [List.set]
    refine g_iload hX dJx4a65c_grow_92f84_6 rfl ?_
    refine z_if_gt hX dJx4a65c_grow_92f84_7 (by constructor <;> omega) (fun c7 => ?_) (fun c7 => ?_)
    · first | (exfalso; omega) | exact absurd rfl c17
    · refine g_aload hX dJx4a65c_grow_92f84_10 rfl rfl ?_
      refine g_get hX dJx4a65c_grow_92f84_11 (by assumption) rfl ?_
      refine g_getsD hX dJx4a65c_grow_92f84_14 ?_
      refine g_acmp_eq (rx := some _) (ry := some _) hX dJx4a65c_grow_92f84_17 rfl rfl (fun c17 => ?_) (fun c17 => ?_)
      · refine g_aload hX dJx4a65c_grow_92f84_45 rfl rfl ?_
        refine g_const hX dJx4a65c_grow_92f84_46 ?_
        refine g_iload hX dJx4a65c_grow_92f84_48 rfl ?_
        refine z_mmax hX dmJx4a65c_grow_92f84_49 (by constructor <;> omega) (by constructor <;> omega) (by first | exact Nat.le_of_ble_eq_true rfl | simp [cat_rf, Value.category]) (by decide) (by decide) ?_
        rw [if_neg (by omega)]
        refine g_newq hX dJx4a65c_grow_92f84_52 (N := 10) rfl (by decide) (by decide) (by decide) ?_
        have hne : ∀ (q : Nat) (x : hC), M q = some x → q ≠ sz := fun q x h9 e => by have := (hdom q x h9).1; omega
        have hm1 : hup M sz (.inr (3, 10, .inr (.inr (fun _ => none)))) a = some (.inl (0, [v0, .ref X.2.2.2.2.2.2.2.2.2, v2])) := by rw [hup_n _ _ (hne a _ hm)]; exact hm
        refine g_dup_x1 hX dJx4a65c_grow_92f84_55 rfl rfl ?_
        refine g_put hX dJx4a65c_grow_92f84_56 (by assumption) (by simp) rfl rfl ?_
        dsimp only [List.set]
        refine g_aret hX hR dJx4a65c_grow_92f84_59 rfl (by first | exact Or.inl ⟨_, rfl⟩ | exact Or.inr ⟨_, rfl⟩) (by first | rfl | exact isRefV_rf _) (by decide) (by decide) ?_
        exact hK
      · first | (exfalso; omega) | exact absurd rfl c17
  · skip
    refine g_aload hX dJx4a65c_grow_92f84_0 rfl rfl ?_
    refine g_get hX dJx4a65c_grow_92f84_1 (by assumption) rfl ?_
    refine z_alen hX dJx4a65c_grow_92f84_4 (by assumption) (by decide) ?_
    refine g_istore hX dJx4a65c_grow_92f84_5 ?_
    dsimp only [List.set]
    refine g_iload hX dJx4a65c_grow_92f84_6 rfl ?_
    refine z_if_gt hX dJx4a65c_grow_92f84_7 (by constructor <;> omega) (fun c7 => ?_) (fun c7 => ?_)
    · refine g_iload hX dJx4a65c_grow_92f84_20 rfl ?_
      refine g_iload hX dJx4a65c_grow_92f84_21 rfl ?_
      refine g_iload hX dJx4a65c_grow_92f84_22 rfl ?_
      refine z_isub hX dJx4a65c_grow_92f84_23 ?_
      refine g_iload hX dJx4a65c_grow_92f84_24 rfl ?_
      refine g_const hX dJx4a65c_grow_92f84_25 ?_
      refine g_ishr hX dJx4a65c_grow_92f84_26 ?_
      rw [z_shr1 (by constructor <;> omega) (by omega)]
      refine g_cS3 (c2 := 0) (s2 := 0) hX (s_J8_newLength_cabcc hst) dJx4a65c_grow_92f84_27 (by first | exact Nat.le_of_ble_eq_true rfl | simp [cat_rf, Value.category]) ⟨rfl, rfl, by decide, by decide⟩ ?_
      refine ⟨_, _, _, rfl, by omega, Kc_i ?_⟩
      rw [if_pos (by omega)]
      have e9 : (len : Int) + (len : Int) / 2 = ((len + len / 2 : Nat) : Int) := by omega
      rw [e9]
      refine g_istore hX dJx4a65c_grow_92f84_30 ?_
      dsimp only [List.set]
      refine g_aload hX dJx4a65c_grow_92f84_31 rfl rfl ?_
      refine g_aload hX dJx4a65c_grow_92f84_32 rfl rfl ?_
      refine g_get hX dJx4a65c_grow_92f84_33 (by assumption) rfl ?_
      refine g_iload hX dJx4a65c_grow_92f84_36 rfl ?_
      refine g_cS2 (c2 := 1) (s2 := 200) hX (s_J7_copyOf_1904c hst) dJx4a65c_grow_92f84_37 (by first | exact Nat.le_of_ble_eq_true rfl | simp [cat_rf, Value.category]) ⟨rfl, rfl, by decide, by decide⟩ ?_
      refine ⟨_, _, _, _, rfl, hea, by omega, hc, Kc_i ?_⟩
      have hne : ∀ (q : Nat) (x : hC), M q = some x → q ≠ sz := fun q x h9 e => by have := (hdom q x h9).1; omega
      have hm1 : hup M sz (.inr (3, len + len / 2, .inr (.inr (fun k => if k < len then f k else none)))) a = some (.inl (0, [v0, .ref ea, v2])) := by rw [hup_n _ _ (hne a _ hm)]; exact hm
      refine g_dup_x1 hX dJx4a65c_grow_92f84_40 rfl rfl ?_
      refine g_put hX dJx4a65c_grow_92f84_41 (by assumption) (by simp) rfl rfl ?_
      dsimp only [List.set]
      refine g_aret hX hR dJx4a65c_grow_92f84_44 rfl (by first | exact Or.inl ⟨_, rfl⟩ | exact Or.inr ⟨_, rfl⟩) (by first | rfl | exact isRefV_rf _) (by decide) (by decide) ?_
      exact hK
    · exfalso; omega

def sp_Jx4a65c_grow_d5877 (g : hG) : hS := fun as M sz K => ∃ (a ea len n : Nat) (v0 : Value) (f : Nat → Option Nat), as = [.ref a] ∧
  ((ea = g.2.2.2.2 ∧ n = 0 ∧ M a = some (.inl (0, [v0, .ref ea, .int (iZ (n : Int))])) ∧ K (.inl (some (.ref sz))) (hup (hup M sz (.inr (3, 10, .inr (.inr (fun _ => none))))) a (.inl (0, [v0, .ref sz, .int (iZ (n : Int))]))) (sz + 1)) ∨
   (M a = some (.inl (0, [v0, .ref ea, .int (iZ (n : Int))])) ∧ M ea = some (.inr (3, len, .inr (.inr f))) ∧ (10 ≤ len ∧ len ≤ 100 ∧ n = len) ∧ (∀ i, i < len → ∀ y, f i = some y → CST M y) ∧ K (.inl (some (.ref sz))) (hup (hup M sz (.inr (3, len + len / 2, .inr (.inr (fun k => if k < len then f k else none))))) a (.inl (0, [v0, .ref sz, .int (iZ (n : Int))]))) (sz + 1)))
theorem s_Jx4a65c_grow_d5877 {l : Launch} {g : hG} (hst : l.stackTraces = false) : Ctr l g mJx4a65c_grow_d5877 (sp_Jx4a65c_grow_d5877 g) := by
  refine Ctr.mk9 hst (by decide) ?_ ?_
  · rintro as M sz K ⟨a, ea, len, n, v0, f, rfl, h9⟩
    exact ⟨by simp [mJx4a65c_grow_d5877], cat_ok rfl⟩
  rintro X as M sz K hX rfl rfl hR ⟨a, ea, len, n, v0, f, rfl, h9⟩
  show G X 0 [.ref a] [] M sz 0 0
  rcases h9 with ⟨rfl, hn, hm, hK⟩ | ⟨hm, hea, hl, hc, hK⟩
  · skip
    refine g_aload hX dJx4a65c_grow_d5877_0 rfl rfl ?_
    refine g_aload hX dJx4a65c_grow_d5877_1 rfl rfl ?_
    refine g_get hX dJx4a65c_grow_d5877_2 (by assumption) rfl ?_
    refine g_const hX dJx4a65c_grow_d5877_5 ?_
    refine z_iadd hX dJx4a65c_grow_d5877_6 ?_
    refine g_cV1 (c2 := 1) (s2 := 200) hX (s_Jx4a65c_grow_92f84 hst) dJx4a65c_grow_d5877_7 (by assumption) (by first | exact Nat.le_of_ble_eq_true rfl | simp [cat_rf, Value.category]) ⟨rfl, rfl, by decide, by decide⟩ ?_
    exact ⟨_, _, 0, _, _, _, fun _ => none, rfl, Or.inl ⟨rfl, by omega, hm, Kc_i (by
      refine g_aret hX hR dJx4a65c_grow_d5877_10 rfl (by first | exact Or.inl ⟨_, rfl⟩ | exact Or.inr ⟨_, rfl⟩) rfl (by decide) (by decide) ?_
      exact hK)⟩⟩
  · skip
    refine g_aload hX dJx4a65c_grow_d5877_0 rfl rfl ?_
    refine g_aload hX dJx4a65c_grow_d5877_1 rfl rfl ?_
    refine g_get hX dJx4a65c_grow_d5877_2 (by assumption) rfl ?_
    refine g_const hX dJx4a65c_grow_d5877_5 ?_
    refine z_iadd hX dJx4a65c_grow_d5877_6 ?_
    refine g_cV1 (c2 := 1) (s2 := 200) hX (s_Jx4a65c_grow_92f84 hst) dJx4a65c_grow_d5877_7 (by assumption) (by first | exact Nat.le_of_ble_eq_true rfl | simp [cat_rf, Value.category]) ⟨rfl, rfl, by decide, by decide⟩ ?_
    exact ⟨_, _, len, _, _, _, f, rfl, Or.inr ⟨hm, hea, by omega, hc, Kc_i (by
      refine g_aret hX hR dJx4a65c_grow_d5877_10 rfl (by first | exact Or.inl ⟨_, rfl⟩ | exact Or.inr ⟨_, rfl⟩) rfl (by decide) (by decide) ?_
      exact hK)⟩⟩
end
section
/-! ArrayList.add, and the constructors above it -/
/-- what add leaves behind -/
def AddK (aD : Nat) (M : hM) (sz a ea n v : Nat) (f : Nat → Nat) (K : hK) (r : Option Value) : Prop := ∀ (M' : hM) (sz' ea' : Nat), LSt aD M' a ea' (n + 1) (fun k => if k = n then v else f k) → (∀ q, q ≠ a → q ≠ ea → q < sz → M' q = M q) → (ea' = ea ∨ ea' = sz) → sz ≤ sz' → (∀ (q : Nat) (x : hC), M' q = some x → (∃ y, M q = some y) ∨ (sz ≤ q ∧ q < sz')) → K (.inl r) M' sz'

theorem va_up_self9 {α : Type} (f : Nat → α) (k : Nat) (v : α) : va_up f k v k = v := by simp [va_up]

def sp_Jx4a65c_add_72be8 (g : hG) : hS := fun as M sz K => ∃ (a ea n v : Nat) (f : Nat → Nat), as = [.ref a, .ref v, .ref ea, .int (iZ (n : Int))] ∧ LSt g.2.2.2.2 M a ea n f ∧ n ≤ 60 ∧ CST M v ∧ (∀ i, i < n → CST M (f i)) ∧ v ≠ a ∧ AddK g.2.2.2.2 M sz a ea n v f K none
theorem s_Jx4a65c_add_72be8 {l : Launch} {g : hG} (hst : l.stackTraces = false) : Ctr l g mJx4a65c_add_72be8 (sp_Jx4a65c_add_72be8 g) := by
  refine Ctr.mk9 hst (by decide) ?_ ?_
  · rintro as M sz K ⟨a, ea, n, v, f, rfl, hL, hn, hcv, hcs, hva, hK⟩
    exact ⟨by simp [mJx4a65c_add_72be8], cat_ok rfl⟩
  rintro X as M sz K hX rfl rfl hR ⟨a, ea, n, v, f, rfl, hL, hn, hcv, hcs, hva, hK⟩
  show G X 0 [.ref a, .ref v, .ref ea, .int (iZ (n : Int))] [] M sz 0 0
  refine g_dom hX (fun hdom => ?_)
  obtain ⟨mod, hm, hrow⟩ := hL
  obtain ⟨cv, j9, vs, q9, hmv, hq9, hj9⟩ := hcv
  have hne : ∀ (q : Nat) (x : hC), M q = some x → q ≠ sz := fun q x h9 e => by have := (hdom q x h9).1; omega
  have hna := hne a _ hm
  have hnv := hne v _ hmv
  have tail : ∀ (M1 : hM) (ea1 len1 : Nat) (f1 : Nat → Option Nat) (sz1 c1 s1 : Nat), c1 ≤ 1 → s1 ≤ 200 → M1 a = some (.inl (0, [.int (iZ mod), .ref ea1, .int (iZ (n : Int))])) → M1 ea1 = some (.inr (3, len1, .inr (.inr f1))) → M1 v = some (.inl (cv, vs)) → n < len1 → len1 ≤ 1000 → K (.inl none) (hup (hup M1 ea1 (.inr (3, len1, .inr (.inr (va_up f1 n (some v)))))) a (.inl (0, [.int (iZ mod), .ref ea1, .int (iZ ((n : Int) + 1))]))) sz1 → G X 11 [.ref a, .ref v, .ref ea1, .int (iZ (n : Int))] [] M1 sz1 c1 s1 := by
    intro M1 ea1 len1 f1 sz1 c1 s1 hc1 hs1 ha1 he1 hv1 hn1 hl1 hk
    refine g_aload hX dJx4a65c_add_72be8_11 rfl rfl ?_
    refine g_iload hX dJx4a65c_add_72be8_12 rfl ?_
    refine g_aload hX dJx4a65c_add_72be8_13 rfl rfl ?_
    refine g_aast hX dJx4a65c_add_72be8_14 he1 (z_in (by omega) (by omega) (by omega)) hv1 ⟨_, _, hq9, hj9⟩ ?_
    rw [z_cl (by constructor <;> omega)]
    have hae : a ≠ ea1 := fun e => by rw [e, he1] at ha1; cases ha1
    have ha1 : hup M1 ea1 (.inr (3, len1, .inr (.inr (va_up f1 n (some v))))) a = some (.inl (0, [.int (iZ mod), .ref ea1, .int (iZ (n : Int))])) := by rw [hup_n _ _ hae]; exact ha1
    refine g_aload hX dJx4a65c_add_72be8_15 rfl rfl ?_
    refine g_iload hX dJx4a65c_add_72be8_16 rfl ?_
    refine g_const hX dJx4a65c_add_72be8_17 ?_
    refine z_iadd hX dJx4a65c_add_72be8_18 ?_
    refine g_put hX dJx4a65c_add_72be8_19 ha1 (by simp) rfl rfl ?_
    dsimp only [List.set]
    refine g_vret hX hR dJx4a65c_add_72be8_22 rfl hc1 hs1 ?_
    exact hk
  rcases hrow with ⟨rfl, rfl⟩ | ⟨len, f', hea, hl1, hl2, hl3, hf⟩
  · skip
    refine g_iload hX dJx4a65c_add_72be8_0 rfl ?_
    refine g_aload hX dJx4a65c_add_72be8_1 rfl rfl ?_
    refine z_alenD hX dJx4a65c_add_72be8_2 ?_
    refine z_icmp_ne hX dJx4a65c_add_72be8_3 (by constructor <;> omega) (by constructor <;> omega) (fun c3 => ?_) (fun c3 => ?_)
    · exact absurd rfl c3
    · refine g_aload hX dJx4a65c_add_72be8_6 rfl rfl ?_
      refine g_cV0 (c2 := 1) (s2 := 200) hX (s_Jx4a65c_grow_d5877 hst) dJx4a65c_add_72be8_7 (by assumption) (by first | exact Nat.le_of_ble_eq_true rfl | simp [cat_rf, Value.category]) ⟨rfl, rfl, by decide, by decide⟩ ?_
      refine ⟨_, _, 0, 0, _, fun _ => none, rfl, Or.inl ⟨rfl, rfl, hm, Kc_i ?_⟩⟩
      refine g_astore hX dJx4a65c_add_72be8_10 rfl ?_
      dsimp only [List.set]
      refine tail _ sz 10 (fun _ => none) _ _ _ (by decide) (by decide) (hup_s _ _ _) (by rw [hup_n _ _ (Ne.symm hna), hup_s]) (by rw [hup_n _ _ hva, hup_n _ _ hnv]; exact hmv) (by decide) (by decide) ?_
      refine hK _ _ sz ⟨mod, hup_s _ _ _, Or.inr ⟨10, _, by rw [hup_n _ _ (Ne.symm hna), hup_s], by decide, by decide, by decide, fun k hk => ?_⟩⟩ (fun q h1 h2 h3 => ?_) (Or.inr rfl) (by omega) (fun q x hx => ?_)
      · obtain rfl : k = 0 := by omega
        rfl
      · rw [hup_n _ _ h1, hup_n _ _ (by omega), hup_n _ _ h1, hup_n _ _ (by omega)]
      · by_cases e1 : q = a
        · exact Or.inl ⟨_, by rw [e1]; exact hm⟩
        · by_cases e2 : q = sz
          · exact Or.inr (by omega)
          · rw [hup_n _ _ e1, hup_n _ _ e2, hup_n _ _ e1, hup_n _ _ e2] at hx
            exact Or.inl ⟨x, hx⟩
  · have hae : a ≠ ea := fun e => by rw [e, hea] at hm; cases hm
    refine g_iload hX dJx4a65c_add_72be8_0 rfl ?_
    refine g_aload hX dJx4a65c_add_72be8_1 rfl rfl ?_
    refine z_alen hX dJx4a65c_add_72be8_2 (by first | exact hea | exact hm) (by decide) ?_
    refine z_icmp_ne hX dJx4a65c_add_72be8_3 (by constructor <;> omega) (by constructor <;> omega) (fun c3 => ?_) (fun c3 => ?_)
    · dsimp only at c3
      have hlt : n < len := by omega
      refine tail M ea len f' sz _ _ (by decide) (by decide) hm hea hmv hlt (by omega) ?_
      refine hK _ _ ea ⟨mod, hup_s _ _ _, Or.inr ⟨len, _, by rw [hup_n _ _ (Ne.symm hae), hup_s], by omega, by omega, by omega, fun k hk => ?_⟩⟩ (fun q h1 h2 h3 => by rw [hup_n _ _ h1, hup_n _ _ h2]) (Or.inl rfl) (by omega) (fun q x hx => ?_)
      · show va_up f' n (some v) k = some (if k = n then v else f k)
        by_cases e : k = n
        · rw [if_pos e, e]; exact va_up_self9 _ _ _
        · rw [if_neg e]; exact (va_up_ne _ _ e).trans (hf k (by omega))
      · by_cases e1 : q = a
        · exact Or.inl ⟨_, by rw [e1]; exact hm⟩
        · by_cases e2 : q = ea
          · exact Or.inl ⟨_, by rw [e2]; exact hea⟩
          · rw [hup_n _ _ e1, hup_n _ _ e2] at hx
            exact Or.inl ⟨x, hx⟩
    · refine g_aload hX dJx4a65c_add_72be8_6 rfl rfl ?_
      refine g_cV0 (c2 := 1) (s2 := 200) hX (s_Jx4a65c_grow_d5877 hst) dJx4a65c_add_72be8_7 (by first | exact hea | exact hm) (by first | exact Nat.le_of_ble_eq_true rfl | simp [cat_rf, Value.category]) ⟨rfl, rfl, by decide, by decide⟩ ?_
      refine ⟨_, _, len, n, _, f', rfl, Or.inr ⟨hm, hea, by omega, fun i hi y hy => by rw [hf i (by omega)] at hy; cases hy; exact hcs i (by omega), Kc_i ?_⟩⟩
      refine g_astore hX dJx4a65c_add_72be8_10 rfl ?_
      dsimp only [List.set]
      dsimp only at c3
      have hnl : n = len := by omega
      refine tail _ sz (len + len / 2) _ _ _ _ (by decide) (by decide) (hup_s _ _ _) (by rw [hup_n _ _ (Ne.symm hna), hup_s]) (by rw [hup_n _ _ hva, hup_n _ _ hnv]; exact hmv) (by omega) (by omega) ?_
      refine hK _ _ sz ⟨mod, hup_s _ _ _, Or.inr ⟨len + len / 2, _, by rw [hup_n _ _ (Ne.symm hna), hup_s], by omega, by omega, by omega, fun k hk => ?_⟩⟩ (fun q h1 h2 h3 => ?_) (Or.inr rfl) (by omega) (fun q x hx => ?_)
      · show va_up (fun k => if k < len then f' k else none) n (some v) k = some (if k = n then v else f k)
        by_cases e : k = n
        · rw [if_pos e, e]; exact va_up_self9 _ _ _
        · rw [if_neg e]
          refine (va_up_ne _ _ e).trans ?_
          rw [if_pos (by omega)]
          exact hf k (by omega)
      · rw [hup_n _ _ h1, hup_n _ _ (by omega), hup_n _ _ h1, hup_n _ _ (by omega)]
      · by_cases e1 : q = a
        · exact Or.inl ⟨_, by rw [e1]; exact hm⟩
        · by_cases e2 : q = sz
          · exact Or.inr (by omega)
          · rw [hup_n _ _ e1, hup_n _ _ e2, hup_n _ _ e1, hup_n _ _ e2] at hx
            exact Or.inl ⟨x, hx⟩

def sp_Jx4a65c_add_9ea2d (g : hG) : hS := fun as M sz K => ∃ (a ea n v : Nat) (f : Nat → Nat), as = [.ref a, .ref v] ∧ LSt g.2.2.2.2 M a ea n f ∧ n ≤ 60 ∧ CST M v ∧ (∀ i, i < n → CST M (f i)) ∧ v ≠ a ∧ (∀ i, i < n → f i ≠ a) ∧ AddK g.2.2.2.2 M sz a ea n v f K (some (.int (iZ 1)))
theorem s_Jx4a65c_add_9ea2d {l : Launch} {g : hG} (hst : l.stackTraces = false) : Ctr l g mJx4a65c_add_9ea2d (sp_Jx4a65c_add_9ea2d g) := by
  refine Ctr.mk9 hst (by decide) ?_ ?_
  · rintro as M sz K ⟨a, ea, n, v, f, rfl, hL, hn, hcv, hcs, hva, hfa, hK⟩
    exact ⟨by simp [mJx4a65c_add_9ea2d], cat_ok rfl⟩
  rintro X as M sz K hX rfl rfl hR ⟨a, ea, n, v, f, rfl, hL, hn, hcv, hcs, hva, hfa, hK⟩
  show G X 0 [.ref a, .ref v] [] M sz 0 0
  obtain ⟨mod, hm, hrow⟩ := hL
  have hrow' : (n = 0 ∧ ea = X.2.2.2.2.2.2.2.2.2) ∨ ∃ (len : Nat) (f' : Nat → Option Nat), hup M a (.inl (0, [.int (iZ (mod + 1)), .ref ea, .int (iZ (n : Int))])) ea = some (.inr (3, len, .inr (.inr f'))) ∧ 10 ≤ len ∧ len ≤ 100 ∧ n ≤ len ∧ ∀ i, i < n → f' i = some (f i) := by
    rcases hrow with h | ⟨len, f', hea, h9⟩
    · exact Or.inl h
    · exact Or.inr ⟨len, f', by rw [hup_n _ _ (fun e => by rw [e, hm] at hea; cases hea)]; exact hea, h9⟩
  refine g_aload hX dJx4a65c_add_9ea2d_0 rfl rfl ?_
  refine g_dup hX dJx4a65c_add_9ea2d_1 rfl ?_
  refine g_get hX dJx4a65c_add_9ea2d_2 (by first | exact hm | exact hup_s _ _ _) rfl ?_
  refine g_const hX dJx4a65c_add_9ea2d_5 ?_
  refine z_iadd hX dJx4a65c_add_9ea2d_6 ?_
  refine g_put hX dJx4a65c_add_9ea2d_7 (by first | exact hm | exact hup_s _ _ _) (by simp) rfl rfl ?_
  dsimp only [List.set]
  refine g_aload hX dJx4a65c_add_9ea2d_10 rfl rfl ?_
  refine g_aload hX dJx4a65c_add_9ea2d_11 rfl rfl ?_
  refine g_aload hX dJx4a65c_add_9ea2d_12 rfl rfl ?_
  refine g_get hX dJx4a65c_add_9ea2d_13 (by first | exact hm | exact hup_s _ _ _) rfl ?_
  refine g_aload hX dJx4a65c_add_9ea2d_16 rfl rfl ?_
  refine g_get hX dJx4a65c_add_9ea2d_17 (by first | exact hm | exact hup_s _ _ _) rfl ?_
  refine g_cV3 (c2 := 1) (s2 := 200) hX (s_Jx4a65c_add_72be8 hst) dJx4a65c_add_9ea2d_20 (by first | exact hm | exact hup_s _ _ _) (by first | exact Nat.le_of_ble_eq_true rfl | simp [cat_rf, Value.category]) ⟨rfl, rfl, by decide, by decide⟩ ?_
  refine ⟨_, _, _, _, f, rfl, ⟨mod + 1, hup_s _ _ _, hrow'⟩, hn, hcv.kept (hup_n _ _ hva), fun i hi => (hcs i hi).kept (hup_n _ _ (hfa i hi)), hva, fun M' sz' ea' h1 h2 h3 h4 h5 => Kc_v ?_⟩
  have hK' := hK M' sz' ea' h1 (fun q e1 e2 e3 => (h2 q e1 e2 e3).trans (hup_n _ _ e1)) h3 h4 (fun q x hx => (h5 q x hx).imp (fun ⟨y, hy⟩ => (by
    by_cases e : q = a
    · exact ⟨_, by rw [e]; exact hm⟩
    · exact ⟨y, by rw [← hy, hup_n _ _ e]⟩)) id)
  refine g_const hX dJx4a65c_add_9ea2d_23 ?_
  refine g_iret hX hR dJx4a65c_add_9ea2d_24 rfl (by first | rfl | exact nar_b _ | exact nar_01 (by omega)) (by decide) (by decide) ?_
  exact hK'

def sp_Jxa1e45_init_da8c8 : hS := fun as M sz K => ∃ a : Nat, as = [.ref a] ∧ K (.inl none) M sz
theorem s_Jxa1e45_init_da8c8 {l : Launch} {g : hG} (hst : l.stackTraces = false) : Ctr l g mJxa1e45_init_da8c8 sp_Jxa1e45_init_da8c8 := by
  refine Ctr.mk9 hst (by decide) ?_ ?_
  · rintro as M sz K ⟨a, rfl, hK⟩
    exact ⟨by simp [mJxa1e45_init_da8c8], cat_ok rfl⟩
  rintro X as M sz K hX rfl rfl hR ⟨a, rfl, hK⟩
  show G X 0 [.ref a] [] M sz 0 0
  refine g_aload hX dJxa1e45_init_da8c8_0 rfl rfl ?_
  refine g_obj hX dJxa1e45_init_da8c8_1 ?_
  refine g_vret hX hR dJxa1e45_init_da8c8_4 rfl (by decide) (by decide) ?_
  exact hK

def sp_Jxc12de_init_da8c8 : hS := fun as M sz K => ∃ (a : Nat) (v0 v1 v2 : Value), as = [.ref a] ∧ M a = some (.inl (0, [v0, v1, v2])) ∧ K (.inl none) (hup M a (.inl (0, [.int (iZ 0), v1, v2]))) sz
theorem s_Jxc12de_init_da8c8 {l : Launch} {g : hG} (hst : l.stackTraces = false) : Ctr l g mJxc12de_init_da8c8 sp_Jxc12de_init_da8c8 := by
  refine Ctr.mk9 hst (by decide) ?_ ?_
  · rintro as M sz K ⟨a, v0, v1, v2, rfl, hm, hK⟩
    exact ⟨by simp [mJxc12de_init_da8c8], cat_ok rfl⟩
  rintro X as M sz K hX rfl rfl hR ⟨a, v0, v1, v2, rfl, hm, hK⟩
  show G X 0 [.ref a] [] M sz 0 0
  refine g_aload hX dJxc12de_init_da8c8_0 rfl rfl ?_
  refine g_cI0 (c2 := 0) (s2 := 0) hX (s_Jxa1e45_init_da8c8 hst) dJxc12de_init_da8c8_1 (by first | exact Nat.le_of_ble_eq_true rfl | simp [cat_rf, Value.category]) ⟨rfl, rfl, by decide, by decide⟩ ?_
  refine ⟨_, rfl, Kc_v ?_⟩
  refine g_aload hX dJxc12de_init_da8c8_4 rfl rfl ?_
  refine g_const hX dJxc12de_init_da8c8_5 ?_
  refine g_put hX dJxc12de_init_da8c8_6 (by assumption) (by simp) rfl rfl ?_
  dsimp only [List.set]
  refine g_vret hX hR dJxc12de_init_da8c8_9 rfl (by decide) (by decide) ?_
  exact hK

def sp_Jx4a65c_init_da8c8 (g : hG) : hS := fun as M sz K => ∃ (a : Nat) (v0 v1 v2 : Value), as = [.ref a] ∧ M a = some (.inl (0, [v0, v1, v2])) ∧ K (.inl none) (hup M a (.inl (0, [.int (iZ 0), .ref g.2.2.2.2, v2]))) sz
theorem s_Jx4a65c_init_da8c8 {l : Launch} {g : hG} (hst : l.stackTraces = false) : Ctr l g mJx4a65c_init_da8c8 (sp_Jx4a65c_init_da8c8 g) := by
  refine Ctr.mk9 hst (by decide) ?_ ?_
  · rintro as M sz K ⟨a, v0, v1, v2, rfl, hm, hK⟩
    exact ⟨by simp [mJx4a65c_init_da8c8], cat_ok rfl⟩
  rintro X as M sz K hX rfl rfl hR ⟨a, v0, v1, v2, rfl, hm, hK⟩
  show G X 0 [.ref a] [] M sz 0 0
  refine g_aload hX dJx4a65c_init_da8c8_0 rfl rfl ?_
  refine g_cI0 (c2 := 0) (s2 := 0) hX (s_Jxc12de_init_da8c8 hst) dJx4a65c_init_da8c8_1 (by first | exact Nat.le_of_ble_eq_true rfl | simp [cat_rf, Value.category]) ⟨rfl, rfl, by decide, by decide⟩ ?_
  refine ⟨_, _, _, _, rfl, hm, Kc_v ?_⟩
  refine g_aload hX dJx4a65c_init_da8c8_4 rfl rfl ?_
  refine g_getsD hX dJx4a65c_init_da8c8_5 ?_
  refine g_put hX dJx4a65c_init_da8c8_8 (hup_s _ _ _) (by simp) rfl rfl ?_
  dsimp only [List.set]
  refine g_vret hX hR dJx4a65c_init_da8c8_11 rfl (by decide) (by decide) ?_
  rw [hup_hup]; exact hK
end
