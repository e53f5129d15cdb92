section
/-- a private method of a class that the tables say can be made, by its rows of tables_1 -/
def lw_okq (q : MethodName × Nat) : Prop := (q.1.cls ≠ "java/lang/invoke/MethodHandle" ∧ q.1.cls ≠ "java/lang/invoke/VarHandle") ∧ Cond.instantiable q.1.cls q.2 ∈ tables_1 ∧ Cond.privateMethod q.1 ∈ tables_1 ∧ Cond.instanceMethod q.1 ∈ tables_1
theorem lw_p0 : lw_okq (⟨"Hymnwright", "isFirstOfItsMetre", "(LHymnwright$Tune;)Z"⟩, 7) := ⟨⟨by decide +kernel, by decide +kernel⟩, List.mem_of_getElem? (i := 29) (by decide +kernel), List.mem_of_getElem? (i := 144) (by decide +kernel), List.mem_of_getElem? (i := 145) (by decide +kernel)⟩
theorem lw_p1 : lw_okq (⟨"Hymnwright$Rows", "hasMetreOf", "(LHymnwright$Rows;)Z"⟩, 3) := ⟨⟨by decide +kernel, by decide +kernel⟩, List.mem_of_getElem? (i := 150) (by decide +kernel), List.mem_of_getElem? (i := 148) (by decide +kernel), List.mem_of_getElem? (i := 149) (by decide +kernel)⟩
theorem lw_p2 : lw_okq (⟨"Hymnwright$Rows", "hasMetreFrom", "(ILHymnwright$Rows;)Z"⟩, 3) := ⟨⟨by decide +kernel, by decide +kernel⟩, List.mem_of_getElem? (i := 150) (by decide +kernel), List.mem_of_getElem? (i := 153) (by decide +kernel), List.mem_of_getElem? (i := 154) (by decide +kernel)⟩
theorem lw_p3 : lw_okq (⟨"Hymnwright$Rows", "lengthAt", "(I)I"⟩, 3) := ⟨⟨by decide +kernel, by decide +kernel⟩, List.mem_of_getElem? (i := 150) (by decide +kernel), List.mem_of_getElem? (i := 157) (by decide +kernel), List.mem_of_getElem? (i := 158) (by decide +kernel)⟩
theorem lw_p4 : lw_okq (⟨"java/lang/Throwable", "fillInStackTrace", "(I)Ljava/lang/Throwable;"⟩, 6) := ⟨⟨by decide +kernel, by decide +kernel⟩, List.mem_of_getElem? (i := 211) (by decide +kernel), List.mem_of_getElem? (i := 209) (by decide +kernel), List.mem_of_getElem? (i := 210) (by decide +kernel)⟩
theorem lw_p5 : lw_okq (⟨"java/util/ArrayList", "add", "(Ljava/lang/Object;[Ljava/lang/Object;I)V"⟩, 3) := ⟨⟨by decide +kernel, by decide +kernel⟩, List.mem_of_getElem? (i := 37) (by decide +kernel), List.mem_of_getElem? (i := 313) (by decide +kernel), List.mem_of_getElem? (i := 314) (by decide +kernel)⟩
theorem lw_p6 : lw_okq (⟨"java/util/ArrayList", "grow", "()[Ljava/lang/Object;"⟩, 3) := ⟨⟨by decide +kernel, by decide +kernel⟩, List.mem_of_getElem? (i := 37) (by decide +kernel), List.mem_of_getElem? (i := 317) (by decide +kernel), List.mem_of_getElem? (i := 318) (by decide +kernel)⟩
theorem lw_p7 : lw_okq (⟨"java/util/ArrayList", "grow", "(I)[Ljava/lang/Object;"⟩, 3) := ⟨⟨by decide +kernel, by decide +kernel⟩, List.mem_of_getElem? (i := 37) (by decide +kernel), List.mem_of_getElem? (i := 321) (by decide +kernel), List.mem_of_getElem? (i := 322) (by decide +kernel)⟩
theorem lw_p8 : lw_okq (⟨"Hymnwright", "textAt", "(I)LHymnwright$Text;"⟩, 7) := ⟨⟨by decide +kernel, by decide +kernel⟩, List.mem_of_getElem? (i := 29) (by decide +kernel), List.mem_of_getElem? (i := 378) (by decide +kernel), List.mem_of_getElem? (i := 379) (by decide +kernel)⟩
theorem lw_p9 : lw_okq (⟨"Hymnwright$Rows", "append", "(II)V"⟩, 3) := ⟨⟨by decide +kernel, by decide +kernel⟩, List.mem_of_getElem? (i := 150) (by decide +kernel), List.mem_of_getElem? (i := 405) (by decide +kernel), List.mem_of_getElem? (i := 406) (by decide +kernel)⟩
theorem lw_p10 : lw_okq (⟨"Hymnwright", "tuneAt", "(I)LHymnwright$Tune;"⟩, 7) := ⟨⟨by decide +kernel, by decide +kernel⟩, List.mem_of_getElem? (i := 29) (by decide +kernel), List.mem_of_getElem? (i := 454) (by decide +kernel), List.mem_of_getElem? (i := 455) (by decide +kernel)⟩
theorem lw_p11 : lw_okq (⟨"Hymnwright$Rows", "marksAt", "(I)I"⟩, 3) := ⟨⟨by decide +kernel, by decide +kernel⟩, List.mem_of_getElem? (i := 150) (by decide +kernel), List.mem_of_getElem? (i := 480) (by decide +kernel), List.mem_of_getElem? (i := 481) (by decide +kernel)⟩
theorem lw_p12 : lw_okq (⟨"Hymnwright", "bestTune", "(LHymnwright$Text;ZI)LHymnwright$Tune;"⟩, 7) := ⟨⟨by decide +kernel, by decide +kernel⟩, List.mem_of_getElem? (i := 29) (by decide +kernel), List.mem_of_getElem? (i := 497) (by decide +kernel), List.mem_of_getElem? (i := 498) (by decide +kernel)⟩
theorem lw_p13 : lw_okq (⟨"Hymnwright$Rights", "isFreeIn", "(I)Z"⟩, 2) := ⟨⟨by decide +kernel, by decide +kernel⟩, List.mem_of_getElem? (i := 280) (by decide +kernel), List.mem_of_getElem? (i := 501) (by decide +kernel), List.mem_of_getElem? (i := 502) (by decide +kernel)⟩
theorem lw_p14 : lw_okq (⟨"Hymnwright$Rights", "setAllowed", "(Z)Z"⟩, 2) := ⟨⟨by decide +kernel, by decide +kernel⟩, List.mem_of_getElem? (i := 280) (by decide +kernel), List.mem_of_getElem? (i := 519) (by decide +kernel), List.mem_of_getElem? (i := 520) (by decide +kernel)⟩
theorem lw_p15 : lw_okq (⟨"Hymnwright", "addFeast", "(LHymnwright$Feast;)I"⟩, 7) := ⟨⟨by decide +kernel, by decide +kernel⟩, List.mem_of_getElem? (i := 29) (by decide +kernel), List.mem_of_getElem? (i := 619) (by decide +kernel), List.mem_of_getElem? (i := 620) (by decide +kernel)⟩
def lw_privs_1 : List (MethodName × Nat) := [(⟨"Hymnwright", "isFirstOfItsMetre", "(LHymnwright$Tune;)Z"⟩, 7), (⟨"Hymnwright$Rows", "hasMetreOf", "(LHymnwright$Rows;)Z"⟩, 3), (⟨"Hymnwright$Rows", "hasMetreFrom", "(ILHymnwright$Rows;)Z"⟩, 3), (⟨"Hymnwright$Rows", "lengthAt", "(I)I"⟩, 3), (⟨"java/lang/Throwable", "fillInStackTrace", "(I)Ljava/lang/Throwable;"⟩, 6), (⟨"java/util/ArrayList", "add", "(Ljava/lang/Object;[Ljava/lang/Object;I)V"⟩, 3), (⟨"java/util/ArrayList", "grow", "()[Ljava/lang/Object;"⟩, 3), (⟨"java/util/ArrayList", "grow", "(I)[Ljava/lang/Object;"⟩, 3), (⟨"Hymnwright", "textAt", "(I)LHymnwright$Text;"⟩, 7), (⟨"Hymnwright$Rows", "append", "(II)V"⟩, 3), (⟨"Hymnwright", "tuneAt", "(I)LHymnwright$Tune;"⟩, 7), (⟨"Hymnwright$Rows", "marksAt", "(I)I"⟩, 3), (⟨"Hymnwright", "bestTune", "(LHymnwright$Text;ZI)LHymnwright$Tune;"⟩, 7), (⟨"Hymnwright$Rights", "isFreeIn", "(I)Z"⟩, 2), (⟨"Hymnwright$Rights", "setAllowed", "(Z)Z"⟩, 2), (⟨"Hymnwright", "addFeast", "(LHymnwright$Feast;)I"⟩, 7)]
theorem lw_r1 : ∀ q ∈ lw_privs_1, lw_okq q := List.forall_mem_cons.mpr ⟨lw_p0, List.forall_mem_cons.mpr ⟨lw_p1, List.forall_mem_cons.mpr ⟨lw_p2, List.forall_mem_cons.mpr ⟨lw_p3, List.forall_mem_cons.mpr ⟨lw_p4, List.forall_mem_cons.mpr ⟨lw_p5, List.forall_mem_cons.mpr ⟨lw_p6, List.forall_mem_cons.mpr ⟨lw_p7, List.forall_mem_cons.mpr ⟨lw_p8, List.forall_mem_cons.mpr ⟨lw_p9, List.forall_mem_cons.mpr ⟨lw_p10, List.forall_mem_cons.mpr ⟨lw_p11, List.forall_mem_cons.mpr ⟨lw_p12, List.forall_mem_cons.mpr ⟨lw_p13, List.forall_mem_cons.mpr ⟨lw_p14, List.forall_mem_cons.mpr ⟨lw_p15, fun _ h => absurd h List.not_mem_nil⟩⟩⟩⟩⟩⟩⟩⟩⟩⟩⟩⟩⟩⟩⟩⟩
theorem lw_p16 : lw_okq (⟨"Hymnwright", "feastAt", "(I)LHymnwright$Feast;"⟩, 7) := ⟨⟨by decide +kernel, by decide +kernel⟩, List.mem_of_getElem? (i := 29) (by decide +kernel), List.mem_of_getElem? (i := 645) (by decide +kernel), List.mem_of_getElem? (i := 646) (by decide +kernel)⟩
theorem lw_p17 : lw_okq (⟨"Hymnwright$Readings", "replace", "(II)I"⟩, 1) := ⟨⟨by decide +kernel, by decide +kernel⟩, List.mem_of_getElem? (i := 63) (by decide +kernel), List.mem_of_getElem? (i := 649) (by decide +kernel), List.mem_of_getElem? (i := 650) (by decide +kernel)⟩
theorem lw_p18 : lw_okq (⟨"Hymnwright$Readings", "themeIn", "(I)I"⟩, 1) := ⟨⟨by decide +kernel, by decide +kernel⟩, List.mem_of_getElem? (i := 63) (by decide +kernel), List.mem_of_getElem? (i := 653) (by decide +kernel), List.mem_of_getElem? (i := 654) (by decide +kernel)⟩
theorem lw_p19 : lw_okq (⟨"Hymnwright$YearPlan", "layOut", "(ILjava/util/ArrayList;I)V"⟩, 5) := ⟨⟨by decide +kernel, by decide +kernel⟩, List.mem_of_getElem? (i := 77) (by decide +kernel), List.mem_of_getElem? (i := 664) (by decide +kernel), List.mem_of_getElem? (i := 665) (by decide +kernel)⟩
theorem lw_p20 : lw_okq (⟨"Hymnwright$YearPlan", "put", "(ILHymnwright$Feast;)V"⟩, 5) := ⟨⟨by decide +kernel, by decide +kernel⟩, List.mem_of_getElem? (i := 77) (by decide +kernel), List.mem_of_getElem? (i := 673) (by decide +kernel), List.mem_of_getElem? (i := 674) (by decide +kernel)⟩
theorem lw_p21 : lw_okq (⟨"Hymnwright$Feast", "ownDay", "(I)I"⟩, 5) := ⟨⟨by decide +kernel, by decide +kernel⟩, List.mem_of_getElem? (i := 592) (by decide +kernel), List.mem_of_getElem? (i := 677) (by decide +kernel), List.mem_of_getElem? (i := 678) (by decide +kernel)⟩
theorem lw_p22 : lw_okq (⟨"Hymnwright$YearPlan", "isOpen", "(II)Z"⟩, 5) := ⟨⟨by decide +kernel, by decide +kernel⟩, List.mem_of_getElem? (i := 77) (by decide +kernel), List.mem_of_getElem? (i := 688) (by decide +kernel), List.mem_of_getElem? (i := 689) (by decide +kernel)⟩
theorem lw_p23 : lw_okq (⟨"Hymnwright$YearPlan", "isSunday", "(I)Z"⟩, 5) := ⟨⟨by decide +kernel, by decide +kernel⟩, List.mem_of_getElem? (i := 77) (by decide +kernel), List.mem_of_getElem? (i := 692) (by decide +kernel), List.mem_of_getElem? (i := 693) (by decide +kernel)⟩
theorem lw_p24 : lw_okq (⟨"Hymnwright$YearPlan", "keptOn", "(I)I"⟩, 5) := ⟨⟨by decide +kernel, by decide +kernel⟩, List.mem_of_getElem? (i := 77) (by decide +kernel), List.mem_of_getElem? (i := 696) (by decide +kernel), List.mem_of_getElem? (i := 697) (by decide +kernel)⟩
theorem lw_p25 : lw_okq (⟨"Hymnwright$YearPlan", "dayOfFeast", "(I)I"⟩, 5) := ⟨⟨by decide +kernel, by decide +kernel⟩, List.mem_of_getElem? (i := 77) (by decide +kernel), List.mem_of_getElem? (i := 707) (by decide +kernel), List.mem_of_getElem? (i := 708) (by decide +kernel)⟩
theorem lw_p26 : lw_okq (⟨"Hymnwright", "themeOf", "(II)I"⟩, 7) := ⟨⟨by decide +kernel, by decide +kernel⟩, List.mem_of_getElem? (i := 29) (by decide +kernel), List.mem_of_getElem? (i := 729) (by decide +kernel), List.mem_of_getElem? (i := 730) (by decide +kernel)⟩
theorem lw_p27 : lw_okq (⟨"Hymnwright", "reasonAgainst", "(LHymnwright$Text;III)I"⟩, 7) := ⟨⟨by decide +kernel, by decide +kernel⟩, List.mem_of_getElem? (i := 29) (by decide +kernel), List.mem_of_getElem? (i := 743) (by decide +kernel), List.mem_of_getElem? (i := 744) (by decide +kernel)⟩
theorem lw_p28 : lw_okq (⟨"Hymnwright$Text", "hasTheme", "(I)Z"⟩, 4) := ⟨⟨by decide +kernel, by decide +kernel⟩, List.mem_of_getElem? (i := 258) (by decide +kernel), List.mem_of_getElem? (i := 747) (by decide +kernel), List.mem_of_getElem? (i := 748) (by decide +kernel)⟩
theorem lw_p29 : lw_okq (⟨"Hymnwright", "wasSungLately", "(LHymnwright$Text;I)Z"⟩, 7) := ⟨⟨by decide +kernel, by decide +kernel⟩, List.mem_of_getElem? (i := 29) (by decide +kernel), List.mem_of_getElem? (i := 751) (by decide +kernel), List.mem_of_getElem? (i := 752) (by decide +kernel)⟩
theorem lw_p30 : lw_okq (⟨"Hymnwright", "isBehindLatestService", "(I)Z"⟩, 7) := ⟨⟨by decide +kernel, by decide +kernel⟩, List.mem_of_getElem? (i := 29) (by decide +kernel), List.mem_of_getElem? (i := 763) (by decide +kernel), List.mem_of_getElem? (i := 764) (by decide +kernel)⟩
theorem lw_p31 : lw_okq (⟨"Hymnwright", "chooseText", "(III)LHymnwright$Text;"⟩, 7) := ⟨⟨by decide +kernel, by decide +kernel⟩, List.mem_of_getElem? (i := 29) (by decide +kernel), List.mem_of_getElem? (i := 772) (by decide +kernel), List.mem_of_getElem? (i := 773) (by decide +kernel)⟩
def lw_privs_2 : List (MethodName × Nat) := [(⟨"Hymnwright", "feastAt", "(I)LHymnwright$Feast;"⟩, 7), (⟨"Hymnwright$Readings", "replace", "(II)I"⟩, 1), (⟨"Hymnwright$Readings", "themeIn", "(I)I"⟩, 1), (⟨"Hymnwright$YearPlan", "layOut", "(ILjava/util/ArrayList;I)V"⟩, 5), (⟨"Hymnwright$YearPlan", "put", "(ILHymnwright$Feast;)V"⟩, 5), (⟨"Hymnwright$Feast", "ownDay", "(I)I"⟩, 5), (⟨"Hymnwright$YearPlan", "isOpen", "(II)Z"⟩, 5), (⟨"Hymnwright$YearPlan", "isSunday", "(I)Z"⟩, 5), (⟨"Hymnwright$YearPlan", "keptOn", "(I)I"⟩, 5), (⟨"Hymnwright$YearPlan", "dayOfFeast", "(I)I"⟩, 5), (⟨"Hymnwright", "themeOf", "(II)I"⟩, 7), (⟨"Hymnwright", "reasonAgainst", "(LHymnwright$Text;III)I"⟩, 7), (⟨"Hymnwright$Text", "hasTheme", "(I)Z"⟩, 4), (⟨"Hymnwright", "wasSungLately", "(LHymnwright$Text;I)Z"⟩, 7), (⟨"Hymnwright", "isBehindLatestService", "(I)Z"⟩, 7), (⟨"Hymnwright", "chooseText", "(III)LHymnwright$Text;"⟩, 7)]
theorem lw_r2 : ∀ q ∈ lw_privs_2, lw_okq q := List.forall_mem_cons.mpr ⟨lw_p16, List.forall_mem_cons.mpr ⟨lw_p17, List.forall_mem_cons.mpr ⟨lw_p18, List.forall_mem_cons.mpr ⟨lw_p19, List.forall_mem_cons.mpr ⟨lw_p20, List.forall_mem_cons.mpr ⟨lw_p21, List.forall_mem_cons.mpr ⟨lw_p22, List.forall_mem_cons.mpr ⟨lw_p23, List.forall_mem_cons.mpr ⟨lw_p24, List.forall_mem_cons.mpr ⟨lw_p25, List.forall_mem_cons.mpr ⟨lw_p26, List.forall_mem_cons.mpr ⟨lw_p27, List.forall_mem_cons.mpr ⟨lw_p28, List.forall_mem_cons.mpr ⟨lw_p29, List.forall_mem_cons.mpr ⟨lw_p30, List.forall_mem_cons.mpr ⟨lw_p31, fun _ h => absurd h List.not_mem_nil⟩⟩⟩⟩⟩⟩⟩⟩⟩⟩⟩⟩⟩⟩⟩⟩
theorem lw_p32 : lw_okq (⟨"Hymnwright", "countServices", "(LHymnwright$Text;)I"⟩, 7) := ⟨⟨by decide +kernel, by decide +kernel⟩, List.mem_of_getElem? (i := 29) (by decide +kernel), List.mem_of_getElem? (i := 776) (by decide +kernel), List.mem_of_getElem? (i := 777) (by decide +kernel)⟩
theorem lw_p33 : lw_okq (⟨"HymnwrightModel", "isText", "(I)Z"⟩, 31) := ⟨⟨by decide +kernel, by decide +kernel⟩, List.mem_of_getElem? (i := 822) (by decide +kernel), List.mem_of_getElem? (i := 942) (by decide +kernel), List.mem_of_getElem? (i := 943) (by decide +kernel)⟩
theorem lw_p34 : lw_okq (⟨"HymnwrightModel", "isTune", "(I)Z"⟩, 31) := ⟨⟨by decide +kernel, by decide +kernel⟩, List.mem_of_getElem? (i := 822) (by decide +kernel), List.mem_of_getElem? (i := 957) (by decide +kernel), List.mem_of_getElem? (i := 958) (by decide +kernel)⟩
theorem lw_p35 : lw_okq (⟨"HymnwrightModel", "fit", "(II)I"⟩, 31) := ⟨⟨by decide +kernel, by decide +kernel⟩, List.mem_of_getElem? (i := 822) (by decide +kernel), List.mem_of_getElem? (i := 965) (by decide +kernel), List.mem_of_getElem? (i := 966) (by decide +kernel)⟩
theorem lw_p36 : lw_okq (⟨"HymnwrightModel", "clash", "(II)I"⟩, 31) := ⟨⟨by decide +kernel, by decide +kernel⟩, List.mem_of_getElem? (i := 822) (by decide +kernel), List.mem_of_getElem? (i := 973) (by decide +kernel), List.mem_of_getElem? (i := 974) (by decide +kernel)⟩
theorem lw_p37 : lw_okq (⟨"HymnwrightModel", "bestOf", "(IZI)I"⟩, 31) := ⟨⟨by decide +kernel, by decide +kernel⟩, List.mem_of_getElem? (i := 822) (by decide +kernel), List.mem_of_getElem? (i := 981) (by decide +kernel), List.mem_of_getElem? (i := 982) (by decide +kernel)⟩
theorem lw_p38 : lw_okq (⟨"HymnwrightModel", "isTuneFree", "(II)Z"⟩, 31) := ⟨⟨by decide +kernel, by decide +kernel⟩, List.mem_of_getElem? (i := 822) (by decide +kernel), List.mem_of_getElem? (i := 985) (by decide +kernel), List.mem_of_getElem? (i := 986) (by decide +kernel)⟩
theorem lw_p39 : lw_okq (⟨"HymnwrightModel", "areAlike", "(II)Z"⟩, 31) := ⟨⟨by decide +kernel, by decide +kernel⟩, List.mem_of_getElem? (i := 822) (by decide +kernel), List.mem_of_getElem? (i := 993) (by decide +kernel), List.mem_of_getElem? (i := 994) (by decide +kernel)⟩
theorem lw_p40 : lw_okq (⟨"HymnwrightModel", "tellsEaster", "(I)I"⟩, 31) := ⟨⟨by decide +kernel, by decide +kernel⟩, List.mem_of_getElem? (i := 822) (by decide +kernel), List.mem_of_getElem? (i := 1017) (by decide +kernel), List.mem_of_getElem? (i := 1018) (by decide +kernel)⟩
theorem lw_p41 : lw_okq (⟨"HymnwrightModel", "adds", "(IZZII)I"⟩, 31) := ⟨⟨by decide +kernel, by decide +kernel⟩, List.mem_of_getElem? (i := 822) (by decide +kernel), List.mem_of_getElem? (i := 1061) (by decide +kernel), List.mem_of_getElem? (i := 1062) (by decide +kernel)⟩
theorem lw_p42 : lw_okq (⟨"HymnwrightModel", "readingsFrom", "(I)I"⟩, 31) := ⟨⟨by decide +kernel, by decide +kernel⟩, List.mem_of_getElem? (i := 822) (by decide +kernel), List.mem_of_getElem? (i := 1077) (by decide +kernel), List.mem_of_getElem? (i := 1078) (by decide +kernel)⟩
theorem lw_p43 : lw_okq (⟨"HymnwrightModel", "keptOn", "(II)I"⟩, 31) := ⟨⟨by decide +kernel, by decide +kernel⟩, List.mem_of_getElem? (i := 822) (by decide +kernel), List.mem_of_getElem? (i := 1085) (by decide +kernel), List.mem_of_getElem? (i := 1086) (by decide +kernel)⟩
theorem lw_p44 : lw_okq (⟨"HymnwrightModel", "laysYear", "(I)V"⟩, 31) := ⟨⟨by decide +kernel, by decide +kernel⟩, List.mem_of_getElem? (i := 822) (by decide +kernel), List.mem_of_getElem? (i := 1089) (by decide +kernel), List.mem_of_getElem? (i := 1090) (by decide +kernel)⟩
theorem lw_p45 : lw_okq (⟨"HymnwrightModel", "puts", "(II)V"⟩, 31) := ⟨⟨by decide +kernel, by decide +kernel⟩, List.mem_of_getElem? (i := 822) (by decide +kernel), List.mem_of_getElem? (i := 1093) (by decide +kernel), List.mem_of_getElem? (i := 1094) (by decide +kernel)⟩
theorem lw_p46 : lw_okq (⟨"HymnwrightModel", "ownDay", "(II)I"⟩, 31) := ⟨⟨by decide +kernel, by decide +kernel⟩, List.mem_of_getElem? (i := 822) (by decide +kernel), List.mem_of_getElem? (i := 1097) (by decide +kernel), List.mem_of_getElem? (i := 1098) (by decide +kernel)⟩
theorem lw_p47 : lw_okq (⟨"HymnwrightModel", "isOpen", "(III)Z"⟩, 31) := ⟨⟨by decide +kernel, by decide +kernel⟩, List.mem_of_getElem? (i := 822) (by decide +kernel), List.mem_of_getElem? (i := 1104) (by decide +kernel), List.mem_of_getElem? (i := 1105) (by decide +kernel)⟩
def lw_privs_3 : List (MethodName × Nat) := [(⟨"Hymnwright", "countServices", "(LHymnwright$Text;)I"⟩, 7), (⟨"HymnwrightModel", "isText", "(I)Z"⟩, 31), (⟨"HymnwrightModel", "isTune", "(I)Z"⟩, 31), (⟨"HymnwrightModel", "fit", "(II)I"⟩, 31), (⟨"HymnwrightModel", "clash", "(II)I"⟩, 31), (⟨"HymnwrightModel", "bestOf", "(IZI)I"⟩, 31), (⟨"HymnwrightModel", "isTuneFree", "(II)Z"⟩, 31), (⟨"HymnwrightModel", "areAlike", "(II)Z"⟩, 31), (⟨"HymnwrightModel", "tellsEaster", "(I)I"⟩, 31), (⟨"HymnwrightModel", "adds", "(IZZII)I"⟩, 31), (⟨"HymnwrightModel", "readingsFrom", "(I)I"⟩, 31), (⟨"HymnwrightModel", "keptOn", "(II)I"⟩, 31), (⟨"HymnwrightModel", "laysYear", "(I)V"⟩, 31), (⟨"HymnwrightModel", "puts", "(II)V"⟩, 31), (⟨"HymnwrightModel", "ownDay", "(II)I"⟩, 31), (⟨"HymnwrightModel", "isOpen", "(III)Z"⟩, 31)]
theorem lw_r3 : ∀ q ∈ lw_privs_3, lw_okq q := List.forall_mem_cons.mpr ⟨lw_p32, List.forall_mem_cons.mpr ⟨lw_p33, List.forall_mem_cons.mpr ⟨lw_p34, List.forall_mem_cons.mpr ⟨lw_p35, List.forall_mem_cons.mpr ⟨lw_p36, List.forall_mem_cons.mpr ⟨lw_p37, List.forall_mem_cons.mpr ⟨lw_p38, List.forall_mem_cons.mpr ⟨lw_p39, List.forall_mem_cons.mpr ⟨lw_p40, List.forall_mem_cons.mpr ⟨lw_p41, List.forall_mem_cons.mpr ⟨lw_p42, List.forall_mem_cons.mpr ⟨lw_p43, List.forall_mem_cons.mpr ⟨lw_p44, List.forall_mem_cons.mpr ⟨lw_p45, List.forall_mem_cons.mpr ⟨lw_p46, List.forall_mem_cons.mpr ⟨lw_p47, fun _ h => absurd h List.not_mem_nil⟩⟩⟩⟩⟩⟩⟩⟩⟩⟩⟩⟩⟩⟩⟩⟩
theorem lw_p48 : lw_okq (⟨"HymnwrightModel", "tellsWhen", "(II)I"⟩, 31) := ⟨⟨by decide +kernel, by decide +kernel⟩, List.mem_of_getElem? (i := 822) (by decide +kernel), List.mem_of_getElem? (i := 1112) (by decide +kernel), List.mem_of_getElem? (i := 1113) (by decide +kernel)⟩
theorem lw_p49 : lw_okq (⟨"HymnwrightModel", "themeOn", "(II)I"⟩, 31) := ⟨⟨by decide +kernel, by decide +kernel⟩, List.mem_of_getElem? (i := 822) (by decide +kernel), List.mem_of_getElem? (i := 1127) (by decide +kernel), List.mem_of_getElem? (i := 1128) (by decide +kernel)⟩
theorem lw_p50 : lw_okq (⟨"HymnwrightModel", "reason", "(IIII)I"⟩, 31) := ⟨⟨by decide +kernel, by decide +kernel⟩, List.mem_of_getElem? (i := 822) (by decide +kernel), List.mem_of_getElem? (i := 1135) (by decide +kernel), List.mem_of_getElem? (i := 1136) (by decide +kernel)⟩
theorem lw_p51 : lw_okq (⟨"HymnwrightModel", "wasLately", "(III)Z"⟩, 31) := ⟨⟨by decide +kernel, by decide +kernel⟩, List.mem_of_getElem? (i := 822) (by decide +kernel), List.mem_of_getElem? (i := 1139) (by decide +kernel), List.mem_of_getElem? (i := 1140) (by decide +kernel)⟩
theorem lw_p52 : lw_okq (⟨"HymnwrightModel", "isLater", "(II)Z"⟩, 31) := ⟨⟨by decide +kernel, by decide +kernel⟩, List.mem_of_getElem? (i := 822) (by decide +kernel), List.mem_of_getElem? (i := 1147) (by decide +kernel), List.mem_of_getElem? (i := 1148) (by decide +kernel)⟩
theorem lw_p53 : lw_okq (⟨"HymnwrightModel", "hymn", "(III)I"⟩, 31) := ⟨⟨by decide +kernel, by decide +kernel⟩, List.mem_of_getElem? (i := 822) (by decide +kernel), List.mem_of_getElem? (i := 1151) (by decide +kernel), List.mem_of_getElem? (i := 1152) (by decide +kernel)⟩
theorem lw_p54 : lw_okq (⟨"HymnwrightModel", "times", "(I)I"⟩, 31) := ⟨⟨by decide +kernel, by decide +kernel⟩, List.mem_of_getElem? (i := 822) (by decide +kernel), List.mem_of_getElem? (i := 1155) (by decide +kernel), List.mem_of_getElem? (i := 1156) (by decide +kernel)⟩
def lw_privs_4 : List (MethodName × Nat) := [(⟨"HymnwrightModel", "tellsWhen", "(II)I"⟩, 31), (⟨"HymnwrightModel", "themeOn", "(II)I"⟩, 31), (⟨"HymnwrightModel", "reason", "(IIII)I"⟩, 31), (⟨"HymnwrightModel", "wasLately", "(III)Z"⟩, 31), (⟨"HymnwrightModel", "isLater", "(II)Z"⟩, 31), (⟨"HymnwrightModel", "hymn", "(III)I"⟩, 31), (⟨"HymnwrightModel", "times", "(I)I"⟩, 31)]
theorem lw_r4 : ∀ q ∈ lw_privs_4, lw_okq q := List.forall_mem_cons.mpr ⟨lw_p48, List.forall_mem_cons.mpr ⟨lw_p49, List.forall_mem_cons.mpr ⟨lw_p50, List.forall_mem_cons.mpr ⟨lw_p51, List.forall_mem_cons.mpr ⟨lw_p52, List.forall_mem_cons.mpr ⟨lw_p53, List.forall_mem_cons.mpr ⟨lw_p54, fun _ h => absurd h List.not_mem_nil⟩⟩⟩⟩⟩⟩⟩
def lw_privs : List (MethodName × Nat) := lw_privs_1 ++ (lw_privs_2 ++ (lw_privs_3 ++ (lw_privs_4)))
def lw_tbl : List Cond := k2_sels lw_privs ++ tables_1
theorem lw_privs_ok : ∀ q ∈ lw_privs, lw_okq q := by
  show ∀ q ∈ lw_privs_1 ++ (lw_privs_2 ++ (lw_privs_3 ++ (lw_privs_4))), lw_okq q
  exact List.forall_mem_append.mpr ⟨lw_r1, List.forall_mem_append.mpr ⟨lw_r2, List.forall_mem_append.mpr ⟨lw_r3, lw_r4⟩⟩⟩
end
section
/-! ===== BEGIN words of one list among another's, by their places ===== -/
theorem goodIn_r {big : List Cond} (ws : List Cond) (ps : List Nat) (hp : ws = ps.filterMap (fun i => big[i]?)) (h : ws.all goodWord = true) : GoodIn big ws := by
  intro w hw
  have h1 := List.all_eq_true.mp h w hw
  rw [hp] at hw
  obtain ⟨i, -, hi⟩ := List.mem_filterMap.mp hw
  have hm : w ∈ big := by first | exact List.mem_of_getElem? hi | exact List.getElem?_mem hi
  exact ⟨hm, good_of_word h1⟩
theorem goodIn_app {big a b : List Cond} (ha : GoodIn big a) (hb : GoodIn big b) : GoodIn big (a ++ b) := fun w h => (List.mem_append.mp h).elim (ha w) (hb w)
theorem goodIn_ca {big a b : List Cond} {c : Cond} (ha : GoodIn big (c :: a)) (hb : GoodIn big b) : GoodIn big (c :: (a ++ b)) := fun w h => (List.mem_cons.mp h).elim (fun e => ha w (List.mem_cons.mpr (Or.inl e))) (fun h => (List.mem_append.mp h).elim (fun h => ha w (List.mem_cons.mpr (Or.inr h))) (hb w))
theorem goodIn_sub {big ws : List Cond} (hm : ∀ w ∈ ws, w ∈ big) (h : ws.all goodWord = true) : GoodIn big ws := fun w hw => ⟨hm w hw, good_of_word (List.all_eq_true.mp h w hw)⟩
/-! ===== END ===== -/
/-! ===== BEGIN exceptions that leave a method, and their catching by the caller (launches without stack traces) ===== -/
section VXA
/-! The laws vx_back, vx_callV, vx_callS, vx_callSW, vx_throw0, vx_throwS follow proofs of the library, with one case more: JvmDerived/Free/Laws.lean (Back.of_free), Shelf42/LK1.lean (callV, callS), Shelf/KitTraced.lean (throwNew0V, throwNewS). -/
/-- where a method has thrown q: the class by its name, the cell, what was written, the world -/
def vx_T (XC : String → State → State → Prop) (st : State) (q : Addr) (t : State) (mc ms : Nat) (free : Addr → Prop) : Prop :=
  ∃ (E : String) (ce : Cell) (L : List Loc), XC E st t ∧ t.heap[q]? = some ce ∧ ce.vm = .none ∧ st.vm.findClass E = some ce.cls ∧ st.WarmedH t.vm ∧ st.sameButNew ({ t with vm := st.vm } : State) L mc ms ∧ ∀ z ∈ L, free z.base
def vx_Q (Qc : Array Value → State → Outcome → State → Prop) (XC : String → State → State → Prop) (mc ms : Nat) (free : Addr → Prop) : Array Value → State → Outcome → State → Prop := fun a st o t =>
  (Qc a st o t ∧ ∃ L, FrameEnd st o t L mc ms ∧ ∀ q ∈ L, free q.base) ∨ ∃ q, o = .threw q ∧ vx_T XC st q t mc ms free
/-- a callee that returns or throws -/
def vx_Met (l : Launch) (y : MethodName) (ws : List Cond) (rm : Room) (Pc : Array Value → State → Prop) (Qc : Array Value → State → Outcome → State → Prop) (XC : String → State → State → Prop) (mc ms : Nat) (free : Addr → Prop) : Prop :=
  MetFree l y (headSpec ws rm) Pc (fun _ _ _ _ _ => True) (vx_Q Qc XC mc ms free)
def vx_Post (XC : String → State → State → Prop) (mc ms : Nat) (free : Addr → Prop) : Pt → Array Value → Addr → Pt → Prop := fun A a q B =>
  ∃ (g : JFrame) (mk : MethodId) (t : State) (L : List Loc) (E : String) (ce : Cell), B.U.heap = t.heap ∧ B.U.vm = t.vm ∧ XC E (A.U.calling g mk a) t ∧ t.heap[q]? = some ce ∧ ce.vm = .none ∧ A.U.vm.findClass E = some ce.cls ∧ B.locs = A.locs ++ L ∧ (∀ z ∈ L, free z.base) ∧ B.cells = A.cells + mc ∧ B.slots = A.slots + ms
def vx_Back (l : Launch) (R : Room) (p : Program) (e : Env) (below : List Frame) (s : State) (sargs : Array Value) (y : MethodName) (len W9 : Nat)
    (Pre : Pt → Array Value → Prop) (Post : Pt → Array Value → Option Value → Pt → Prop) (PostX : Pt → Array Value → Addr → Pt → Prop) : Prop :=
  ∀ (m : MethodId) (meth : Method) (c : Code) (A : Pt) (g : JFrame) (ig : Instr) (mk : MethodId) (a : Array Value),
    Stand p l e R s m sargs below meth c A.U A.locs A.cells A.slots → g.method = m → g.locals.size = c.maxLocals → decode c.code g.pc = .ok (ig, len) →
    2 * g.monitorRoom + (g.stack.map fun v => v.category).sum ≤ W9 → A.U.methodNamed? y = some mk → Pre A a →
    (∃ (v : Option Value) (B : Pt), Stand p l e R s m sargs below meth c B.U B.locs B.cells B.slots ∧ Post A a v B ∧
      Steps p.tables e below (doInvoke e (A.U.setTop g) [] mk a).1 (B.U.setTop { g with pc := g.pc + len, stack := v.toList ++ g.stack })) ∨
    (∃ (q : Addr) (B : Pt), Stand p l e R s m sargs below meth c B.U B.locs B.cells B.slots ∧ PostX A a q B ∧
      Steps p.tables e below (doInvoke e (A.U.setTop g) [] mk a).1 ((B.U.setTop g).pushFrame (.throwing q)))
section Payer
variable {l : Launch} {R : Room} {p : Program} {e : Env} {below : List Frame} {s : State} {sargs : Array Value} {y : MethodName} {len W9 : Nat}
theorem vx_back {ws : List Cond} {rm : Room} {Pc : Array Value → State → Prop} {Qc : Array Value → State → Outcome → State → Prop} {XC : String → State → State → Prop} {mc ms : Nat} {free : Addr → Prop} {bytes : ByteArray} {maxL : Nat} {ret : Option FieldType}
    (hM : vx_Met l y ws rm Pc Qc XC mc ms free) (hblind : FrameBlind Pc) (hrc : rm.cells = mc) (hrs : rm.slots = ms)
    (hframes : rm.frames + 1 ≤ R.frames) (hlocals : W9 + (maxL + 11) + rm.locals ≤ R.locals)
    (hws : ∀ w ∈ ws, ∀ a' U, s.WarmedH U.vm → w.before a' U = true) (hcode : Cond.code y bytes maxL ret ∈ ws) (hinit : ∀ a' U, s.WarmedH U.vm → (Cond.initialized y.cls).before a' U = true) :
    vx_Back l R p e below s sargs y len W9 (PreOf R mc ms Pc) (PostOf Qc mc ms free) (vx_Post XC mc ms free) := by
  intro m meth c A g ig mk a X hg hsize hdg hW hn hp
  have h1 : (headSpec ws rm).pre.before a A.U = true := atoms_intro fun w hw => hws w hw _ _ X.warmed
  have h2 : (Cond.code y bytes maxL ret).before a A.U = true := hws _ hcode _ _ X.warmed
  have h3 : (Cond.initialized y.cls).before a A.U = true := hinit _ _ X.warmed
  have h4 : A.cells + (headSpec ws rm).room.cells ≤ R.cells := by rw [show (headSpec ws rm).room.cells = mc from hrc]; exact hp.1
  have h5 : A.slots + (headSpec ws rm).room.slots ≤ R.slots := by rw [show (headSpec ws rm).room.slots = ms from hrs]; exact hp.2.1
  have hPc : Pc a (A.U.calling g mk a) := hblind _ _ _ _ hp.2.2
  obtain ⟨U, Ls, c0, s0⟩ := A
  dsimp only [Pt.U, Pt.locs, Pt.cells, Pt.slots] at h1 h2 h3 h4 h5 X hn hPc ⊢
  obtain ⟨methY, cY, hmY, hcY, -, hlY, -, -, -, -⟩ := Cond.code_spec hn h2
  obtain ⟨kY, hkY, -⟩ := className_of_methodNamed hn
  have hinitY : kY.init = .initialized := Cond.initialized_spec (findClass_of_methodNamed hn) hkY h3
  have h : At U g.method c below := by rw [hg]; exact X.here
  have hlocals9 : W9 + (maxL + 11) + (headSpec ws rm).room.locals ≤ R.locals := hlocals
  have happ : (headSpec ws rm).appliesLoose y e.platform (U.calling g mk a) = true :=
    Spec.appliesLoose_calling (g := g) h hdg hn hkY hinitY
      (X.room_calling (g := g) (R' := (headSpec ws rm).room) hsize hmY hcY hframes (by rw [hlY]; omega) h4 h5) h1
  obtain ⟨mid, hmid⟩ := h.above
  have hfr : (U.setTop g).frames = (.java g :: mid) ++ below := by rw [State.frames_setTop' g h.top, hmid]; rfl
  obtain ⟨o, s₂, hsteps, -, hend, hq⟩ := Steps.callFree hM p X.admits X.cas X.clock (acts := []) hfr happ hPc trivial
  have hq' : vx_Q Qc XC mc ms free a (U.calling g mk a) o s₂ := hq
  rw [State.frames_setTop' g h.top] at hend
  obtain ⟨g₀, hg0⟩ := Option.isSome_iff_exists.mp h.top
  obtain ⟨r, hr⟩ := State.topJava?_eq_some.mp hg0
  have hr' : (({ U with heap := s₂.heap, slotsUsed := s₂.slotsUsed } : State).setVm s₂.vm).frames = .java g₀ :: r := hr
  rcases hq' with ⟨hqc, L, hfe, hL⟩ | ⟨q, rfl, E, ce, L, hx, hce, hcv, hcl, hW₂, hsm, hL⟩
  · obtain ⟨⟨v, rfl⟩, hW₂, e2, q2, q3, q4, q5, q6⟩ := id hfe
    have e3 : s₂ = ({ (U.calling g mk a).setFrames s₂.frames with heap := s₂.heap, slotsUsed := s₂.slotsUsed } : State).setVm s₂.vm := by
      have : s₂ = ({ s₂ with vm := (U.calling g mk a).vm } : State).setVm s₂.vm := rfl
      rw [e2] at this
      exact this
    obtain ⟨c₂, i₂, len₂, hc₂, hd₂, hf₂⟩ := hend
    have hW' : U.WarmedH s₂.vm := hW₂
    have hcc : c₂ = c := by
      have h1 : s₂.code? g.method = U.code? g.method := by
        rw [State.code?_eq, State.code?_eq, hW'.alike.method?]
      exact Option.some.inj (hc₂.symm.trans (h1.trans h.code))
    subst hcc
    have hlen : len₂ = len := by rw [hdg] at hd₂; cases hd₂; rfl
    subst hlen
    have hs₂ : s₂ = (({ U with heap := s₂.heap, slotsUsed := s₂.slotsUsed } : State).setVm s₂.vm).setTop { g with pc := g.pc + len₂, stack := v.toList ++ g.stack } := by
      refine e3.trans ?_
      rw [hf₂, State.calling_eq h.top, State.setFrames_setFrames, State.setTop_of_frames _ hr', hr]
      rfl
    have hsame : U.sameButNew ({ U with heap := s₂.heap, slotsUsed := s₂.slotsUsed } : State) L mc ms := by
      refine ⟨?_, q2, q3, q4, q5, q6⟩
      obtain ⟨t, ht, -⟩ := State.frames_cons hr
      show ({ U with heap := s₂.heap, slotsUsed := s₂.slotsUsed } : State) = { U.setFrames U.frames with heap := s₂.heap, slotsUsed := s₂.slotsUsed }
      rw [State.setFrames_self ht]
    subst hg
    refine Or.inl ⟨v, ⟨(({ U with heap := s₂.heap, slotsUsed := s₂.slotsUsed } : State).setVm s₂.vm), Ls ++ L, c0 + mc, s0 + ms⟩,
      ⟨X.admits, X.cas, X.clock, X.frames, X.room, X.hears, X.method, X.code, (X.here.setHeapUsed s₂.heap s₂.slotsUsed).setVm hW'.alike, X.tail, State.WarmedH.trans X.warmed hW', X.limits, X.bytes, X.same.trans (hsame.setVm s.vm)⟩,
      ⟨g, mk, s₂, L, rfl, rfl, hqc, rfl, hL, rfl, rfl⟩, ?_⟩
    show Steps p.tables e below _ ((({ U with heap := s₂.heap, slotsUsed := s₂.slotsUsed } : State).setVm s₂.vm).setTop { g with pc := g.pc + len₂, stack := v.toList ++ g.stack })
    rw [← hs₂]
    exact hsteps
  · obtain ⟨e2, q2, q3, q4, q5, q6⟩ := id hsm
    have e3 : s₂ = ({ (U.calling g mk a).setFrames s₂.frames with heap := s₂.heap, slotsUsed := s₂.slotsUsed } : State).setVm s₂.vm := by
      have : s₂ = ({ s₂ with vm := (U.calling g mk a).vm } : State).setVm s₂.vm := rfl
      rw [e2] at this
      exact this
    have hf₂ : s₂.frames = .throwing q :: .java g :: U.frames.tail := hend
    have hW' : U.WarmedH s₂.vm := hW₂
    have hs₂ : s₂ = ((({ U with heap := s₂.heap, slotsUsed := s₂.slotsUsed } : State).setVm s₂.vm).setTop g).pushFrame (.throwing q) := by
      refine e3.trans ?_
      rw [hf₂, State.calling_eq h.top, State.setFrames_setFrames, State.pushFrame, State.frames_setTop _ hr', State.setTop_of_frames _ hr', State.setFrames_setFrames, hr]
      rfl
    have hsame : U.sameButNew ({ U with heap := s₂.heap, slotsUsed := s₂.slotsUsed } : State) L mc ms := by
      refine ⟨?_, q2, q3, q4, q5, q6⟩
      obtain ⟨t, ht, -⟩ := State.frames_cons hr
      show ({ U with heap := s₂.heap, slotsUsed := s₂.slotsUsed } : State) = { U.setFrames U.frames with heap := s₂.heap, slotsUsed := s₂.slotsUsed }
      rw [State.setFrames_self ht]
    subst hg
    refine Or.inr ⟨q, ⟨(({ U with heap := s₂.heap, slotsUsed := s₂.slotsUsed } : State).setVm s₂.vm), Ls ++ L, c0 + mc, s0 + ms⟩,
      ⟨X.admits, X.cas, X.clock, X.frames, X.room, X.hears, X.method, X.code, (X.here.setHeapUsed s₂.heap s₂.slotsUsed).setVm hW'.alike, X.tail, State.WarmedH.trans X.warmed hW', X.limits, X.bytes, X.same.trans (hsame.setVm s.vm)⟩,
      ⟨g, mk, s₂, L, E, ce, rfl, rfl, hx, hce, hcv, hcl, rfl, hL, rfl, rfl⟩, ?_⟩
    show Steps p.tables e below _ (((({ U with heap := s₂.heap, slotsUsed := s₂.slotsUsed } : State).setVm s₂.vm).setTop g).pushFrame (.throwing q))
    rw [← hs₂]
    exact hsteps
end Payer
section Calls
variable {p : Program} {l : Launch} {e : Env} {R : Room} {s : State} {m : MethodId} {args : Array Value} {below : List Frame} {meth : Method} {c : Code} {T : State} {locs : List Loc} {cells slots : Nat}
theorem vx_callV (X : Stand p l e R s m args below meth c T locs cells slots) (hexec : p.tables.exec = Jvm.exec) {own C : String} {index : Nat} {y : MethodName} {bytes : ByteArray} {maxL : Nat} {ret : Option FieldType}
    (hown : s.vm.findClass own = some m.cls) (hlink : (Cond.methodLink own index y).before args s = true) (hinst : (Cond.instanceMethod y).before args s = true) (hsel : (Cond.selects C y y).before args s = true)
    (hcode : (Cond.code y bytes maxL ret).before args s = true) (hy : y.cls ≠ "java/lang/invoke/MethodHandle" ∧ y.cls ≠ "java/lang/invoke/VarHandle")
    {W9 : Nat} {Pre : Pt → Array Value → Prop} {Post : Pt → Array Value → Option Value → Pt → Prop} {PostX : Pt → Array Value → Addr → Pt → Prop} (hK : vx_Back l R p e below s args y 3 W9 Pre Post PostX)
    {b : Addr} {cellB : Cell} (hcell : T.heap[b]? = some cellB) (hobj : cellB.vm.isStatics = false) (hcls : s.vm.findClass C = some cellB.cls)
    {g : JFrame} (hg : g.method = m) (hsize : g.locals.size = c.maxLocals) {argsL rest : List Value} (hlen : ∀ sig, parseMethodDescriptor y.desc = some sig → argsL.length = sig.parameters.length)
    (hstack : g.stack = argsL.reverse ++ .ref b :: rest) (hW : 2 * g.monitorRoom + (rest.map fun v => v.category).sum ≤ W9) (hdg : decode c.code g.pc = .ok (.invokevirtual index, 3))
    (hpre : ∀ vm₁, s.WarmedH vm₁ → Pre ⟨T.setVm vm₁, locs, cells, slots⟩ (Value.ref b :: argsL).toArray) :
    (∃ (v : Option Value) (vm₁ : Vm) (B : Pt), s.WarmedH vm₁ ∧ Stand p l e R s m args below meth c B.U B.locs B.cells B.slots ∧ Post ⟨T.setVm vm₁, locs, cells, slots⟩ (Value.ref b :: argsL).toArray v B ∧
      ∀ target, Steps p.tables e below (B.U.setTop { g with pc := g.pc + 3, stack := v.toList ++ rest }) target → Steps p.tables e below (T.setTop g) target) ∨
    (∃ (q : Addr) (vm₁ : Vm) (B : Pt), s.WarmedH vm₁ ∧ Stand p l e R s m args below meth c B.U B.locs B.cells B.slots ∧ PostX ⟨T.setVm vm₁, locs, cells, slots⟩ (Value.ref b :: argsL).toArray q B ∧
      Steps p.tables e below (T.setTop g) ((B.U.setTop { g with stack := rest }).pushFrame (.throwing q))) := by
  obtain ⟨mk, methM, hnamed, hmethM, hstM, habM⟩ := Cond.instanceMethod_spec hinst
  obtain ⟨methM', cM, hmethM', -, -, -, -, -, -, hsigM⟩ := Cond.code_spec hnamed hcode
  cases hmethM.symm.trans hmethM'
  obtain ⟨c2, r2, m2, q1, q2, q3, q4, kP, hkP, hkPi⟩ := Cond.selects_spec hsel
  cases hcls.symm.trans q1
  cases (State.methodFound?_of_named hnamed hy).symm.trans q2
  cases hnamed.symm.trans q3
  have hselP : selectMethod e.platform s.vm cellB.cls mk = .method mk := by rw [Launch.admits_selectMethod X.admits]; exact q4
  obtain ⟨vm₁, X₁, hstep₁⟩ := X.invokevirtual hexec hown hlink hnamed hmethM hstM hkP hkPi hy (a := b) (cell := cellB) hcell
    (fun z h => by rw [h] at hobj; cases hobj) hselP hmethM habM hkP hkPi (g := g) hg (argsL := argsL) (rest := rest) (hlen _ hsigM) hstack hdg
  rcases hK m meth c ⟨T.setVm vm₁, locs, cells, slots⟩ { g with stack := rest } (.invokevirtual index) mk (Value.ref b :: argsL).toArray X₁ hg hsize hdg hW (X₁.named hnamed) (hpre vm₁ X₁.warmed) with ⟨v, B, X', hpost, hsteps⟩ | ⟨q, B, X', hpost, hsteps⟩
  · exact Or.inl ⟨v, vm₁, B, X₁.warmed, X', hpost, fun target h => hstep₁ _ fun acts => by rw [doInvoke_state]; exact hsteps.trans h⟩
  · exact Or.inr ⟨q, vm₁, B, X₁.warmed, X', hpost, hstep₁ _ fun acts => by rw [doInvoke_state]; exact hsteps⟩
theorem vx_callS (X : Stand p l e R s m args below meth c T locs cells slots) (hexec : p.tables.exec = Jvm.exec) {own : String} {index : Nat} {y : MethodName} {bytes : ByteArray} {maxL : Nat} {ret : Option FieldType}
    (hown : s.vm.findClass own = some m.cls) (hlink : (Cond.methodLink own index y).before args s = true) (hstat : (Cond.static y).before args s = true) (hinit : (Cond.initialized y.cls).before args s = true)
    (hcode : (Cond.code y bytes maxL ret).before args s = true) (hy : y.cls ≠ "java/lang/invoke/MethodHandle" ∧ y.cls ≠ "java/lang/invoke/VarHandle")
    {W9 : Nat} {Pre : Pt → Array Value → Prop} {Post : Pt → Array Value → Option Value → Pt → Prop} {PostX : Pt → Array Value → Addr → Pt → Prop} (hK : vx_Back l R p e below s args y 3 W9 Pre Post PostX)
    {g : JFrame} (hg : g.method = m) (hsize : g.locals.size = c.maxLocals) {argsL rest : List Value} (hlen : ∀ sig, parseMethodDescriptor y.desc = some sig → argsL.length = sig.parameters.length)
    (hstack : g.stack = argsL.reverse ++ rest) (hW : 2 * g.monitorRoom + (rest.map fun v => v.category).sum ≤ W9) (hdg : decode c.code g.pc = .ok (.invokestatic index, 3))
    (hpre : ∀ vm₁, s.WarmedH vm₁ → Pre ⟨T.setVm vm₁, locs, cells, slots⟩ argsL.toArray) :
    (∃ (v : Option Value) (vm₁ : Vm) (B : Pt), s.WarmedH vm₁ ∧ Stand p l e R s m args below meth c B.U B.locs B.cells B.slots ∧ Post ⟨T.setVm vm₁, locs, cells, slots⟩ argsL.toArray v B ∧
      ∀ target, Steps p.tables e below (B.U.setTop { g with pc := g.pc + 3, stack := v.toList ++ rest }) target → Steps p.tables e below (T.setTop g) target) ∨
    (∃ (q : Addr) (vm₁ : Vm) (B : Pt), s.WarmedH vm₁ ∧ Stand p l e R s m args below meth c B.U B.locs B.cells B.slots ∧ PostX ⟨T.setVm vm₁, locs, cells, slots⟩ argsL.toArray q B ∧
      Steps p.tables e below (T.setTop g) ((B.U.setTop { g with stack := rest }).pushFrame (.throwing q))) := by
  obtain ⟨mk, hnamed⟩ := Cond.code_named hcode
  obtain ⟨methM, cM, hmethM, -, -, -, -, -, -, hsigM⟩ := Cond.code_spec hnamed hcode
  have hstatic : methM.isStatic = true := Cond.static_spec hnamed hmethM hstat
  obtain ⟨kP, hkP, -⟩ := className_of_methodNamed hnamed
  have hinitP : kP.init = .initialized := Cond.initialized_spec (findClass_of_methodNamed hnamed) hkP hinit
  obtain ⟨vm₁, X₁, hstep₁⟩ := X.invokestatic hexec hown hlink hnamed hmethM hstatic hkP hinitP hy (g := g) hg (argsL := argsL) (rest := rest) (hlen _ hsigM) hstack hdg
  rcases hK m meth c ⟨T.setVm vm₁, locs, cells, slots⟩ { g with stack := rest } (.invokestatic index) mk argsL.toArray X₁ hg hsize hdg hW (X₁.named hnamed) (hpre vm₁ X₁.warmed) with ⟨v, B, X', hpost, hsteps⟩ | ⟨q, B, X', hpost, hsteps⟩
  · exact Or.inl ⟨v, vm₁, B, X₁.warmed, X', hpost, fun target h => hstep₁ _ fun acts => by rw [doInvoke_state]; exact hsteps.trans h⟩
  · exact Or.inr ⟨q, vm₁, B, X₁.warmed, X', hpost, hstep₁ _ fun acts => by rw [doInvoke_state]; exact hsteps⟩
end Calls
theorem vx_cls {s : State} {T : State} {vm₁ : Vm} {E : String} {k : ClassId} (hW : s.WarmedH vm₁) (h : (T.setVm vm₁).vm.findClass E = some k) : s.vm.findClass E = some k := by
  have h1 : vm₁.findClass E = some k := h
  rw [hW.alike.findClass] at h1
  exact h1
/-- the method's frame g, with q thrown over it -/
def vx_W (p : Program) (l : Launch) (e : Env) (R : Room) (s : State) (m : MethodId) (args : Array Value) (below : List Frame) (meth : Method) (c : Code) (H : Heap) (locs : List Loc) (cells slots : Nat) (Q : State → Prop) (g : JFrame) (q : Addr) : Prop :=
  ∀ T : State, T.heap = H → Stand p l e R s m args below meth c T locs cells slots → ∃ t, Steps p.tables e below ((T.setTop g).pushFrame (.throwing q)) t ∧ Q t
def vx_Run (p : Program) (l : Launch) (e : Env) (R : Room) (s : State) (m : MethodId) (args : Array Value) (below : List Frame) (meth : Method) (c : Code) (H : Heap) (locs : List Loc) (cells slots mc ms : Nat) (g : JFrame) (rest : List Value) (Qa : State → Outcome → State → Prop) (XC : String → State → State → Prop) (free : Addr → Prop) : Prop :=
  ∀ T : State, T.heap = H → Stand p l e R s m args below meth c T locs cells slots →
    (∃ (v : Option Value) (st₀ t T' : State) (L : List Loc), st₀.heap = H ∧ Stand p l e R s m args below meth c T' (locs ++ L) (cells + mc) (slots + ms) ∧ (∀ q ∈ L, free q.base) ∧ T'.heap = t.heap ∧ T'.vm = t.vm ∧ Qa st₀ (.returned v) t ∧
      Goes p e below T g T' { g with pc := g.pc + 3, stack := v.toList ++ rest }) ∨
    (∃ (q : Addr) (st₀ t T' : State) (L : List Loc) (E : String) (ce : Cell), st₀.heap = H ∧ Stand p l e R s m args below meth c T' (locs ++ L) (cells + mc) (slots + ms) ∧ (∀ z ∈ L, free z.base) ∧ T'.heap = t.heap ∧ T'.vm = t.vm ∧ XC E st₀ t ∧ t.heap[q]? = some ce ∧ ce.vm = .none ∧ s.vm.findClass E = some ce.cls ∧
      Steps p.tables e below (T.setTop g) ((T'.setTop { g with stack := rest }).pushFrame (.throwing q)))
def vx_X {S : Type} (px : S → Prop) (B : String → S → State → Prop) (A : Nat → Prop) : String → State → State → Prop := fun E st t => ∃ u : S, px u ∧ B E u t ∧ va_F A st t
section Runs
variable {p : Program} {l : Launch} {e : Env} {R : Room} {s : State} {m : MethodId} {args : Array Value} {below : List Frame} {meth : Method} {c : Code} {H : Heap} {locs : List Loc} {cells slots : Nat}
variable {y : MethodName} {bytes cc : ByteArray} {maxL nL mc ms n index : Nat} {ret : Option FieldType} {ws : List Cond} {rm : Room} {Pc : Array Value → State → Prop} {Qc : Array Value → State → Outcome → State → Prop} {XC : String → State → State → Prop} {free : Addr → Prop} {Ts : List Cond} {own C : String} {b : Addr} {As rest : List Value} {g : JFrame}
theorem vx_callBack (cb : CallB R s args own index y bytes maxL ret ws rm mc ms n) (hM : vx_Met l y ws rm Pc Qc XC mc ms free) (hbl : FrameBlind Pc) : vx_Back l R p e below s args y 3 8 (PreOf R mc ms Pc) (PostOf Qc mc ms free) (vx_Post XC mc ms free) := by
  obtain ⟨hrc, hrs, hfr, hlo, hws, hcw, -, hini, -⟩ := cb
  exact vx_back (bytes := bytes) (maxL := maxL) (ret := ret) hM hbl hrc hrs hfr hlo hws hcw (fun a' U hW => word_at hW (Or.inl (by first | rfl | simp [Cond.onTables, Cond.keeps, Cond.steady])) hini)
theorem vx_runV (S : CallFix p m c cc nL s args Ts own) (hM : vx_Met l y ws rm Pc Qc XC mc ms free) (cw : CallW R s args own C index y bytes maxL ret ws rm mc ms n) (hp : PreV s H C b Pc As)
    (hg : g.method = m) (hn : As.length = n) (hsize : g.locals.size = nL) (hstack : g.stack = As.reverse ++ .ref b :: rest) (hW : 2 * g.monitorRoom + (rest.map fun v => v.category).sum ≤ 8) (hdg : decode cc g.pc = .ok (.invokevirtual index, 3)) (hf : cells + mc ≤ R.cells ∧ slots + ms ≤ R.slots) :
    vx_Run p l e R s m args below meth c H locs cells slots mc ms g rest (Qc (Value.ref b :: As).toArray) XC free := by
  have hK : vx_Back l R p e below s args y 3 8 (PreOf R mc ms Pc) (PostOf Qc mc ms free) (vx_Post XC mc ms free) := vx_callBack cw.1 hM hp.1
  obtain ⟨⟨-, -, -, -, -, -, hcode, -, hy, hlen, hl⟩, hin, hse⟩ := cw
  obtain ⟨hx, hb, hml, ho, -⟩ := S
  obtain ⟨-, ⟨cellB, hcB, hoB, hclB⟩, hPc⟩ := hp
  intro T hT X
  rcases vx_callV X hx (C := C) (bytes := bytes) (maxL := maxL) (ret := ret) ho hl hin hse hcode hy hK (by rw [hT]; exact hcB) hoB hclB hg (hsize.trans hml.symm) (argsL := As) (rest := rest) (fun sig h => hn.trans (hlen sig h)) hstack hW (by rw [hb]; exact hdg)
    (fun vm₁ hW₁ => ⟨hf.1, hf.2, hPc (T.setVm vm₁) hT hW₁⟩) with ⟨v, vm₁, ⟨U', l2, c2, s2⟩, hW₁, X', ⟨g', mk, t, L, e1, e2, hq, h1, hL, h2, h3⟩, st⟩ | ⟨q, vm₁, ⟨U', l2, c2, s2⟩, hW₁, X', ⟨g', mk, t, L, E, ce, e1, e2, hq, hce, hcv, hcl, h1, hL, h2, h3⟩, st⟩
  · dsimp only [Pt.U, Pt.locs, Pt.cells, Pt.slots] at X' e1 e2 h1 h2 h3 st
    subst h1; subst h2; subst h3
    exact Or.inl ⟨v, (T.setVm vm₁).calling g' mk (Value.ref b :: As).toArray, t, U', L, hT, X', hL, e1, e2, hq, st⟩
  · dsimp only [Pt.U, Pt.locs, Pt.cells, Pt.slots] at X' e1 e2 h1 h2 h3 st hcl
    subst h1; subst h2; subst h3
    exact Or.inr ⟨q, (T.setVm vm₁).calling g' mk (Value.ref b :: As).toArray, t, U', L, E, ce, hT, X', hL, e1, e2, hq, hce, hcv, vx_cls hW₁ hcl, st⟩
theorem vx_runS (S : CallFix p m c cc nL s args Ts own) (hM : vx_Met l y ws rm Pc Qc XC mc ms free) (cw : CallB R s args own index y bytes maxL ret ws rm mc ms n ∧ (Cond.static y).before args s = true) (hp : PreS s H Pc As)
    (hg : g.method = m) (hn : As.length = n) (hsize : g.locals.size = nL) (hstack : g.stack = As.reverse ++ rest) (hW : 2 * g.monitorRoom + (rest.map fun v => v.category).sum ≤ 8) (hdg : decode cc g.pc = .ok (.invokestatic index, 3)) (hf : cells + mc ≤ R.cells ∧ slots + ms ≤ R.slots) :
    vx_Run p l e R s m args below meth c H locs cells slots mc ms g rest (Qc As.toArray) XC free := by
  have hK : vx_Back l R p e below s args y 3 8 (PreOf R mc ms Pc) (PostOf Qc mc ms free) (vx_Post XC mc ms free) := vx_callBack cw.1 hM hp.1
  obtain ⟨⟨-, -, -, -, -, -, hcode, hini, hy, hlen, hl⟩, hstt⟩ := cw
  obtain ⟨hx, hb, hml, ho, -⟩ := S
  intro T hT X
  rcases vx_callS X hx (bytes := bytes) (maxL := maxL) (ret := ret) ho hl hstt hini hcode hy hK hg (hsize.trans hml.symm) (argsL := As) (rest := rest) (fun sig h => hn.trans (hlen sig h)) hstack hW (by rw [hb]; exact hdg)
    (fun vm₁ hW₁ => ⟨hf.1, hf.2, hp.2 (T.setVm vm₁) hT hW₁⟩) with ⟨v, vm₁, ⟨U', l2, c2, s2⟩, hW₁, X', ⟨g', mk, t, L, e1, e2, hq, h1, hL, h2, h3⟩, st⟩ | ⟨q, vm₁, ⟨U', l2, c2, s2⟩, hW₁, X', ⟨g', mk, t, L, E, ce, e1, e2, hq, hce, hcv, hcl, h1, hL, h2, h3⟩, st⟩
  · dsimp only [Pt.U, Pt.locs, Pt.cells, Pt.slots] at X' e1 e2 h1 h2 h3 st
    subst h1; subst h2; subst h3
    exact Or.inl ⟨v, (T.setVm vm₁).calling g' mk As.toArray, t, U', L, hT, X', hL, e1, e2, hq, st⟩
  · dsimp only [Pt.U, Pt.locs, Pt.cells, Pt.slots] at X' e1 e2 h1 h2 h3 st hcl
    subst h1; subst h2; subst h3
    exact Or.inr ⟨q, (T.setVm vm₁).calling g' mk As.toArray, t, U', L, E, ce, hT, X', hL, e1, e2, hq, hce, hcv, vx_cls hW₁ hcl, st⟩
end Runs
section Rows
variable {p : Program} {l : Launch} {e : Env} {R : Room} {s : State} {m : MethodId} {args : Array Value} {below : List Frame} {meth : Method} {c : Code} {H : Heap} {locs : List Loc} {cells slots : Nat} {Q : State → Prop}
variable {mc ms : Nat} {free : Addr → Prop} {A0 A1 : Nat → Prop} {H0 : Heap} {a : Array Value} {pc : Nat} {ls : Array Slot} {st0 rest : List Value}
theorem vx_keep {st₀ t T' : State} {L : List Loc} (h0 : st₀.heap = H) (e1 : T'.heap = t.heap) (hS : va_S A0 H0 H locs) (hA : ∀ q, q < H.size → A1 q → A0 q) (hf : ∀ q, free q → A0 q) (hL : ∀ q ∈ L, free q.base) (hF : va_F A1 st₀ t) :
    H.size ≤ T'.heap.size ∧ (∀ q : Nat, q < H.size → ¬ A1 q → T'.heap[q]? = H[q]?) ∧ va_S A0 H0 T'.heap (locs ++ L) := by
  obtain ⟨hz, hk⟩ := hF
  rw [h0] at hz hk
  exact ⟨by rw [e1]; exact hz, fun q h1 h2 => by rw [e1]; exact hk q h1 h2,
    ⟨Nat.le_trans hS.1 (by rw [e1]; exact hz), fun q h1 h2 => by rw [e1, hk q (Nat.lt_of_lt_of_le h1 hS.1) (fun z => h2 (hA q (Nat.lt_of_lt_of_le h1 hS.1) z))]; exact hS.2.1 q h1 h2, fun q hq => by
      rcases List.mem_append.mp hq with h | h
      · exact hS.2.2 q h
      · exact hf _ (hL q h)⟩⟩
theorem vx_calli {S SX : Type} {post : Int32 → S → Prop} {px : SX → Prop} {B : S → State → Prop} {BX : String → SX → State → Prop} {AX : Nat → Prop} (hr : vx_Run p l e R s m args below meth c H locs cells slots mc ms (F0 m pc ls st0) rest (va_Qi post B A1 a) (vx_X px BX AX) free) (hS : va_S A0 H0 H locs) (hA : ∀ q, q < H.size → A1 q → A0 q) (hf : ∀ q, free q → A0 q) (hAX : ∀ q, q < H.size → AX q → A0 q)
    (kx : ∀ (E : String) (ce : Cell) (q9 : Addr) (u : SX) (t : State) (H1 : Heap) (locs1 : List Loc), t.heap = H1 → s.vm.Alike t.vm → px u → BX E u t → H.size ≤ H1.size → (∀ q : Nat, q < H.size → ¬ AX q → H1[q]? = H[q]?) → va_S A0 H0 H1 locs1 → H1[q9]? = some ce → ce.vm = .none → s.vm.findClass E = some ce.cls → vx_W p l e R s m args below meth c H1 locs1 (cells + mc) (slots + ms) Q (F0 m pc ls rest) q9)
    (kk : ∀ (r : Int32) (u : S) (t : State) (H1 : Heap) (locs1 : List Loc), t.heap = H1 → s.vm.Alike t.vm → post r u → B u t → H.size ≤ H1.size → (∀ q : Nat, q < H.size → ¬ A1 q → H1[q]? = H[q]?) → va_S A0 H0 H1 locs1 → W p l e R s m args below meth c H1 locs1 (cells + mc) (slots + ms) Q (F0 m (pc + 3) ls (.int r :: rest))) : W p l e R s m args below meth c H locs cells slots Q (F0 m pc ls st0) := by
  intro T hT X
  rcases hr T hT X with ⟨v, st₀, t, T', L, h0, X', hL, e1, e2, ⟨⟨r, u, hv, hp, hb⟩, hF⟩, st⟩ | ⟨q, st₀, t, T', L, E, ce, h0, X', hL, e1, e2, ⟨u, hp, hb, hF⟩, hce, hcv, hcl, st⟩
  · cases hv
    obtain ⟨k1, k2, k3⟩ := vx_keep h0 e1 hS hA hf hL hF
    obtain ⟨t2, a1, b1⟩ := kk r u t T'.heap (locs ++ L) e1.symm (by rw [← e2]; exact X'.warmed.alike) hp hb k1 k2 k3 T' rfl X'
    exact ⟨t2, st t2 a1, b1⟩
  · obtain ⟨k1, k2, k3⟩ := vx_keep h0 e1 hS hAX hf hL hF
    obtain ⟨t2, a1, b1⟩ := kx E ce q u t T'.heap (locs ++ L) e1.symm (by rw [← e2]; exact X'.warmed.alike) hp hb k1 k2 k3 (by rw [e1]; exact hce) hcv hcl T' rfl X'
    exact ⟨t2, st.trans a1, b1⟩
theorem vx_calll {S SX : Type} {post : Int64 → S → Prop} {px : SX → Prop} {B : S → State → Prop} {BX : String → SX → State → Prop} {AX : Nat → Prop} (hr : vx_Run p l e R s m args below meth c H locs cells slots mc ms (F0 m pc ls st0) rest (va_Ql post B A1 a) (vx_X px BX AX) free) (hS : va_S A0 H0 H locs) (hA : ∀ q, q < H.size → A1 q → A0 q) (hf : ∀ q, free q → A0 q) (hAX : ∀ q, q < H.size → AX q → A0 q)
    (kx : ∀ (E : String) (ce : Cell) (q9 : Addr) (u : SX) (t : State) (H1 : Heap) (locs1 : List Loc), t.heap = H1 → s.vm.Alike t.vm → px u → BX E u t → H.size ≤ H1.size → (∀ q : Nat, q < H.size → ¬ AX q → H1[q]? = H[q]?) → va_S A0 H0 H1 locs1 → H1[q9]? = some ce → ce.vm = .none → s.vm.findClass E = some ce.cls → vx_W p l e R s m args below meth c H1 locs1 (cells + mc) (slots + ms) Q (F0 m pc ls rest) q9)
    (kk : ∀ (r : Int64) (u : S) (t : State) (H1 : Heap) (locs1 : List Loc), t.heap = H1 → s.vm.Alike t.vm → post r u → B u t → H.size ≤ H1.size → (∀ q : Nat, q < H.size → ¬ A1 q → H1[q]? = H[q]?) → va_S A0 H0 H1 locs1 → W p l e R s m args below meth c H1 locs1 (cells + mc) (slots + ms) Q (F0 m (pc + 3) ls (.long r :: rest))) : W p l e R s m args below meth c H locs cells slots Q (F0 m pc ls st0) := by
  intro T hT X
  rcases hr T hT X with ⟨v, st₀, t, T', L, h0, X', hL, e1, e2, ⟨⟨r, u, hv, hp, hb⟩, hF⟩, st⟩ | ⟨q, st₀, t, T', L, E, ce, h0, X', hL, e1, e2, ⟨u, hp, hb, hF⟩, hce, hcv, hcl, st⟩
  · cases hv
    obtain ⟨k1, k2, k3⟩ := vx_keep h0 e1 hS hA hf hL hF
    obtain ⟨t2, a1, b1⟩ := kk r u t T'.heap (locs ++ L) e1.symm (by rw [← e2]; exact X'.warmed.alike) hp hb k1 k2 k3 T' rfl X'
    exact ⟨t2, st t2 a1, b1⟩
  · obtain ⟨k1, k2, k3⟩ := vx_keep h0 e1 hS hAX hf hL hF
    obtain ⟨t2, a1, b1⟩ := kx E ce q u t T'.heap (locs ++ L) e1.symm (by rw [← e2]; exact X'.warmed.alike) hp hb k1 k2 k3 (by rw [e1]; exact hce) hcv hcl T' rfl X'
    exact ⟨t2, st.trans a1, b1⟩
theorem vx_callf {S SX : Type} {post : UInt32 → S → Prop} {px : SX → Prop} {B : S → State → Prop} {BX : String → SX → State → Prop} {AX : Nat → Prop} (hr : vx_Run p l e R s m args below meth c H locs cells slots mc ms (F0 m pc ls st0) rest (va_Qf post B A1 a) (vx_X px BX AX) free) (hS : va_S A0 H0 H locs) (hA : ∀ q, q < H.size → A1 q → A0 q) (hf : ∀ q, free q → A0 q) (hAX : ∀ q, q < H.size → AX q → A0 q)
    (kx : ∀ (E : String) (ce : Cell) (q9 : Addr) (u : SX) (t : State) (H1 : Heap) (locs1 : List Loc), t.heap = H1 → s.vm.Alike t.vm → px u → BX E u t → H.size ≤ H1.size → (∀ q : Nat, q < H.size → ¬ AX q → H1[q]? = H[q]?) → va_S A0 H0 H1 locs1 → H1[q9]? = some ce → ce.vm = .none → s.vm.findClass E = some ce.cls → vx_W p l e R s m args below meth c H1 locs1 (cells + mc) (slots + ms) Q (F0 m pc ls rest) q9)
    (kk : ∀ (r : UInt32) (u : S) (t : State) (H1 : Heap) (locs1 : List Loc), t.heap = H1 → s.vm.Alike t.vm → post r u → B u t → H.size ≤ H1.size → (∀ q : Nat, q < H.size → ¬ A1 q → H1[q]? = H[q]?) → va_S A0 H0 H1 locs1 → W p l e R s m args below meth c H1 locs1 (cells + mc) (slots + ms) Q (F0 m (pc + 3) ls (.float r :: rest))) : W p l e R s m args below meth c H locs cells slots Q (F0 m pc ls st0) := by
  intro T hT X
  rcases hr T hT X with ⟨v, st₀, t, T', L, h0, X', hL, e1, e2, ⟨⟨r, u, hv, hp, hb⟩, hF⟩, st⟩ | ⟨q, st₀, t, T', L, E, ce, h0, X', hL, e1, e2, ⟨u, hp, hb, hF⟩, hce, hcv, hcl, st⟩
  · cases hv
    obtain ⟨k1, k2, k3⟩ := vx_keep h0 e1 hS hA hf hL hF
    obtain ⟨t2, a1, b1⟩ := kk r u t T'.heap (locs ++ L) e1.symm (by rw [← e2]; exact X'.warmed.alike) hp hb k1 k2 k3 T' rfl X'
    exact ⟨t2, st t2 a1, b1⟩
  · obtain ⟨k1, k2, k3⟩ := vx_keep h0 e1 hS hAX hf hL hF
    obtain ⟨t2, a1, b1⟩ := kx E ce q u t T'.heap (locs ++ L) e1.symm (by rw [← e2]; exact X'.warmed.alike) hp hb k1 k2 k3 (by rw [e1]; exact hce) hcv hcl T' rfl X'
    exact ⟨t2, st.trans a1, b1⟩
theorem vx_calld {S SX : Type} {post : UInt64 → S → Prop} {px : SX → Prop} {B : S → State → Prop} {BX : String → SX → State → Prop} {AX : Nat → Prop} (hr : vx_Run p l e R s m args below meth c H locs cells slots mc ms (F0 m pc ls st0) rest (va_Qd post B A1 a) (vx_X px BX AX) free) (hS : va_S A0 H0 H locs) (hA : ∀ q, q < H.size → A1 q → A0 q) (hf : ∀ q, free q → A0 q) (hAX : ∀ q, q < H.size → AX q → A0 q)
    (kx : ∀ (E : String) (ce : Cell) (q9 : Addr) (u : SX) (t : State) (H1 : Heap) (locs1 : List Loc), t.heap = H1 → s.vm.Alike t.vm → px u → BX E u t → H.size ≤ H1.size → (∀ q : Nat, q < H.size → ¬ AX q → H1[q]? = H[q]?) → va_S A0 H0 H1 locs1 → H1[q9]? = some ce → ce.vm = .none → s.vm.findClass E = some ce.cls → vx_W p l e R s m args below meth c H1 locs1 (cells + mc) (slots + ms) Q (F0 m pc ls rest) q9)
    (kk : ∀ (r : UInt64) (u : S) (t : State) (H1 : Heap) (locs1 : List Loc), t.heap = H1 → s.vm.Alike t.vm → post r u → B u t → H.size ≤ H1.size → (∀ q : Nat, q < H.size → ¬ A1 q → H1[q]? = H[q]?) → va_S A0 H0 H1 locs1 → W p l e R s m args below meth c H1 locs1 (cells + mc) (slots + ms) Q (F0 m (pc + 3) ls (.double r :: rest))) : W p l e R s m args below meth c H locs cells slots Q (F0 m pc ls st0) := by
  intro T hT X
  rcases hr T hT X with ⟨v, st₀, t, T', L, h0, X', hL, e1, e2, ⟨⟨r, u, hv, hp, hb⟩, hF⟩, st⟩ | ⟨q, st₀, t, T', L, E, ce, h0, X', hL, e1, e2, ⟨u, hp, hb, hF⟩, hce, hcv, hcl, st⟩
  · cases hv
    obtain ⟨k1, k2, k3⟩ := vx_keep h0 e1 hS hA hf hL hF
    obtain ⟨t2, a1, b1⟩ := kk r u t T'.heap (locs ++ L) e1.symm (by rw [← e2]; exact X'.warmed.alike) hp hb k1 k2 k3 T' rfl X'
    exact ⟨t2, st t2 a1, b1⟩
  · obtain ⟨k1, k2, k3⟩ := vx_keep h0 e1 hS hAX hf hL hF
    obtain ⟨t2, a1, b1⟩ := kx E ce q u t T'.heap (locs ++ L) e1.symm (by rw [← e2]; exact X'.warmed.alike) hp hb k1 k2 k3 (by rw [e1]; exact hce) hcv hcl T' rfl X'
    exact ⟨t2, st.trans a1, b1⟩
theorem vx_callv {S SX : Type} {post : S → Prop} {px : SX → Prop} {B : S → State → Prop} {BX : String → SX → State → Prop} {AX : Nat → Prop} (hr : vx_Run p l e R s m args below meth c H locs cells slots mc ms (F0 m pc ls st0) rest (va_Qv post B A1 a) (vx_X px BX AX) free) (hS : va_S A0 H0 H locs) (hA : ∀ q, q < H.size → A1 q → A0 q) (hf : ∀ q, free q → A0 q) (hAX : ∀ q, q < H.size → AX q → A0 q)
    (kx : ∀ (E : String) (ce : Cell) (q9 : Addr) (u : SX) (t : State) (H1 : Heap) (locs1 : List Loc), t.heap = H1 → s.vm.Alike t.vm → px u → BX E u t → H.size ≤ H1.size → (∀ q : Nat, q < H.size → ¬ AX q → H1[q]? = H[q]?) → va_S A0 H0 H1 locs1 → H1[q9]? = some ce → ce.vm = .none → s.vm.findClass E = some ce.cls → vx_W p l e R s m args below meth c H1 locs1 (cells + mc) (slots + ms) Q (F0 m pc ls rest) q9)
    (kk : ∀ (u : S) (t : State) (H1 : Heap) (locs1 : List Loc), t.heap = H1 → s.vm.Alike t.vm → post u → B u t → H.size ≤ H1.size → (∀ q : Nat, q < H.size → ¬ A1 q → H1[q]? = H[q]?) → va_S A0 H0 H1 locs1 → W p l e R s m args below meth c H1 locs1 (cells + mc) (slots + ms) Q (F0 m (pc + 3) ls (rest))) : W p l e R s m args below meth c H locs cells slots Q (F0 m pc ls st0) := by
  intro T hT X
  rcases hr T hT X with ⟨v, st₀, t, T', L, h0, X', hL, e1, e2, ⟨⟨u, hv, hp, hb⟩, hF⟩, st⟩ | ⟨q, st₀, t, T', L, E, ce, h0, X', hL, e1, e2, ⟨u, hp, hb, hF⟩, hce, hcv, hcl, st⟩
  · cases hv
    obtain ⟨k1, k2, k3⟩ := vx_keep h0 e1 hS hA hf hL hF
    obtain ⟨t2, a1, b1⟩ := kk u t T'.heap (locs ++ L) e1.symm (by rw [← e2]; exact X'.warmed.alike) hp hb k1 k2 k3 T' rfl X'
    exact ⟨t2, st t2 a1, b1⟩
  · obtain ⟨k1, k2, k3⟩ := vx_keep h0 e1 hS hAX hf hL hF
    obtain ⟨t2, a1, b1⟩ := kx E ce q u t T'.heap (locs ++ L) e1.symm (by rw [← e2]; exact X'.warmed.alike) hp hb k1 k2 k3 (by rw [e1]; exact hce) hcv hcl T' rfl X'
    exact ⟨t2, st.trans a1, b1⟩
/-- caught by the row x of this method's table; the rows ahead don't take it -/
theorem vx_catch {own name : String} {E : String} {ce : Cell} {q : Addr} (hown : s.vm.findClass own = some m.cls) (pre : List ExceptionTableEntry) (x : ExceptionTableEntry) (suf : List ExceptionTableEntry) (hsplit : c.exceptionTable.toList = pre ++ x :: suf)
    (hpass : ∀ z ∈ pre, covers z pc = false ∨ (z.catchType ≠ 0 ∧ ∃ nm : String, (Cond.classLink own z.catchType nm).before args s = true ∧ va_Nc E nm s)) (hx : covers x pc = true) (h0 : x.catchType ≠ 0)
    (hlink : (Cond.classLink own x.catchType name).before args s = true) (hcast : (Cond.castable E name).before args s = true) (hcell : H[q]? = some ce) (hv : ce.vm = .none) (hcl : s.vm.findClass E = some ce.cls)
    (kk : W p l e R s m args below meth c H locs cells slots Q (F0 m x.handlerPc ls [.ref q])) : vx_W p l e R s m args below meth c H locs cells slots Q (F0 m pc ls rest) q := by
  intro T hT X
  have hpl : e.platform.magicAccessors = ({} : Platform).magicAccessors := by rw [X.admits.platform]
  obtain ⟨c3, c4, hc3, hc4, hasg⟩ := Cond.castable_spec hcast
  cases Option.some.inj (hc3.symm.trans hcl)
  obtain ⟨c5, hc5, hcl5⟩ := Cond.classLink_spec hown hlink e.platform hpl
  cases Option.some.inj (hc4.symm.trans hc5)
  obtain ⟨vm', X', st⟩ := X.thenCaughtThrough q (g := F0 m pc ls rest) rfl (Steps.refl _) (by rw [hT]; exact hcell) (by rw [hv]; rfl) (by obtain ⟨k9, h9, -⟩ := Vm.findClass_spec hcl; exact ⟨k9, h9⟩) pre x suf hsplit
    (fun z hz => by
      rcases hpass z hz with h | ⟨hz0, nm, hl1, hn1⟩
      · exact Or.inl h
      · obtain ⟨c6, hc6, hcl6⟩ := Cond.classLink_spec hown hl1 e.platform hpl
        obtain ⟨a8, b8, h1, h2, h3⟩ := hn1
        cases Option.some.inj (h1.symm.trans hcl)
        cases Option.some.inj (h2.symm.trans hc6)
        exact Or.inr ⟨hz0, _, hcl6, h3⟩) hx (Or.inr ⟨h0, c4, hcl5, hasg⟩)
  obtain ⟨t, a1, b1⟩ := kk (T.setVm vm') hT X'
  exact ⟨t, st.trans a1, b1⟩
end Rows
section Ends
variable {p : Program} {l : Launch} {e : Env} {R : Room} {s : State} {m : MethodId} {args : Array Value} {below : List Frame} {meth : Method} {c : Code} {H : Heap} {locs : List Loc} {cells slots : Nat} {Q : State → Prop}
variable {mc ms : Nat} {free : Addr → Prop} {A0 A1 : Nat → Prop} {H0 : Heap} {a : Array Value} {ls : Array Slot} {st0 rest : List Value}
variable {Qc : Array Value → State → Outcome → State → Prop} {XC : String → State → State → Prop}
/-- what a body that may throw owes at its end -/
def vx_MQ (below : List Frame) (Qc : Array Value → State → Outcome → State → Prop) (XC : String → State → State → Prop) (a : Array Value) (s : State) (mc ms : Nat) (free : Addr → Prop) : State → Prop := fun t =>
  ∃ o, t.status = .running ∧ Ended t below o ∧ vx_Q Qc XC mc ms free a s o t
theorem vx_ret {g : JFrame} {mc ms : Nat} (k : W p l e R s m args below meth c H locs cells slots (MQ below Qc args s mc ms free) g) : W p l e R s m args below meth c H locs cells slots (vx_MQ below Qc XC args s mc ms free) g := by
  intro T hT X
  obtain ⟨t, a1, o, b1, b2, b3, b4⟩ := k T hT X
  exact ⟨t, a1, o, b1, b2, Or.inl ⟨b3, b4⟩⟩
/-- not caught here: it goes on to the caller -/
theorem vx_widen {g : JFrame} {q : Addr} {k n : Nat} (h1 : cells ≤ k) (h2 : slots ≤ n) (kk : vx_W p l e R s m args below meth c H locs k n Q g q) : vx_W p l e R s m args below meth c H locs cells slots Q g q := fun T hT X => kk T hT (stand_widen X h1 h2)
theorem vx_out {pc : Nat} {E : String} {ce : Cell} {q : Addr} {mc ms : Nat} (hout : ∀ x ∈ c.exceptionTable.toList, covers x pc = false) (hlocks : meth.locks = false) (hcell : H[q]? = some ce) (hv : ce.vm = .none) (hcl : s.vm.findClass E = some ce.cls)
    (hx : ∀ t : State, t.heap = H → s.vm.Alike t.vm → XC E s t) (hf : ∀ z ∈ locs, free z.base) (hc : cells ≤ mc) (hs : slots ≤ ms) :
    vx_W p l e R s m args below meth c H locs cells slots (vx_MQ below Qc XC args s mc ms free) (F0 m pc ls rest) q := by
  intro T hT X
  obtain ⟨st1, hrun, hend, hW, hsm⟩ := X.leaveThrown q (g := F0 m pc ls rest) rfl rfl rfl hout hlocks
  have hcell9 : (T.setFrames (.throwing q :: below)).heap[q]? = some ce := by
    show T.heap[q]? = some ce
    rw [hT]; exact hcell
  exact ⟨_, st1, .threw q, hrun, hend, Or.inr ⟨q, rfl, E, ce, locs, hx _ hT hW.alike, hcell9, hv, hcl, hW, hsm.mono hc hs, hf⟩⟩
theorem vx_frame {U : State} {k n : Nat} (h : s.sameButNew ({ U with vm := s.vm } : State) locs k n) : s.heap.size ≤ U.heap.size ∧ ∀ q : Nat, q < s.heap.size → (∀ z ∈ locs, z.base ≠ q) → U.heap[q]? = s.heap[q]? := by
  obtain ⟨-, h2, -, -, -, h6⟩ := h
  refine ⟨h2, fun q hq hz => ?_⟩
  obtain ⟨c9, e1, e2, e3, e4⟩ := h6 q _ (Array.getElem?_eq_getElem hq)
  have hs : c9.slots = (s.heap[q]).slots := Array.ext_getElem? fun i => e4 i fun hm => hz _ hm rfl
  have h9 : c9 = s.heap[q] := by
    rw [hs] at e2
    exact e2
  have e5 : U.heap[q]? = some c9 := e1
  rw [e5, h9, Array.getElem?_eq_getElem hq]
/-- the words of a throw but the four that speak of the heap -/
def vx_no (w : Cond) : Bool := decide (w ≠ .isRef (.static Bundle.tN "UNASSIGNED_STACK" Bundle.steD)) && decide (w ≠ .isRef (.static Bundle.tN "SUPPRESSED_SENTINEL" Bundle.listD)) && decide (w ≠ .laysStatic Bundle.tN "UNASSIGNED_STACK" Bundle.steD) && decide (w ≠ .laysStatic Bundle.tN "SUPPRESSED_SENTINEL" Bundle.listD)
def vx_at0 (own : String) (ic : Nat) (X : String) (names : List String) : List Cond := (Bundle.ownAtoms0 own ic X names).filter vx_no
def vx_atS (own : String) (ic : Nat) (X : String) (names : List String) : List Cond := (Bundle.ownAtoms own ic X names).filter vx_no
/-- a word that the tables alone decide, or a good one -/
def vx_ot (w : Cond) : Bool := w.onTables || goodWord w
theorem vx_ot_at {args a' : Array Value} {s U : State} {w : Cond} (hW : s.WarmedH U.vm) (hvm : s.vm = U.vm) (hg : vx_ot w = true) (h : w.before args s = true) : w.before a' U = true := by
  simp only [vx_ot, Bool.or_eq_true] at hg
  rcases hg with hg | hg
  · exact va_tabs hg hvm h
  · exact word_at hW (good_of_word hg) h
/-- a list's words: the good ones out of the method's own list, the others by premises of their own -/
theorem vx_hat {args : Array Value} {s : State} {L B : List Cond} (h1 : ∀ w ∈ L.filter goodWord, w.before args s = true) (h2 : ∀ w ∈ L.filter (fun w => !goodWord w), w ∈ B) (h3 : ∀ w ∈ B, w.before args s = true) : ∀ w ∈ L, w.before args s = true := by
  intro w hw
  by_cases g : goodWord w = true
  · exact h1 w (List.mem_filter.mpr ⟨hw, g⟩)
  · refine h3 w (h2 w (List.mem_filter.mpr ⟨hw, ?_⟩))
    show (!goodWord w) = true
    cases hgw : goodWord w
    · rfl
    · exact absurd hgw g
theorem vx_c {args : Array Value} {s : State} {w : Cond} {B : List Cond} (h : w.before args s = true) (t : ∀ w ∈ B, w.before args s = true) : ∀ w' ∈ w :: B, w'.before args s = true := fun w' h' => (List.mem_cons.mp h').elim (fun e => by rw [e]; exact h) (t w')
theorem vx_n {args : Array Value} {s : State} : ∀ w ∈ ([] : List Cond), w.before args s = true := fun _ h => nomatch h
theorem vx_own {args : Array Value} {s : State} {L : List Cond} (h1 : ∀ w ∈ L.filter vx_no, w.before args s = true)
    (hU : (Cond.isRef (.static Bundle.tN "UNASSIGNED_STACK" Bundle.steD)).before args s = true) (hN : (Cond.isRef (.static Bundle.tN "SUPPRESSED_SENTINEL" Bundle.listD)).before args s = true)
    (lU : (Cond.laysStatic Bundle.tN "UNASSIGNED_STACK" Bundle.steD).before args s = true) (lN : (Cond.laysStatic Bundle.tN "SUPPRESSED_SENTINEL" Bundle.listD).before args s = true) : ∀ w ∈ L, w.before args s = true := by
  intro w hw
  by_cases e1 : w = .isRef (.static Bundle.tN "UNASSIGNED_STACK" Bundle.steD)
  · rw [e1]; exact hU
  · by_cases e2 : w = .isRef (.static Bundle.tN "SUPPRESSED_SENTINEL" Bundle.listD)
    · rw [e2]; exact hN
    · by_cases e3 : w = .laysStatic Bundle.tN "UNASSIGNED_STACK" Bundle.steD
      · rw [e3]; exact lU
      · by_cases e4 : w = .laysStatic Bundle.tN "SUPPRESSED_SENTINEL" Bundle.listD
        · rw [e4]; exact lN
        · exact h1 w (List.mem_filter.mpr ⟨hw, by unfold vx_no; rw [decide_eq_true e1, decide_eq_true e2, decide_eq_true e3, decide_eq_true e4]; rfl⟩)
/-- where a static field lies, its class's statics cell in H -/
def vx_L (C n d : String) (A : Nat → Prop) (U : State) (H : Heap) : Prop := ∃ (c : ClassId) (k : Class) (i : Nat) (f : Field) (a : Nat) (cell : Cell), U.vm.findClass C = some c ∧ U.fieldFound? C n d = some (c, k, i, f) ∧ f.isStatic = true ∧ k.statics = some a ∧ H[a]? = some cell ∧ cell.vm.isStatics = true ∧ cell.cls = c ∧ f.slot < cell.slots.size ∧ k.staticTypes[f.slot]? = some f.type ∧ ¬ A a
theorem vx_L.moved {C n d : String} {A : Nat → Prop} {u U : State} {H : Heap} (hvm : u.vm.Alike U.vm) (h : vx_L C n d A u H) : vx_L C n d A U H := by
  obtain ⟨c, k, i, f, a, cell, h1, h2, h3, h4, h5, h6, h7, h8, h9, h10⟩ := h
  obtain ⟨k', hi', he⟩ := State.fieldFound?_setVm hvm h2
  exact ⟨c, k', i, f, a, cell, by rw [hvm.findClass]; exact h1, hi', h3, by rw [he]; exact h4, h5, h6, h7, h8, by rw [he]; exact h9, h10⟩
theorem vx_L.kept {C n d : String} {A : Nat → Prop} {U : State} {H H1 : Heap} (h : vx_L C n d A U H) (hq : ∀ a : Nat, a < H.size → ¬ A a → H1[a]? = H[a]?) : vx_L C n d A U H1 := by
  obtain ⟨c, k, i, f, a, cell, h1, h2, h3, h4, h5, h6, h7, h8, h9, h10⟩ := h
  exact ⟨c, k, i, f, a, cell, h1, h2, h3, h4, by rw [hq a (Array.getElem?_eq_some_iff.mp h5).1 h10]; exact h5, h6, h7, h8, h9, h10⟩
theorem vx_L.narrow {C n d : String} {A B : Nat → Prop} {U : State} {H : Heap} (h : vx_L C n d A U H) (hAB : ∀ q, B q → A q) : vx_L C n d B U H := by
  obtain ⟨c, k, i, f, a, cell, h1, h2, h3, h4, h5, h6, h7, h8, h9, h10⟩ := h
  exact ⟨c, k, i, f, a, cell, h1, h2, h3, h4, h5, h6, h7, h8, h9, fun z => h10 (hAB _ z)⟩
theorem vx_L.word {C n d : String} {A : Nat → Prop} {s : State} {args : Array Value} (h : vx_L C n d A s s.heap) : (Cond.laysStatic C n d).before args s = true := by
  obtain ⟨c, k, i, f, a, cell, h1, h2, h3, h4, h5, h6, h7, h8, h9, -⟩ := h
  show (Cond.laysStatic C n d).holds args s none s [] = true
  exact Cond.laysStatic_of h1 h2 h3 h4 h5 h6 h7 h8 h9
/-- .. and what it holds: null or some reference -/
def vx_Zq (C n d : String) (A : Nat → Prop) (U : State) (H : Heap) : Prop := va_Zq C n d A U H ∧ vx_L C n d A U H
theorem vx_Zq.moved {C n d : String} {A : Nat → Prop} {u U : State} {H : Heap} (hvm : u.vm.Alike U.vm) (h : vx_Zq C n d A u H) : vx_Zq C n d A U H := ⟨va_Zq.moved hvm h.1, vx_L.moved hvm h.2⟩
theorem vx_Zq.kept {C n d : String} {A : Nat → Prop} {U : State} {H H1 : Heap} (h : vx_Zq C n d A U H) (hq : ∀ a : Nat, a < H.size → ¬ A a → H1[a]? = H[a]?) : vx_Zq C n d A U H1 := ⟨va_Zq.kept h.1 hq, vx_L.kept h.2 hq⟩
theorem vx_Zq.narrow {C n d : String} {A B : Nat → Prop} {U : State} {H : Heap} (h : vx_Zq C n d A U H) (hAB : ∀ q, B q → A q) : vx_Zq C n d B U H := ⟨va_Zq.narrow h.1 hAB, vx_L.narrow h.2 hAB⟩
theorem vx_Zqof {args : Array Value} {s : State} {C n d : String} {A : Nat → Prop} (hl : (Cond.laysStatic C n d).before args s = true) (hini : (Cond.initialized C).before args s = true) (h : (Cond.isRef (.static C n d)).before args s = true) (hA : ∀ a : Nat, a < s.heap.size → ¬ A a) : vx_Zq C n d A s s.heap := by
  refine ⟨va_Zqof hl hini h hA, ?_⟩
  obtain ⟨c, k, i, f, a, cell, h1, h2, h3, h4, h5, h6, h7, h8, h9⟩ := Cond.laysStatic_spec hl
  exact ⟨c, k, i, f, a, cell, h1, h2, h3, h4, h5, h6, h7, h8, h9, hA a (Array.getElem?_eq_some_iff.mp h5).1⟩
theorem vx_isRef {C n d : String} {v : Value} {A : Nat → Prop} {s : State} {args : Array Value} (h : va_Z C n d v A s s.heap) (hv : v.isRef = true) : (Cond.isRef (.static C n d)).before args s = true := by
  obtain ⟨cf, kf, fi, f, a, cell, h1, h2, h3, h4, h5, h6, h7, -⟩ := h
  have he : (Term.static C n d).eval args s none [] s = some v := by
    simp [Term.eval, State.fieldNamed?, h1, h2, h4, h5, h6, h7]
  simp only [Cond.before, Cond.holds, Cond.value, he]
  cases v <;> simp_all [Value.isRef]
theorem vx_isRefq {C n d : String} {A : Nat → Prop} {s : State} {args : Array Value} (h : va_Zq C n d A s s.heap) : (Cond.isRef (.static C n d)).before args s = true := by
  rcases h with h | ⟨t, h⟩
  · exact vx_isRef h rfl
  · exact vx_isRef h rfl
/-- the same frame, seen from here: as if the method were called anew in this heap -/
theorem vx_rebase {T : State} (X : Stand p l e R s m args below meth c T locs cells slots) {R' : Room} (hf : R'.frames ≤ R.frames) (hl : R'.locals ≤ R.locals) (hc : cells + R'.cells ≤ R.cells) (hs : slots + R'.slots ≤ R.slots) :
    Stand p l e R' ((T.setVm s.vm).setFrames (.invoking m args :: below)) m args below meth c T [] 0 0 := by
  have htop : (T.setVm s.vm).topJava?.isSome := X.here.top
  have hF : ((T.setVm s.vm).setFrames (.invoking m args :: below)).frames = .invoking m args :: below := State.frames_setFrames _ (State.cur_lt_of_top htop)
  obtain ⟨g₀, hg0⟩ := Option.isSome_iff_exists.mp htop
  obtain ⟨r, hr⟩ := State.topJava?_eq_some.mp hg0
  have hl9 : e.platform.stackLimits (T.setVm s.vm).me = e.platform.stackLimits s.me := X.limits
  have hb9 : (T.setVm s.vm).me.stackBytes = s.me.stackBytes := X.bytes
  refine ⟨X.admits, X.cas, X.clock, hF, ?_, X.hears, X.method, X.code, X.here, X.tail, X.warmed, ?_, ?_, ?_⟩
  · have h := X.room
    have hU : ((T.setVm s.vm).setFrames (.invoking m args :: below)).localsInUse = s.localsInUse := by
      rw [State.localsInUse_invoking hF (meth := meth) (c := c) X.method X.code, State.localsInUse_invoking X.frames X.method X.code]
    simp only [State.hasRoom, Bool.and_eq_true, decide_eq_true_eq] at h ⊢
    obtain ⟨⟨⟨⟨h1, h2, h3, h4, h5, h6⟩, h7⟩, h8⟩, h9⟩ := h
    rw [X.frames, List.length_cons] at h2 h3
    have q1 := X.heapSize
    have q2 := X.used
    simp only [hF, hU, List.length_cons, State.stackLimits_setFrames, State.stackBytes_setFrames, hl9, hb9]
    refine ⟨⟨⟨⟨by omega, by omega, by omega, by omega, by omega, h6⟩, ?_⟩, ?_⟩, X.book⟩
    · show T.heap.size + R'.cells ≤ e.platform.maxCells
      omega
    · show T.slotsUsed + R'.slots ≤ e.platform.maxSlots
      omega
  · rw [State.stackLimits_setFrames]; rfl
  · rw [State.stackBytes_setFrames]; rfl
  · refine ⟨?_, Nat.le_refl _, Nat.le_refl _, ?_, ?_, fun a c9 h9 => ⟨c9, h9, rfl, rfl, fun _ _ => rfl⟩⟩
    · obtain ⟨t, ht, -⟩ := State.frames_cons hr
      show T.setVm s.vm = { ((T.setVm s.vm).setFrames (.invoking m args :: below)).setFrames (T.setVm s.vm).frames with heap := T.heap, slotsUsed := T.slotsUsed }
      rw [State.setFrames_setFrames, State.setFrames_self ht]
      rfl
    · show T.slotsUsed = T.slotsUsed + ((T.heap.toList.drop T.heap.size).map (·.slots.size)).sum
      rw [List.drop_eq_nil_of_le (Nat.le_of_eq Array.length_toList)]
      rfl
    · show ((T.heap.toList.drop T.heap.size).map (·.slots.size)).sum ≤ 0
      rw [List.drop_eq_nil_of_le (Nat.le_of_eq Array.length_toList)]
      exact Nat.le_refl _
/-- 'throw new E()': new; dup; invokespecial; athrow -/
theorem vx_throw0 {cc : ByteArray} {pc : Nat} (hexec : p.tables.exec = Jvm.exec) (hb : c.code = cc) (hl : l.stackTraces = false) {own cls : String} {names : List String} {ik ic mc ms : Nat} {A : Nat → Prop}
    (hown : s.vm.findClass own = some m.cls) (hcls : Bundle.fit cls = true) (hnames : ∀ n ∈ names, Bundle.fit n = true)
    (hk : (Cond.classLink own ik cls).before args s = true) (hini : (Cond.initialized cls).before args s = true) (hat : ∀ w ∈ vx_at0 own ic cls names, w.before args s = true)
    (hgood : ∀ w ∈ Cond.classLink own ik cls :: Cond.initialized cls :: vx_at0 own ic cls names, vx_ot w = true)
    (hU : vx_Zq Bundle.tN "UNASSIGNED_STACK" Bundle.steD A s s.heap) (hN : vx_Zq Bundle.tN "SUPPRESSED_SENTINEL" Bundle.listD A s s.heap) (hS : va_S A s.heap H locs) (hsize : ls.size = c.maxLocals)
    (d0 : decode cc pc = .ok (.new ik, 3)) (d3 : decode cc (pc + 3) = .ok (.dup, 1)) (d4 : decode cc (pc + 4) = .ok (.invokespecial ic, 3)) (d7 : decode cc (pc + 7) = .ok (.athrow, 1))
    (hout : ∀ x ∈ c.exceptionTable.toList, covers x (pc + 7) = false)
    (hRframes : names.length + 3 < R.frames) (hRlocals : (rest.map fun v => v.category).sum + (13 * (names.length + 1) + 42) ≤ R.locals) (hRcells : cells + 1 ≤ R.cells) (hRslots : slots + 6 ≤ R.slots) (hlocks : meth.locks = false)
    (hx : ∀ t : State, s.vm.Alike t.vm → H.size ≤ t.heap.size → (∀ q : Nat, q < H.size → t.heap[q]? = H[q]?) → XC cls s t)
    (hf : ∀ z ∈ locs, free z.base) (hc : cells + 1 ≤ mc) (hs : slots + 6 ≤ ms) :
    W p l e R s m args below meth c H locs cells slots (vx_MQ below Qc XC args s mc ms free) (F0 m pc ls rest) := by
  intro T hT X
  have htr : e.platform.stackTraces = false := (show e.platform.stackTraces = l.stackTraces by rw [X.admits.platform]).trans hl
  have Y := vx_rebase X (R' := { frames := R.frames, locals := R.locals, cells := 1, slots := 6 }) (Nat.le_refl _) (Nat.le_refl _) hRcells hRslots
  obtain ⟨s', hA⟩ : ∃ z, z = (T.setVm s.vm).setFrames (.invoking m args :: below) := ⟨_, rfl⟩
  rw [← hA] at Y
  have hvm : s'.vm = s.vm := by rw [hA]; rfl
  have hhp : s'.heap = H := by rw [hA]; exact hT
  have hW0 : s.WarmedH s'.vm := by rw [hvm]; exact State.WarmedH.refl s
  have hat' : ∀ w ∈ vx_at0 own ic cls names, w.before args s' = true := fun w hw => vx_ot_at hW0 hvm.symm (hgood w (List.mem_cons_of_mem _ (List.mem_cons_of_mem _ hw))) (hat w hw)
  have hk' : (Cond.classLink own ik cls).before args s' = true := vx_ot_at hW0 hvm.symm (hgood _ List.mem_cons_self) hk
  have hini' : (Cond.initialized cls).before args s' = true := vx_ot_at hW0 hvm.symm (hgood _ (List.mem_cons_of_mem _ List.mem_cons_self)) hini
  have hU' : vx_Zq Bundle.tN "UNASSIGNED_STACK" Bundle.steD A s' s'.heap := by rw [hhp]; exact vx_Zq.moved hW0.alike (hU.kept hS.2.1)
  have hN' : vx_Zq Bundle.tN "SUPPRESSED_SENTINEL" Bundle.listD A s' s'.heap := by rw [hhp]; exact vx_Zq.moved hW0.alike (hN.kept hS.2.1)
  have h : ∀ w ∈ Bundle.ownAtoms0 own ic cls names, w.before args s' = true := vx_own hat' (vx_isRefq hU'.1) (vx_isRefq hN'.1) hU'.2.word hN'.2.word
  have hown' : s'.vm.findClass own = some m.cls := by rw [hvm]; exact hown
  have hins : (Cond.instantiable cls 6).before args s' = true := h _ (by simp [Bundle.ownAtoms0])
  obtain ⟨vm₁, cX, kX, hfX, hkX, -, -, X₁, st1⟩ := Y.newCold hexec (own := own) (C := cls) (index := ik) (n := 6) hown' hk' hins hini'
    (g := F0 m pc ls rest) rfl (by rw [hb]; exact d0) (Nat.le_refl _) (Nat.le_refl _)
  generalize hT1 : (T.setVm vm₁).pushCell { cls := cX, slots := kX.instanceTypes.map defaultValue, vm := .none } = T1 at X₁ st1
  have hcat : (Value.ref T.heap.size).category = 1 := rfl
  have hcellA : T1.heap[T.heap.size]? = some (freshCell cX kX) := by rw [← hT1]; exact State.heap_pushCell_size _ _
  have d3' : decode c.code (pc + 3) = .ok (.dup, 1) := by rw [hb]; exact d3
  obtain ⟨U, hsteps, hrun, hend, hW, hsame, ce, hce, hO⟩ := X₁.ctorThrow0 hexec htr (own := own) (cls := cls) (names := names) (ic := ic) hown' hcls hnames h (fun x hx => nomatch hx) hfX hkX hcellA (by rw [hhp, hT]; exact Nat.le_refl _)
    (g := { method := m, pc := pc + 4, locals := ls, stack := .ref T.heap.size :: .ref T.heap.size :: rest, locked := none }) rfl hsize rfl rfl (rest := rest) rfl
    (by rw [hb]; exact d4) (by rw [hb]; exact d7) hout hRframes (by simp only [List.map_cons, List.sum_cons, hcat]; omega) hlocks
  obtain ⟨f1, f2⟩ := vx_frame hsame
  rw [hhp] at f1 f2
  have hWs : s.WarmedH U.vm := State.WarmedH.trans hW0 hW
  have hcl : s.vm.findClass cls = some ce.cls := by
    have h9 := hO.cls
    rw [hvm] at h9
    exact h9
  have hall : s.sameButNew ({ U with vm := s.vm } : State) locs mc ms := by
    subst hA
    obtain ⟨e1, e2⟩ := hsame
    rw [State.setFrames_setFrames] at e1
    have h2 : (T.setVm s.vm).sameButNew ({ U with vm := s.vm } : State) [] (0 + 1) (0 + 6) := ⟨e1, e2⟩
    have h3 := X.same.trans h2
    rw [List.append_nil] at h3
    exact h3.mono hc hs
  refine ⟨U, ?_, .threw T.heap.size, hrun, hend, Or.inr ⟨T.heap.size, rfl, cls, ce, locs, hx U hWs.alike f1 (fun q hq => f2 q hq (fun z hz => nomatch hz)), hce, hO.vm, hcl, hWs, hall, hf⟩⟩
  refine st1 _ ?_
  show Steps p.tables e below (T1.setTop { method := m, pc := pc + 3, locals := ls, stack := .ref T.heap.size :: rest, locked := none }) _
  jvm_step X₁.here [X₁.here.top, hexec, d3', Value.category]
  exact hsteps
/-- 'throw new E("text")': new; dup; ldc; invokespecial; athrow -/
theorem vx_throwS {cc : ByteArray} {pc : Nat} (hexec : p.tables.exec = Jvm.exec) (hb : c.code = cc) (hl : l.stackTraces = false) {own cls text : String} {names : List String} {ik is ic mc ms sa : Nat} {A : Nat → Prop}
    (hown : s.vm.findClass own = some m.cls) (hcls : Bundle.fit cls = true) (hnames : ∀ n ∈ names, Bundle.fit n = true)
    (hk : (Cond.classLink own ik cls).before args s = true) (hini : (Cond.initialized cls).before args s = true) (hstr : vk_R own is text sa s) (hat : ∀ w ∈ vx_atS own ic cls names, w.before args s = true)
    (hgood : ∀ w ∈ Cond.classLink own ik cls :: Cond.initialized cls :: vx_atS own ic cls names, vx_ot w = true)
    (hU : vx_Zq Bundle.tN "UNASSIGNED_STACK" Bundle.steD A s s.heap) (hN : vx_Zq Bundle.tN "SUPPRESSED_SENTINEL" Bundle.listD A s s.heap) (hS : va_S A s.heap H locs) (hsize : ls.size = c.maxLocals)
    (d0 : decode cc pc = .ok (.new ik, 3)) (d3 : decode cc (pc + 3) = .ok (.dup, 1)) (d4 : decode cc (pc + 4) = .ok (.ldc is, 2)) (d6 : decode cc (pc + 6) = .ok (.invokespecial ic, 3)) (d9 : decode cc (pc + 9) = .ok (.athrow, 1))
    (hout : ∀ x ∈ c.exceptionTable.toList, covers x (pc + 9) = false)
    (hRframes : names.length + 3 < R.frames) (hRlocals : (rest.map fun v => v.category).sum + (13 * (names.length + 1) + 43) ≤ R.locals) (hRcells : cells + 1 ≤ R.cells) (hRslots : slots + 6 ≤ R.slots) (hlocks : meth.locks = false)
    (hx : ∀ t : State, s.vm.Alike t.vm → H.size ≤ t.heap.size → (∀ q : Nat, q < H.size → t.heap[q]? = H[q]?) → XC cls s t)
    (hf : ∀ z ∈ locs, free z.base) (hc : cells + 1 ≤ mc) (hs : slots + 6 ≤ ms) :
    W p l e R s m args below meth c H locs cells slots (vx_MQ below Qc XC args s mc ms free) (F0 m pc ls rest) := by
  intro T hT X
  have htr : e.platform.stackTraces = false := (show e.platform.stackTraces = l.stackTraces by rw [X.admits.platform]).trans hl
  have Y := vx_rebase X (R' := { frames := R.frames, locals := R.locals, cells := 1, slots := 6 }) (Nat.le_refl _) (Nat.le_refl _) hRcells hRslots
  obtain ⟨s', hA⟩ : ∃ z, z = (T.setVm s.vm).setFrames (.invoking m args :: below) := ⟨_, rfl⟩
  rw [← hA] at Y
  have hvm : s'.vm = s.vm := by rw [hA]; rfl
  have hhp : s'.heap = H := by rw [hA]; exact hT
  have hW0 : s.WarmedH s'.vm := by rw [hvm]; exact State.WarmedH.refl s
  have hat' : ∀ w ∈ vx_atS own ic cls names, w.before args s' = true := fun w hw => vx_ot_at hW0 hvm.symm (hgood w (List.mem_cons_of_mem _ (List.mem_cons_of_mem _ hw))) (hat w hw)
  have hk' : (Cond.classLink own ik cls).before args s' = true := vx_ot_at hW0 hvm.symm (hgood _ List.mem_cons_self) hk
  have hini' : (Cond.initialized cls).before args s' = true := vx_ot_at hW0 hvm.symm (hgood _ (List.mem_cons_of_mem _ List.mem_cons_self)) hini
  have hU' : vx_Zq Bundle.tN "UNASSIGNED_STACK" Bundle.steD A s' s'.heap := by rw [hhp]; exact vx_Zq.moved hW0.alike (hU.kept hS.2.1)
  have hN' : vx_Zq Bundle.tN "SUPPRESSED_SENTINEL" Bundle.listD A s' s'.heap := by rw [hhp]; exact vx_Zq.moved hW0.alike (hN.kept hS.2.1)
  have h : ∀ w ∈ Bundle.ownAtoms own ic cls names, w.before args s' = true := vx_own hat' (vx_isRefq hU'.1) (vx_isRefq hN'.1) hU'.2.word hN'.2.word
  have hown' : s'.vm.findClass own = some m.cls := by rw [hvm]; exact hown
  have hins : (Cond.instantiable cls 6).before args s' = true := h _ (by simp [Bundle.ownAtoms])
  obtain ⟨vm₁, cX, kX, hfX, hkX, -, -, X₁, st1⟩ := Y.newCold hexec (own := own) (C := cls) (index := ik) (n := 6) hown' hk' hins hini'
    (g := F0 m pc ls rest) rfl (by rw [hb]; exact d0) (Nat.le_refl _) (Nat.le_refl _)
  generalize hT1 : (T.setVm vm₁).pushCell { cls := cX, slots := kX.instanceTypes.map defaultValue, vm := .none } = T1 at X₁ st1
  have hcat : (Value.ref T.heap.size).category = 1 := rfl
  have hcellA : T1.heap[T.heap.size]? = some (freshCell cX kX) := by rw [← hT1]; exact State.heap_pushCell_size _ _
  have d3' : decode c.code (pc + 3) = .ok (.dup, 1) := by rw [hb]; exact d3
  have d4' : decode c.code (pc + 4) = .ok (.ldc is, 2) := by rw [hb]; exact d4
  have hstr' : vk_R own is text sa s' := vk_R.warm hW0 hstr
  obtain ⟨U, hsteps, hrun, hend, hW, hsame, ce, hce, hO⟩ := X₁.ctorThrowS hexec htr (own := own) (cls := cls) (names := names) (ic := ic) hown' hcls hnames h (fun x hx => nomatch hx) hfX hkX hcellA (by rw [hhp, hT]; exact Nat.le_refl _) (msg := .ref sa) rfl
    (g := { method := m, pc := pc + 6, locals := ls, stack := .ref sa :: .ref T.heap.size :: .ref T.heap.size :: rest, locked := none }) rfl hsize rfl rfl (rest := rest) rfl
    (by rw [hb]; exact d6) (by rw [hb]; exact d9) hout hRframes (by simp only [List.map_cons, List.sum_cons, hcat]; omega) hlocks
  obtain ⟨f1, f2⟩ := vx_frame hsame
  rw [hhp] at f1 f2
  have hWs : s.WarmedH U.vm := State.WarmedH.trans hW0 hW
  have hcl : s.vm.findClass cls = some ce.cls := by
    have h9 := hO.cls
    rw [hvm] at h9
    exact h9
  have hall : s.sameButNew ({ U with vm := s.vm } : State) locs mc ms := by
    subst hA
    obtain ⟨e1, e2⟩ := hsame
    rw [State.setFrames_setFrames] at e1
    have h2 : (T.setVm s.vm).sameButNew ({ U with vm := s.vm } : State) [] (0 + 1) (0 + 6) := ⟨e1, e2⟩
    have h3 := X.same.trans h2
    rw [List.append_nil] at h3
    exact h3.mono hc hs
  refine ⟨U, ?_, .threw T.heap.size, hrun, hend, Or.inr ⟨T.heap.size, rfl, cls, ce, locs, hx U hWs.alike f1 (fun q hq => f2 q hq (fun z hz => nomatch hz)), hce, hO.vm, hcl, hWs, hall, hf⟩⟩
  refine st1 _ ?_
  show Steps p.tables e below (T1.setTop { method := m, pc := pc + 3, locals := ls, stack := .ref T.heap.size :: rest, locked := none }) _
  jvm_step X₁.here [X₁.here.top, hexec, d3', Value.category]
  exact X₁.ldcString hexec (own := own) (text := text) (index := is) (a := sa) hown' hstr'.1 hstr'.2
    (g := { method := m, pc := pc + 4, locals := ls, stack := .ref T.heap.size :: .ref T.heap.size :: rest, locked := none }) rfl d4' _ hsteps
/-- 'throw new E("text")', the text by a wide index -/
theorem vx_throwSW {cc : ByteArray} {pc : Nat} (hexec : p.tables.exec = Jvm.exec) (hb : c.code = cc) (hl : l.stackTraces = false) {own cls text : String} {names : List String} {ik is ic mc ms sa : Nat} {A : Nat → Prop}
    (hown : s.vm.findClass own = some m.cls) (hcls : Bundle.fit cls = true) (hnames : ∀ n ∈ names, Bundle.fit n = true)
    (hk : (Cond.classLink own ik cls).before args s = true) (hini : (Cond.initialized cls).before args s = true) (hstr : vk_R own is text sa s) (hat : ∀ w ∈ vx_atS own ic cls names, w.before args s = true)
    (hgood : ∀ w ∈ Cond.classLink own ik cls :: Cond.initialized cls :: vx_atS own ic cls names, vx_ot w = true)
    (hU : vx_Zq Bundle.tN "UNASSIGNED_STACK" Bundle.steD A s s.heap) (hN : vx_Zq Bundle.tN "SUPPRESSED_SENTINEL" Bundle.listD A s s.heap) (hS : va_S A s.heap H locs) (hsize : ls.size = c.maxLocals)
    (d0 : decode cc pc = .ok (.new ik, 3)) (d3 : decode cc (pc + 3) = .ok (.dup, 1)) (d4 : decode cc (pc + 4) = .ok (.ldc_w is, 3)) (d7 : decode cc (pc + 7) = .ok (.invokespecial ic, 3)) (d10 : decode cc (pc + 10) = .ok (.athrow, 1))
    (hout : ∀ x ∈ c.exceptionTable.toList, covers x (pc + 10) = false)
    (hRframes : names.length + 3 < R.frames) (hRlocals : (rest.map fun v => v.category).sum + (13 * (names.length + 1) + 43) ≤ R.locals) (hRcells : cells + 1 ≤ R.cells) (hRslots : slots + 6 ≤ R.slots) (hlocks : meth.locks = false)
    (hx : ∀ t : State, s.vm.Alike t.vm → H.size ≤ t.heap.size → (∀ q : Nat, q < H.size → t.heap[q]? = H[q]?) → XC cls s t)
    (hf : ∀ z ∈ locs, free z.base) (hc : cells + 1 ≤ mc) (hs : slots + 6 ≤ ms) :
    W p l e R s m args below meth c H locs cells slots (vx_MQ below Qc XC args s mc ms free) (F0 m pc ls rest) := by
  intro T hT X
  have htr : e.platform.stackTraces = false := (show e.platform.stackTraces = l.stackTraces by rw [X.admits.platform]).trans hl
  have Y := vx_rebase X (R' := { frames := R.frames, locals := R.locals, cells := 1, slots := 6 }) (Nat.le_refl _) (Nat.le_refl _) hRcells hRslots
  obtain ⟨s', hA⟩ : ∃ z, z = (T.setVm s.vm).setFrames (.invoking m args :: below) := ⟨_, rfl⟩
  rw [← hA] at Y
  have hvm : s'.vm = s.vm := by rw [hA]; rfl
  have hhp : s'.heap = H := by rw [hA]; exact hT
  have hW0 : s.WarmedH s'.vm := by rw [hvm]; exact State.WarmedH.refl s
  have hat' : ∀ w ∈ vx_atS own ic cls names, w.before args s' = true := fun w hw => vx_ot_at hW0 hvm.symm (hgood w (List.mem_cons_of_mem _ (List.mem_cons_of_mem _ hw))) (hat w hw)
  have hk' : (Cond.classLink own ik cls).before args s' = true := vx_ot_at hW0 hvm.symm (hgood _ List.mem_cons_self) hk
  have hini' : (Cond.initialized cls).before args s' = true := vx_ot_at hW0 hvm.symm (hgood _ (List.mem_cons_of_mem _ List.mem_cons_self)) hini
  have hU' : vx_Zq Bundle.tN "UNASSIGNED_STACK" Bundle.steD A s' s'.heap := by rw [hhp]; exact vx_Zq.moved hW0.alike (hU.kept hS.2.1)
  have hN' : vx_Zq Bundle.tN "SUPPRESSED_SENTINEL" Bundle.listD A s' s'.heap := by rw [hhp]; exact vx_Zq.moved hW0.alike (hN.kept hS.2.1)
  have h : ∀ w ∈ Bundle.ownAtoms own ic cls names, w.before args s' = true := vx_own hat' (vx_isRefq hU'.1) (vx_isRefq hN'.1) hU'.2.word hN'.2.word
  have hown' : s'.vm.findClass own = some m.cls := by rw [hvm]; exact hown
  have hins : (Cond.instantiable cls 6).before args s' = true := h _ (by simp [Bundle.ownAtoms])
  obtain ⟨vm₁, cX, kX, hfX, hkX, -, -, X₁, st1⟩ := Y.newCold hexec (own := own) (C := cls) (index := ik) (n := 6) hown' hk' hins hini'
    (g := F0 m pc ls rest) rfl (by rw [hb]; exact d0) (Nat.le_refl _) (Nat.le_refl _)
  generalize hT1 : (T.setVm vm₁).pushCell { cls := cX, slots := kX.instanceTypes.map defaultValue, vm := .none } = T1 at X₁ st1
  have hcat : (Value.ref T.heap.size).category = 1 := rfl
  have hcellA : T1.heap[T.heap.size]? = some (freshCell cX kX) := by rw [← hT1]; exact State.heap_pushCell_size _ _
  have d3' : decode c.code (pc + 3) = .ok (.dup, 1) := by rw [hb]; exact d3
  have d4' : decode c.code (pc + 4) = .ok (.ldc_w is, 3) := by rw [hb]; exact d4
  have hstr' : vk_R own is text sa s' := vk_R.warm hW0 hstr
  obtain ⟨U, hsteps, hrun, hend, hW, hsame, ce, hce, hO⟩ := X₁.ctorThrowS hexec htr (own := own) (cls := cls) (names := names) (ic := ic) hown' hcls hnames h (fun x hx => nomatch hx) hfX hkX hcellA (by rw [hhp, hT]; exact Nat.le_refl _) (msg := .ref sa) rfl
    (g := { method := m, pc := pc + 7, locals := ls, stack := .ref sa :: .ref T.heap.size :: .ref T.heap.size :: rest, locked := none }) rfl hsize rfl rfl (rest := rest) rfl
    (by rw [hb]; exact d7) (by rw [hb]; exact d10) hout hRframes (by simp only [List.map_cons, List.sum_cons, hcat]; omega) hlocks
  obtain ⟨f1, f2⟩ := vx_frame hsame
  rw [hhp] at f1 f2
  have hWs : s.WarmedH U.vm := State.WarmedH.trans hW0 hW
  have hcl : s.vm.findClass cls = some ce.cls := by
    have h9 := hO.cls
    rw [hvm] at h9
    exact h9
  have hall : s.sameButNew ({ U with vm := s.vm } : State) locs mc ms := by
    subst hA
    obtain ⟨e1, e2⟩ := hsame
    rw [State.setFrames_setFrames] at e1
    have h2 : (T.setVm s.vm).sameButNew ({ U with vm := s.vm } : State) [] (0 + 1) (0 + 6) := ⟨e1, e2⟩
    have h3 := X.same.trans h2
    rw [List.append_nil] at h3
    exact h3.mono hc hs
  refine ⟨U, ?_, .threw T.heap.size, hrun, hend, Or.inr ⟨T.heap.size, rfl, cls, ce, locs, hx U hWs.alike f1 (fun q hq => f2 q hq (fun z hz => nomatch hz)), hce, hO.vm, hcl, hWs, hall, hf⟩⟩
  refine st1 _ ?_
  show Steps p.tables e below (T1.setTop { method := m, pc := pc + 3, locals := ls, stack := .ref T.heap.size :: rest, locked := none }) _
  jvm_step X₁.here [X₁.here.top, hexec, d3', Value.category]
  exact X₁.ldcStringW hexec (own := own) (text := text) (index := is) (a := sa) hown' hstr'.1 hstr'.2
    (g := { method := m, pc := pc + 4, locals := ls, stack := .ref T.heap.size :: .ref T.heap.size :: rest, locked := none }) rfl d4' _ hsteps
end Ends
section Bodies
variable {l : Launch}
theorem vx_ofW {y : MethodName} {ws ws' : List Cond} {rm : Room} {Pc : Array Value → State → Prop} {Qc : Array Value → State → Outcome → State → Prop} {XC : String → State → State → Prop} {mc ms : Nat} {free : Addr → Prop} {cc : ByteArray} {maxL : Nat} {ret : Option FieldType}
    (hy : plainName y.cls = true) (hw : ws = Cond.code y cc maxL ret :: ws')
    (body : ∀ p e s m args below meth c s₁, BodyLoose p l y (headSpec ws rm) cc maxL ret e s m args below meth c s₁ → c.maxLocals = maxL → (∀ x ∈ c.exceptionTable.toList, False) → Pc args s →
      W p l e (headSpec ws rm).room s m args below meth c s.heap [] 0 0 (vx_MQ below Qc XC args s mc ms free) (entryFrame m args maxL)) : vx_Met l y ws rm Pc Qc XC mc ms free := by
  refine MetFree.of_bodyS (code := cc) (maxLocals := maxL) (ret := ret) hy ?_ ?_
  · intro args s m h hn
    obtain ⟨meth, c, h1, h2, h3, h4, h5, h6, -, -⟩ := Cond.code_spec hn (atoms_spec (ws := ws) h _ (by rw [hw]; exact List.mem_cons_self))
    exact ⟨meth, c, h1, h2, h3, h4, h5, h6⟩
  · intro p e s m args below meth c s₁ B hml hP _
    have hh0 : s₁.heap = s.heap := by rw [B.state]; rfl
    have ht : ∀ x ∈ c.exceptionTable.toList, False := by
      obtain ⟨meth9, c9, h1, h2, -, -, -, -, h7, -⟩ := Cond.code_spec B.named (atoms_spec (ws := ws) B.pre _ (by rw [hw]; exact List.mem_cons_self))
      cases Option.some.inj (h1.symm.trans B.method)
      cases Option.some.inj (h2.symm.trans (Stand.of_body B).code)
      intro x hx
      rw [Array.isEmpty_iff.mp h7] at hx
      cases hx
    obtain ⟨t, a1, o, b1, b2, b3⟩ := body p e s m args below meth c s₁ B hml ht hP s₁ hh0 (Stand.of_body B)
    exact ⟨t, o, a1, b1, b2, b3⟩
/-- the table of a body with handlers -/
theorem vx_table {p : Program} {x y : MethodName} {S : Spec} {cc bytes : ByteArray} {maxL maxL' : Nat} {ret ret' : Option FieldType} {e : Env} {s s₁ : State} {m : MethodId} {args : Array Value} {below : List Frame} {meth : Method} {c : Code} {hh : List (Nat × Nat × Nat × Nat)}
    (B : BodyLoose p l y S cc maxL ret e s m args below meth c s₁) (h : (Cond.codeWith y bytes maxL' ret' hh).before args s = true) : c.exceptionTable.toList = tableOf hh := by
  obtain ⟨m9, meth9, c9, hn9, h1, h2, -, -, h6, -⟩ := Cond.codeWith_spec h
  cases Option.some.inj (hn9.symm.trans B.named)
  cases Option.some.inj (h1.symm.trans B.method)
  cases Option.some.inj (h2.symm.trans (Stand.of_body B).code)
  rw [← h6, table_eq]
end Bodies
end VXA
/-! ===== END ===== -/
/-! ===== BEGIN a static call of a method with an exception table ===== -/
section VXS
variable {p : Program} {l : Launch} {e : Env} {R : Room} {s : State} {m : MethodId} {args : Array Value} {below : List Frame} {meth : Method} {c : Code} {T : State} {H : Heap} {locs : List Loc} {cells slots : Nat}
abbrev vx_CSW (R : Room) (s : State) (args : Array Value) (own : String) (index : Nat) (y : MethodName) (bytes : ByteArray) (maxL : Nat) (ret : Option FieldType) (hh : List (Nat × Nat × Nat × Nat)) (ws : List Cond) (rm : Room) (mc ms n : Nat) : Prop :=
  (rm.cells = mc ∧ rm.slots = ms ∧ rm.frames + 1 ≤ R.frames ∧ 8 + (maxL + 11) + rm.locals ≤ R.locals ∧ (∀ w ∈ ws, ∀ (a' : Array Value) (U : State), s.WarmedH U.vm → w.before a' U = true) ∧ Cond.codeWith y bytes maxL ret hh ∈ ws) ∧
  (Cond.codeWith y bytes maxL ret hh).before args s = true ∧ (Cond.initialized y.cls).before args s = true ∧ (y.cls ≠ "java/lang/invoke/MethodHandle" ∧ y.cls ≠ "java/lang/invoke/VarHandle") ∧
  (∀ sig, parseMethodDescriptor y.desc = some sig → n = sig.parameters.length) ∧ (Cond.methodLink own index y).before args s = true ∧ (Cond.static y).before args s = true
theorem vx_cwSW {own : String} {index maxL mc ms : Nat} {y : MethodName} {bytes : ByteArray} {ret : Option FieldType} {hh : List (Nat × Nat × Nat × Nat)} {Ts ws ws' : List Cond} {rm : Room} (n : Nat) (ht : ∀ w ∈ Ts, w.before args s = true) (hT : GoodIn Ts (va_wsS own index y ws)) (hw : ws = Cond.codeWith y bytes maxL ret hh :: ws') (hrc : rm.cells = mc) (hrs : rm.slots = ms)
    (hd : y.cls ≠ "java/lang/invoke/MethodHandle" ∧ y.cls ≠ "java/lang/invoke/VarHandle" ∧ (parseMethodDescriptor y.desc).map (fun d => d.parameters.length) = some n) (hR : rm.frames + 1 ≤ R.frames ∧ 8 + (maxL + 11) + rm.locals ≤ R.locals) :
    vx_CSW R s args own index y bytes maxL ret hh ws rm mc ms n := by
  have ok : ∀ w ∈ va_wsS own index y ws, w.before args s = true := fun w h => ht w (hT w h).1
  have hG : GoodIn Ts ws := fun w h => hT w (by unfold va_wsS; exact List.mem_append_right _ h)
  have hc : Cond.codeWith y bytes maxL ret hh ∈ ws := by rw [hw]; exact List.mem_cons_self
  refine ⟨⟨hrc, hrs, hR.1, hR.2, pay_in ht hG, hc⟩, ht _ (hG _ hc).1, ok _ (by simp [va_wsS]), ⟨hd.1, hd.2.1⟩, fun sig h => ?_, ok _ (by simp [va_wsS]), ok _ (by simp [va_wsS])⟩
  have h2 := hd.2.2
  rw [h] at h2
  exact (Option.some.inj h2).symm
theorem vx_callSW (X : Stand p l e R s m args below meth c T locs cells slots) (hexec : p.tables.exec = Jvm.exec) {own : String} {index : Nat} {y : MethodName} {bytes : ByteArray} {maxL : Nat} {ret : Option FieldType} {hh : List (Nat × Nat × Nat × Nat)}
    (hown : s.vm.findClass own = some m.cls) (hlink : (Cond.methodLink own index y).before args s = true) (hstat : (Cond.static y).before args s = true) (hinit : (Cond.initialized y.cls).before args s = true)
    (hcode : (Cond.codeWith y bytes maxL ret hh).before args s = true) (hy : y.cls ≠ "java/lang/invoke/MethodHandle" ∧ y.cls ≠ "java/lang/invoke/VarHandle")
    {W9 : Nat} {Pre : Pt → Array Value → Prop} {Post : Pt → Array Value → Option Value → Pt → Prop} (hK : Back l R p e below s args y 3 W9 Pre Post)
    {g : JFrame} (hg : g.method = m) (hsize : g.locals.size = c.maxLocals) {argsL rest : List Value} (hlen : ∀ sig, parseMethodDescriptor y.desc = some sig → argsL.length = sig.parameters.length)
    (hstack : g.stack = argsL.reverse ++ rest) (hW : 2 * g.monitorRoom + (rest.map fun v => v.category).sum ≤ W9) (hdg : decode c.code g.pc = .ok (.invokestatic index, 3))
    (hpre : ∀ vm₁, s.WarmedH vm₁ → Pre ⟨T.setVm vm₁, locs, cells, slots⟩ argsL.toArray) :
    ∃ (v : Option Value) (vm₁ : Vm) (B : Pt), s.WarmedH vm₁ ∧ Stand p l e R s m args below meth c B.U B.locs B.cells B.slots ∧ Post ⟨T.setVm vm₁, locs, cells, slots⟩ argsL.toArray v B ∧
      ∀ target, Steps p.tables e below (B.U.setTop { g with pc := g.pc + 3, stack := v.toList ++ rest }) target → Steps p.tables e below (T.setTop g) target := by
  obtain ⟨mk, methM, cM, hnamed, hmethM, -, -, -, -, -, -, hsigM⟩ := Cond.codeWith_spec hcode
  have hstatic : methM.isStatic = true := Cond.static_spec hnamed hmethM hstat
  obtain ⟨kP, hkP, -⟩ := className_of_methodNamed hnamed
  have hinitP : kP.init = .initialized := Cond.initialized_spec (findClass_of_methodNamed hnamed) hkP hinit
  obtain ⟨vm₁, X₁, hstep₁⟩ := X.invokestatic hexec hown hlink hnamed hmethM hstatic hkP hinitP hy (g := g) hg (argsL := argsL) (rest := rest) (hlen _ hsigM) hstack hdg
  obtain ⟨v, B, X', hpost, hsteps⟩ := hK m meth c ⟨T.setVm vm₁, locs, cells, slots⟩ { g with stack := rest } (.invokestatic index) mk argsL.toArray X₁ hg hsize hdg hW (X₁.named hnamed) (hpre vm₁ X₁.warmed)
  exact ⟨v, vm₁, B, X₁.warmed, X', hpost, fun target h => hstep₁ _ fun acts => by rw [doInvoke_state]; exact hsteps.trans h⟩
theorem vx_runSW {y : MethodName} {bytes cc : ByteArray} {maxL nL mc ms n index : Nat} {ret : Option FieldType} {hh : List (Nat × Nat × Nat × Nat)} {ws : List Cond} {rm : Room} {Pc : Array Value → State → Prop} {Qc : Array Value → State → Outcome → State → Prop} {free : Addr → Prop} {Ts : List Cond} {own : String} {As rest : List Value} {g : JFrame}
    (S : CallFix p m c cc nL s args Ts own) (hM : Met l y ws rm Pc Qc mc ms free) (cw : vx_CSW R s args own index y bytes maxL ret hh ws rm mc ms n) (hp : PreS s H Pc As)
    (hg : g.method = m) (hn : As.length = n) (hsize : g.locals.size = nL) (hstack : g.stack = As.reverse ++ rest) (hW : 2 * g.monitorRoom + (rest.map fun v => v.category).sum ≤ 8) (hdg : decode cc g.pc = .ok (.invokestatic index, 3)) (hf : cells + mc ≤ R.cells ∧ slots + ms ≤ R.slots) :
    va_Run p l e R s m args below meth c H locs cells slots mc ms g rest (Qc As.toArray) (free) := by
  obtain ⟨⟨hrc, hrs, hfr, hlo, hws, hcw⟩, hcode, hini, hy, hlen, hl, hstt⟩ := cw
  have hK : Back l R p e below s args y 3 8 (PreOf R mc ms Pc) (PostOf Qc mc ms free) := va_backW (hh := hh) (bytes := bytes) (maxL := maxL) (ret := ret) hM hp.1 hrc hrs hfr hlo hws hcw (fun a' U hW => word_at hW (Or.inl (by first | rfl | simp [Cond.onTables, Cond.keeps, Cond.steady])) hini)
  obtain ⟨hx, hb, hml, ho, -⟩ := S
  intro T hT X
  obtain ⟨v, vm₁, ⟨U', l2, c2, s2⟩, hW₁, X', ⟨g', mk, t, L, e1, e2, hq, h1, hL, h2, h3⟩, st⟩ := vx_callSW X hx (hh := hh) (bytes := bytes) (maxL := maxL) (ret := ret) ho hl hstt hini hcode hy hK hg (hsize.trans hml.symm) (argsL := As) (rest := rest) (fun sig h => hn.trans (hlen sig h)) hstack hW (by rw [hb]; exact hdg)
    (fun vm₁ hW₁ => ⟨hf.1, hf.2, hp.2 (T.setVm vm₁) hT hW₁⟩)
  dsimp only [Pt.U, Pt.locs, Pt.cells, Pt.slots] at X' e1 e2 h1 h2 h3 st
  subst h1; subst h2; subst h3
  exact ⟨v, (T.setVm vm₁).calling g' mk As.toArray, t, U', L, hT, X', hL, e1, e2, hq, st⟩
/-- not caught here, past rows that name other classes: it goes on to the caller -/
theorem vx_outP {p : Program} {l : Launch} {e : Env} {R : Room} {s : State} {m : MethodId} {args : Array Value} {below : List Frame} {meth : Method} {c : Code} {H : Heap} {locs : List Loc} {cells slots : Nat} {free : Addr → Prop} {ls : Array Slot} {rest : List Value} {Qc : Array Value → State → Outcome → State → Prop} {XC : String → State → State → Prop}
    {pc : Nat} {own E : String} {ce : Cell} {q : Addr} {mc ms : Nat} (hown : s.vm.findClass own = some m.cls) (hlocks : meth.locks = false)
    (hpass : ∀ z ∈ c.exceptionTable.toList, covers z pc = false ∨ (z.catchType ≠ 0 ∧ ∃ nm : String, (Cond.classLink own z.catchType nm).before args s = true ∧ va_Nc E nm s)) (hcell : H[q]? = some ce) (hv : ce.vm = .none) (hcl : s.vm.findClass E = some ce.cls)
    (hx : ∀ t : State, t.heap = H → s.vm.Alike t.vm → XC E s t) (hf : ∀ z ∈ locs, free z.base) (hc : cells ≤ mc) (hs : slots ≤ ms) :
    vx_W p l e R s m args below meth c H locs cells slots (vx_MQ below Qc XC args s mc ms free) (F0 m pc ls rest) q := by
  intro T hT X
  have hpl : e.platform.magicAccessors = ({} : Platform).magicAccessors := by rw [X.admits.platform]
  obtain ⟨vm', hW', X', st⟩ := X.outThrough hlocks q (g := F0 m pc ls rest) rfl rfl rfl (cell := ce) (by rw [hT]; exact hcell) (by rw [hv]; rfl)
    (by obtain ⟨k9, h9, -⟩ := Vm.findClass_spec hcl; exact ⟨k9, h9⟩) (fun z hz => by
      rcases hpass z hz with h | ⟨hz0, nm, hl1, hn1⟩
      · exact Or.inl h
      · obtain ⟨c6, hc6, hcl6⟩ := Cond.classLink_spec hown hl1 e.platform hpl
        obtain ⟨a8, b8, h1, h2, h3⟩ := hn1
        cases Option.some.inj (h1.symm.trans hcl)
        cases Option.some.inj (h2.symm.trans hc6)
        exact Or.inr ⟨hz0, _, hcl6, h3⟩)
  obtain ⟨g₀, hfr⟩ := X'.frames_eq
  have hcell9 : ((T.setVm vm').setFrames (.throwing q :: below)).heap[q]? = some ce := by
    show T.heap[q]? = some ce
    rw [hT]; exact hcell
  have hend : Ended ((T.setVm vm').setFrames (.throwing q :: below)) below (.threw q) := State.frames_setFrames _ (State.cur_lt_of_frames hfr)
  refine ⟨(T.setVm vm').setFrames (.throwing q :: below), ?_, .threw q, X'.here.running, hend, Or.inr ⟨q, rfl, E, ce, locs, hx _ hT (X'.ends _).1.alike, hcell9, hv, hcl, (X'.ends _).1, (X'.ends _).2.mono hc hs, hf⟩⟩
  rw [X.pushThrowing_eq]
  exact st
/-- a thing of a world lies in the heap -/
theorem vx_lt {D : va_G} {cl : List vw_C} {ws : va_W} {H1 : Heap} (h : va_P D cl ws H1) {k : Nat} {q : Nat × va_E} (hk : ws[k]? = some q) : q.1 < H1.size := (h k q hk).lt
end VXS
/-! ===== END ===== -/
/-! ===== BEGIN methods with a table of their own: called by a name, returning or throwing ===== -/
section VXH
/-! vx_backW, vx_callVX, vx_callSX, vx_callVW, vx_runVW, vx_runVX, vx_runSX, vx_ofWH follow the same proofs as their sisters above (Free/Laws.lean, Shelf42/LK1.lean); vx_outP calls Shelf42/NT130.lean (outThrough). -/
section
variable {l : Launch} {R : Room} {p : Program} {e : Env} {below : List Frame} {s : State} {sargs : Array Value} {y : MethodName} {len W9 : Nat}
theorem vx_backW {ws : List Cond} {rm : Room} {Pc : Array Value → State → Prop} {Qc : Array Value → State → Outcome → State → Prop} {XC : String → State → State → Prop} {mc ms : Nat} {free : Addr → Prop} {bytes : ByteArray} {maxL : Nat} {ret : Option FieldType} {hh : List (Nat × Nat × Nat × Nat)}
    (hM : vx_Met l y ws rm Pc Qc XC mc ms free) (hblind : FrameBlind Pc) (hrc : rm.cells = mc) (hrs : rm.slots = ms)
    (hframes : rm.frames + 1 ≤ R.frames) (hlocals : W9 + (maxL + 11) + rm.locals ≤ R.locals)
    (hws : ∀ w ∈ ws, ∀ a' U, s.WarmedH U.vm → w.before a' U = true) (hcode : Cond.codeWith y bytes maxL ret hh ∈ ws) (hinit : ∀ a' U, s.WarmedH U.vm → (Cond.initialized y.cls).before a' U = true) :
    vx_Back l R p e below s sargs y len W9 (PreOf R mc ms Pc) (PostOf Qc mc ms free) (vx_Post XC mc ms free) := by
  intro m meth c A g ig mk a X hg hsize hdg hW hn hp
  have h1 : (headSpec ws rm).pre.before a A.U = true := atoms_intro fun w hw => hws w hw _ _ X.warmed
  have h2 : (Cond.codeWith y bytes maxL ret hh).before a A.U = true := hws _ hcode _ _ X.warmed
  have h3 : (Cond.initialized y.cls).before a A.U = true := hinit _ _ X.warmed
  have h4 : A.cells + (headSpec ws rm).room.cells ≤ R.cells := by rw [show (headSpec ws rm).room.cells = mc from hrc]; exact hp.1
  have h5 : A.slots + (headSpec ws rm).room.slots ≤ R.slots := by rw [show (headSpec ws rm).room.slots = ms from hrs]; exact hp.2.1
  have hPc : Pc a (A.U.calling g mk a) := hblind _ _ _ _ hp.2.2
  obtain ⟨U, Ls, c0, s0⟩ := A
  dsimp only [Pt.U, Pt.locs, Pt.cells, Pt.slots] at h1 h2 h3 h4 h5 X hn hPc ⊢
  obtain ⟨m9, methY, cY, hn9, hmY, hcY, -, hlY, -⟩ := Cond.codeWith_spec h2
  cases Option.some.inj (hn9.symm.trans hn)
  obtain ⟨kY, hkY, -⟩ := className_of_methodNamed hn
  have hinitY : kY.init = .initialized := Cond.initialized_spec (findClass_of_methodNamed hn) hkY h3
  have h : At U g.method c below := by rw [hg]; exact X.here
  have hlocals9 : W9 + (maxL + 11) + (headSpec ws rm).room.locals ≤ R.locals := hlocals
  have happ : (headSpec ws rm).appliesLoose y e.platform (U.calling g mk a) = true :=
    Spec.appliesLoose_calling (g := g) h hdg hn hkY hinitY
      (X.room_calling (g := g) (R' := (headSpec ws rm).room) hsize hmY hcY hframes (by rw [hlY]; omega) h4 h5) h1
  obtain ⟨mid, hmid⟩ := h.above
  have hfr : (U.setTop g).frames = (.java g :: mid) ++ below := by rw [State.frames_setTop' g h.top, hmid]; rfl
  obtain ⟨o, s₂, hsteps, -, hend, hq⟩ := Steps.callFree hM p X.admits X.cas X.clock (acts := []) hfr happ hPc trivial
  have hq' : vx_Q Qc XC mc ms free a (U.calling g mk a) o s₂ := hq
  rw [State.frames_setTop' g h.top] at hend
  obtain ⟨g₀, hg0⟩ := Option.isSome_iff_exists.mp h.top
  obtain ⟨r, hr⟩ := State.topJava?_eq_some.mp hg0
  have hr' : (({ U with heap := s₂.heap, slotsUsed := s₂.slotsUsed } : State).setVm s₂.vm).frames = .java g₀ :: r := hr
  rcases hq' with ⟨hqc, L, hfe, hL⟩ | ⟨q, rfl, E, ce, L, hx, hce, hcv, hcl, hW₂, hsm, hL⟩
  · obtain ⟨⟨v, rfl⟩, hW₂, e2, q2, q3, q4, q5, q6⟩ := id hfe
    have e3 : s₂ = ({ (U.calling g mk a).setFrames s₂.frames with heap := s₂.heap, slotsUsed := s₂.slotsUsed } : State).setVm s₂.vm := by
      have : s₂ = ({ s₂ with vm := (U.calling g mk a).vm } : State).setVm s₂.vm := rfl
      rw [e2] at this
      exact this
    obtain ⟨c₂, i₂, len₂, hc₂, hd₂, hf₂⟩ := hend
    have hW' : U.WarmedH s₂.vm := hW₂
    have hcc : c₂ = c := by
      have h1 : s₂.code? g.method = U.code? g.method := by
        rw [State.code?_eq, State.code?_eq, hW'.alike.method?]
      exact Option.some.inj (hc₂.symm.trans (h1.trans h.code))
    subst hcc
    have hlen : len₂ = len := by rw [hdg] at hd₂; cases hd₂; rfl
    subst hlen
    have hs₂ : s₂ = (({ U with heap := s₂.heap, slotsUsed := s₂.slotsUsed } : State).setVm s₂.vm).setTop { g with pc := g.pc + len₂, stack := v.toList ++ g.stack } := by
      refine e3.trans ?_
      rw [hf₂, State.calling_eq h.top, State.setFrames_setFrames, State.setTop_of_frames _ hr', hr]
      rfl
    have hsame : U.sameButNew ({ U with heap := s₂.heap, slotsUsed := s₂.slotsUsed } : State) L mc ms := by
      refine ⟨?_, q2, q3, q4, q5, q6⟩
      obtain ⟨t, ht, -⟩ := State.frames_cons hr
      show ({ U with heap := s₂.heap, slotsUsed := s₂.slotsUsed } : State) = { U.setFrames U.frames with heap := s₂.heap, slotsUsed := s₂.slotsUsed }
      rw [State.setFrames_self ht]
    subst hg
    refine Or.inl ⟨v, ⟨(({ U with heap := s₂.heap, slotsUsed := s₂.slotsUsed } : State).setVm s₂.vm), Ls ++ L, c0 + mc, s0 + ms⟩,
      ⟨X.admits, X.cas, X.clock, X.frames, X.room, X.hears, X.method, X.code, (X.here.setHeapUsed s₂.heap s₂.slotsUsed).setVm hW'.alike, X.tail, State.WarmedH.trans X.warmed hW', X.limits, X.bytes, X.same.trans (hsame.setVm s.vm)⟩,
      ⟨g, mk, s₂, L, rfl, rfl, hqc, rfl, hL, rfl, rfl⟩, ?_⟩
    show Steps p.tables e below _ ((({ U with heap := s₂.heap, slotsUsed := s₂.slotsUsed } : State).setVm s₂.vm).setTop { g with pc := g.pc + len₂, stack := v.toList ++ g.stack })
    rw [← hs₂]
    exact hsteps
  · obtain ⟨e2, q2, q3, q4, q5, q6⟩ := id hsm
    have e3 : s₂ = ({ (U.calling g mk a).setFrames s₂.frames with heap := s₂.heap, slotsUsed := s₂.slotsUsed } : State).setVm s₂.vm := by
      have : s₂ = ({ s₂ with vm := (U.calling g mk a).vm } : State).setVm s₂.vm := rfl
      rw [e2] at this
      exact this
    have hf₂ : s₂.frames = .throwing q :: .java g :: U.frames.tail := hend
    have hW' : U.WarmedH s₂.vm := hW₂
    have hs₂ : s₂ = ((({ U with heap := s₂.heap, slotsUsed := s₂.slotsUsed } : State).setVm s₂.vm).setTop g).pushFrame (.throwing q) := by
      refine e3.trans ?_
      rw [hf₂, State.calling_eq h.top, State.setFrames_setFrames, State.pushFrame, State.frames_setTop _ hr', State.setTop_of_frames _ hr', State.setFrames_setFrames, hr]
      rfl
    have hsame : U.sameButNew ({ U with heap := s₂.heap, slotsUsed := s₂.slotsUsed } : State) L mc ms := by
      refine ⟨?_, q2, q3, q4, q5, q6⟩
      obtain ⟨t, ht, -⟩ := State.frames_cons hr
      show ({ U with heap := s₂.heap, slotsUsed := s₂.slotsUsed } : State) = { U.setFrames U.frames with heap := s₂.heap, slotsUsed := s₂.slotsUsed }
      rw [State.setFrames_self ht]
    subst hg
    refine Or.inr ⟨q, ⟨(({ U with heap := s₂.heap, slotsUsed := s₂.slotsUsed } : State).setVm s₂.vm), Ls ++ L, c0 + mc, s0 + ms⟩,
      ⟨X.admits, X.cas, X.clock, X.frames, X.room, X.hears, X.method, X.code, (X.here.setHeapUsed s₂.heap s₂.slotsUsed).setVm hW'.alike, X.tail, State.WarmedH.trans X.warmed hW', X.limits, X.bytes, X.same.trans (hsame.setVm s.vm)⟩,
      ⟨g, mk, s₂, L, E, ce, rfl, rfl, hx, hce, hcv, hcl, rfl, hL, rfl, rfl⟩, ?_⟩
    show Steps p.tables e below _ (((({ U with heap := s₂.heap, slotsUsed := s₂.slotsUsed } : State).setVm s₂.vm).setTop g).pushFrame (.throwing q))
    rw [← hs₂]
    exact hsteps
end
variable {p : Program} {l : Launch} {e : Env} {R : Room} {s : State} {m : MethodId} {args : Array Value} {below : List Frame} {meth : Method} {c : Code} {T : State} {H : Heap} {locs : List Loc} {cells slots : Nat}
theorem vx_callVX (X : Stand p l e R s m args below meth c T locs cells slots) (hexec : p.tables.exec = Jvm.exec) {own C : String} {index : Nat} {y : MethodName} {bytes : ByteArray} {maxL : Nat} {ret : Option FieldType} {hh : List (Nat × Nat × Nat × Nat)}
    (hown : s.vm.findClass own = some m.cls) (hlink : (Cond.methodLink own index y).before args s = true) (hinst : (Cond.instanceMethod y).before args s = true) (hsel : (Cond.selects C y y).before args s = true)
    (hcode : (Cond.codeWith y bytes maxL ret hh).before args s = true) (hy : y.cls ≠ "java/lang/invoke/MethodHandle" ∧ y.cls ≠ "java/lang/invoke/VarHandle")
    {W9 : Nat} {Pre : Pt → Array Value → Prop} {Post : Pt → Array Value → Option Value → Pt → Prop} {PostX : Pt → Array Value → Addr → Pt → Prop} (hK : vx_Back l R p e below s args y 3 W9 Pre Post PostX)
    {b : Addr} {cellB : Cell} (hcell : T.heap[b]? = some cellB) (hobj : cellB.vm.isStatics = false) (hcls : s.vm.findClass C = some cellB.cls)
    {g : JFrame} (hg : g.method = m) (hsize : g.locals.size = c.maxLocals) {argsL rest : List Value} (hlen : ∀ sig, parseMethodDescriptor y.desc = some sig → argsL.length = sig.parameters.length)
    (hstack : g.stack = argsL.reverse ++ .ref b :: rest) (hW : 2 * g.monitorRoom + (rest.map fun v => v.category).sum ≤ W9) (hdg : decode c.code g.pc = .ok (.invokevirtual index, 3))
    (hpre : ∀ vm₁, s.WarmedH vm₁ → Pre ⟨T.setVm vm₁, locs, cells, slots⟩ (Value.ref b :: argsL).toArray) :
    (∃ (v : Option Value) (vm₁ : Vm) (B : Pt), s.WarmedH vm₁ ∧ Stand p l e R s m args below meth c B.U B.locs B.cells B.slots ∧ Post ⟨T.setVm vm₁, locs, cells, slots⟩ (Value.ref b :: argsL).toArray v B ∧
      ∀ target, Steps p.tables e below (B.U.setTop { g with pc := g.pc + 3, stack := v.toList ++ rest }) target → Steps p.tables e below (T.setTop g) target) ∨
    (∃ (q : Addr) (vm₁ : Vm) (B : Pt), s.WarmedH vm₁ ∧ Stand p l e R s m args below meth c B.U B.locs B.cells B.slots ∧ PostX ⟨T.setVm vm₁, locs, cells, slots⟩ (Value.ref b :: argsL).toArray q B ∧
      Steps p.tables e below (T.setTop g) ((B.U.setTop { g with stack := rest }).pushFrame (.throwing q))) := by
  obtain ⟨mk, methM, hnamed, hmethM, hstM, habM⟩ := Cond.instanceMethod_spec hinst
  obtain ⟨m8, methM', cM, hn8, hmethM', -, -, -, -, -, -, hsigM⟩ := Cond.codeWith_spec hcode
  cases Option.some.inj (hn8.symm.trans hnamed)
  cases hmethM.symm.trans hmethM'
  obtain ⟨c2, r2, m2, q1, q2, q3, q4, kP, hkP, hkPi⟩ := Cond.selects_spec hsel
  cases hcls.symm.trans q1
  cases (State.methodFound?_of_named hnamed hy).symm.trans q2
  cases hnamed.symm.trans q3
  have hselP : selectMethod e.platform s.vm cellB.cls mk = .method mk := by rw [Launch.admits_selectMethod X.admits]; exact q4
  obtain ⟨vm₁, X₁, hstep₁⟩ := X.invokevirtual hexec hown hlink hnamed hmethM hstM hkP hkPi hy (a := b) (cell := cellB) hcell
    (fun z h => by rw [h] at hobj; cases hobj) hselP hmethM habM hkP hkPi (g := g) hg (argsL := argsL) (rest := rest) (hlen _ hsigM) hstack hdg
  rcases hK m meth c ⟨T.setVm vm₁, locs, cells, slots⟩ { g with stack := rest } (.invokevirtual index) mk (Value.ref b :: argsL).toArray X₁ hg hsize hdg hW (X₁.named hnamed) (hpre vm₁ X₁.warmed) with ⟨v, B, X', hpost, hsteps⟩ | ⟨q, B, X', hpost, hsteps⟩
  · exact Or.inl ⟨v, vm₁, B, X₁.warmed, X', hpost, fun target h => hstep₁ _ fun acts => by rw [doInvoke_state]; exact hsteps.trans h⟩
  · exact Or.inr ⟨q, vm₁, B, X₁.warmed, X', hpost, hstep₁ _ fun acts => by rw [doInvoke_state]; exact hsteps⟩
theorem vx_callSX (X : Stand p l e R s m args below meth c T locs cells slots) (hexec : p.tables.exec = Jvm.exec) {own : String} {index : Nat} {y : MethodName} {bytes : ByteArray} {maxL : Nat} {ret : Option FieldType} {hh : List (Nat × Nat × Nat × Nat)}
    (hown : s.vm.findClass own = some m.cls) (hlink : (Cond.methodLink own index y).before args s = true) (hstat : (Cond.static y).before args s = true) (hinit : (Cond.initialized y.cls).before args s = true)
    (hcode : (Cond.codeWith y bytes maxL ret hh).before args s = true) (hy : y.cls ≠ "java/lang/invoke/MethodHandle" ∧ y.cls ≠ "java/lang/invoke/VarHandle")
    {W9 : Nat} {Pre : Pt → Array Value → Prop} {Post : Pt → Array Value → Option Value → Pt → Prop} {PostX : Pt → Array Value → Addr → Pt → Prop} (hK : vx_Back l R p e below s args y 3 W9 Pre Post PostX)
    {g : JFrame} (hg : g.method = m) (hsize : g.locals.size = c.maxLocals) {argsL rest : List Value} (hlen : ∀ sig, parseMethodDescriptor y.desc = some sig → argsL.length = sig.parameters.length)
    (hstack : g.stack = argsL.reverse ++ rest) (hW : 2 * g.monitorRoom + (rest.map fun v => v.category).sum ≤ W9) (hdg : decode c.code g.pc = .ok (.invokestatic index, 3))
    (hpre : ∀ vm₁, s.WarmedH vm₁ → Pre ⟨T.setVm vm₁, locs, cells, slots⟩ argsL.toArray) :
    (∃ (v : Option Value) (vm₁ : Vm) (B : Pt), s.WarmedH vm₁ ∧ Stand p l e R s m args below meth c B.U B.locs B.cells B.slots ∧ Post ⟨T.setVm vm₁, locs, cells, slots⟩ argsL.toArray v B ∧
      ∀ target, Steps p.tables e below (B.U.setTop { g with pc := g.pc + 3, stack := v.toList ++ rest }) target → Steps p.tables e below (T.setTop g) target) ∨
    (∃ (q : Addr) (vm₁ : Vm) (B : Pt), s.WarmedH vm₁ ∧ Stand p l e R s m args below meth c B.U B.locs B.cells B.slots ∧ PostX ⟨T.setVm vm₁, locs, cells, slots⟩ argsL.toArray q B ∧
      Steps p.tables e below (T.setTop g) ((B.U.setTop { g with stack := rest }).pushFrame (.throwing q))) := by
  obtain ⟨mk, methM, cM, hnamed, hmethM, -, -, -, -, -, -, hsigM⟩ := Cond.codeWith_spec hcode
  have hstatic : methM.isStatic = true := Cond.static_spec hnamed hmethM hstat
  obtain ⟨kP, hkP, -⟩ := className_of_methodNamed hnamed
  have hinitP : kP.init = .initialized := Cond.initialized_spec (findClass_of_methodNamed hnamed) hkP hinit
  obtain ⟨vm₁, X₁, hstep₁⟩ := X.invokestatic hexec hown hlink hnamed hmethM hstatic hkP hinitP hy (g := g) hg (argsL := argsL) (rest := rest) (hlen _ hsigM) hstack hdg
  rcases hK m meth c ⟨T.setVm vm₁, locs, cells, slots⟩ { g with stack := rest } (.invokestatic index) mk argsL.toArray X₁ hg hsize hdg hW (X₁.named hnamed) (hpre vm₁ X₁.warmed) with ⟨v, B, X', hpost, hsteps⟩ | ⟨q, B, X', hpost, hsteps⟩
  · exact Or.inl ⟨v, vm₁, B, X₁.warmed, X', hpost, fun target h => hstep₁ _ fun acts => by rw [doInvoke_state]; exact hsteps.trans h⟩
  · exact Or.inr ⟨q, vm₁, B, X₁.warmed, X', hpost, hstep₁ _ fun acts => by rw [doInvoke_state]; exact hsteps⟩
theorem vx_callVW (X : Stand p l e R s m args below meth c T locs cells slots) (hexec : p.tables.exec = Jvm.exec) {own C : String} {index : Nat} {y : MethodName} {bytes : ByteArray} {maxL : Nat} {ret : Option FieldType} {hh : List (Nat × Nat × Nat × Nat)}
    (hown : s.vm.findClass own = some m.cls) (hlink : (Cond.methodLink own index y).before args s = true) (hinst : (Cond.instanceMethod y).before args s = true) (hsel : (Cond.selects C y y).before args s = true)
    (hcode : (Cond.codeWith y bytes maxL ret hh).before args s = true) (hy : y.cls ≠ "java/lang/invoke/MethodHandle" ∧ y.cls ≠ "java/lang/invoke/VarHandle")
    {W9 : Nat} {Pre : Pt → Array Value → Prop} {Post : Pt → Array Value → Option Value → Pt → Prop} (hK : Back l R p e below s args y 3 W9 Pre Post)
    {b : Addr} {cellB : Cell} (hcell : T.heap[b]? = some cellB) (hobj : cellB.vm.isStatics = false) (hcls : s.vm.findClass C = some cellB.cls)
    {g : JFrame} (hg : g.method = m) (hsize : g.locals.size = c.maxLocals) {argsL rest : List Value} (hlen : ∀ sig, parseMethodDescriptor y.desc = some sig → argsL.length = sig.parameters.length)
    (hstack : g.stack = argsL.reverse ++ .ref b :: rest) (hW : 2 * g.monitorRoom + (rest.map fun v => v.category).sum ≤ W9) (hdg : decode c.code g.pc = .ok (.invokevirtual index, 3))
    (hpre : ∀ vm₁, s.WarmedH vm₁ → Pre ⟨T.setVm vm₁, locs, cells, slots⟩ (Value.ref b :: argsL).toArray) :
    ∃ (v : Option Value) (vm₁ : Vm) (B : Pt), s.WarmedH vm₁ ∧ Stand p l e R s m args below meth c B.U B.locs B.cells B.slots ∧ Post ⟨T.setVm vm₁, locs, cells, slots⟩ (Value.ref b :: argsL).toArray v B ∧
      ∀ target, Steps p.tables e below (B.U.setTop { g with pc := g.pc + 3, stack := v.toList ++ rest }) target → Steps p.tables e below (T.setTop g) target := by
  obtain ⟨mk, methM, hnamed, hmethM, hstM, habM⟩ := Cond.instanceMethod_spec hinst
  obtain ⟨m8, methM', cM, hn8, hmethM', -, -, -, -, -, -, hsigM⟩ := Cond.codeWith_spec hcode
  cases Option.some.inj (hn8.symm.trans hnamed)
  cases hmethM.symm.trans hmethM'
  obtain ⟨c2, r2, m2, q1, q2, q3, q4, kP, hkP, hkPi⟩ := Cond.selects_spec hsel
  cases hcls.symm.trans q1
  cases (State.methodFound?_of_named hnamed hy).symm.trans q2
  cases hnamed.symm.trans q3
  have hselP : selectMethod e.platform s.vm cellB.cls mk = .method mk := by rw [Launch.admits_selectMethod X.admits]; exact q4
  obtain ⟨vm₁, X₁, hstep₁⟩ := X.invokevirtual hexec hown hlink hnamed hmethM hstM hkP hkPi hy (a := b) (cell := cellB) hcell
    (fun z h => by rw [h] at hobj; cases hobj) hselP hmethM habM hkP hkPi (g := g) hg (argsL := argsL) (rest := rest) (hlen _ hsigM) hstack hdg
  obtain ⟨v, B, X', hpost, hsteps⟩ := hK m meth c ⟨T.setVm vm₁, locs, cells, slots⟩ { g with stack := rest } (.invokevirtual index) mk (Value.ref b :: argsL).toArray X₁ hg hsize hdg hW (X₁.named hnamed) (hpre vm₁ X₁.warmed)
  exact ⟨v, vm₁, B, X₁.warmed, X', hpost, fun target h => hstep₁ _ fun acts => by rw [doInvoke_state]; exact hsteps.trans h⟩
abbrev vx_CVW (R : Room) (s : State) (args : Array Value) (own C : String) (index : Nat) (y : MethodName) (bytes : ByteArray) (maxL : Nat) (ret : Option FieldType) (hh : List (Nat × Nat × Nat × Nat)) (ws : List Cond) (rm : Room) (mc ms n : Nat) : Prop :=
  (rm.cells = mc ∧ rm.slots = ms ∧ rm.frames + 1 ≤ R.frames ∧ 8 + (maxL + 11) + rm.locals ≤ R.locals ∧ (∀ w ∈ ws, ∀ (a' : Array Value) (U : State), s.WarmedH U.vm → w.before a' U = true) ∧ Cond.codeWith y bytes maxL ret hh ∈ ws) ∧
  (Cond.codeWith y bytes maxL ret hh).before args s = true ∧ (Cond.initialized y.cls).before args s = true ∧ (y.cls ≠ "java/lang/invoke/MethodHandle" ∧ y.cls ≠ "java/lang/invoke/VarHandle") ∧
  (∀ sig, parseMethodDescriptor y.desc = some sig → n = sig.parameters.length) ∧ (Cond.methodLink own index y).before args s = true ∧ (Cond.instanceMethod y).before args s = true ∧ (Cond.selects C y y).before args s = true
theorem vx_cwVW {own C : String} {index maxL mc ms : Nat} {y : MethodName} {bytes : ByteArray} {ret : Option FieldType} {hh : List (Nat × Nat × Nat × Nat)} {Ts ws ws' : List Cond} {rm : Room} (n : Nat) (ht : ∀ w ∈ Ts, w.before args s = true) (hT : GoodIn Ts (wsV own index C y ws)) (hw : ws = Cond.codeWith y bytes maxL ret hh :: ws') (hrc : rm.cells = mc) (hrs : rm.slots = ms)
    (hd : y.cls = C ∧ y.cls ≠ "java/lang/invoke/MethodHandle" ∧ y.cls ≠ "java/lang/invoke/VarHandle" ∧ (parseMethodDescriptor y.desc).map (fun d => d.parameters.length) = some n) (hR : rm.frames + 1 ≤ R.frames ∧ 8 + (maxL + 11) + rm.locals ≤ R.locals) :
    vx_CVW R s args own C index y bytes maxL ret hh ws rm mc ms n := by
  obtain ⟨hC, hd⟩ := hd
  subst hC
  have ok : ∀ w ∈ wsV own index y.cls y ws, w.before args s = true := fun w h => ht w (hT w h).1
  have hG : GoodIn Ts ws := fun w h => hT w (by unfold wsV; exact List.mem_append_right _ h)
  have hc : Cond.codeWith y bytes maxL ret hh ∈ ws := by rw [hw]; exact List.mem_cons_self
  refine ⟨⟨hrc, hrs, hR.1, hR.2, pay_in ht hG, hc⟩, ht _ (hG _ hc).1, ok _ (by simp [wsV]), ⟨hd.1, hd.2.1⟩, fun sig h => ?_, ok _ (by simp [wsV]), ok _ (by simp [wsV]), ok _ (by simp [wsV])⟩
  have h2 := hd.2.2
  rw [h] at h2
  exact (Option.some.inj h2).symm
theorem vx_runVW {y : MethodName} {bytes cc : ByteArray} {maxL nL mc ms n index : Nat} {ret : Option FieldType} {hh : List (Nat × Nat × Nat × Nat)} {ws : List Cond} {rm : Room} {Pc : Array Value → State → Prop} {Qc : Array Value → State → Outcome → State → Prop} {free : Addr → Prop} {Ts : List Cond} {own C : String} {b : Addr} {As rest : List Value} {g : JFrame}
    (S : CallFix p m c cc nL s args Ts own) (hM : Met l y ws rm Pc Qc mc ms free) (cw : vx_CVW R s args own C index y bytes maxL ret hh ws rm mc ms n) (hp : PreV s H C b Pc As)
    (hg : g.method = m) (hn : As.length = n) (hsize : g.locals.size = nL) (hstack : g.stack = As.reverse ++ .ref b :: rest) (hW : 2 * g.monitorRoom + (rest.map fun v => v.category).sum ≤ 8) (hdg : decode cc g.pc = .ok (.invokevirtual index, 3)) (hf : cells + mc ≤ R.cells ∧ slots + ms ≤ R.slots) :
    va_Run p l e R s m args below meth c H locs cells slots mc ms g rest (Qc (Value.ref b :: As).toArray) free := by
  obtain ⟨⟨hrc, hrs, hfr, hlo, hws, hcw⟩, hcode, hini, hy, hlen, hl, hin, hse⟩ := cw
  have hK : Back l R p e below s args y 3 8 (PreOf R mc ms Pc) (PostOf Qc mc ms free) := va_backW (hh := hh) (bytes := bytes) (maxL := maxL) (ret := ret) hM hp.1 hrc hrs hfr hlo hws hcw (fun a' U hW => word_at hW (Or.inl (by first | rfl | simp [Cond.onTables, Cond.keeps, Cond.steady])) hini)
  obtain ⟨hx, hb, hml, ho, -⟩ := S
  obtain ⟨-, ⟨cellB, hcB, hoB, hclB⟩, hPc⟩ := hp
  intro T hT X
  obtain ⟨v, vm₁, ⟨U', l2, c2, s2⟩, hW₁, X', ⟨g', mk, t, L, e1, e2, hq, h1, hL, h2, h3⟩, st⟩ := vx_callVW X hx (C := C) (hh := hh) (bytes := bytes) (maxL := maxL) (ret := ret) ho hl hin hse hcode hy hK (by rw [hT]; exact hcB) hoB hclB hg (hsize.trans hml.symm) (argsL := As) (rest := rest) (fun sig h => hn.trans (hlen sig h)) hstack hW (by rw [hb]; exact hdg)
    (fun vm₁ hW₁ => ⟨hf.1, hf.2, hPc (T.setVm vm₁) hT hW₁⟩)
  dsimp only [Pt.U, Pt.locs, Pt.cells, Pt.slots] at X' e1 e2 h1 h2 h3 st
  subst h1; subst h2; subst h3
  exact ⟨v, (T.setVm vm₁).calling g' mk (Value.ref b :: As).toArray, t, U', L, hT, X', hL, e1, e2, hq, st⟩
section
variable {y : MethodName} {bytes cc : ByteArray} {maxL nL mc ms n index : Nat} {ret : Option FieldType} {ws : List Cond} {rm : Room} {Pc : Array Value → State → Prop} {Qc : Array Value → State → Outcome → State → Prop} {XC : String → State → State → Prop} {free : Addr → Prop} {Ts : List Cond} {own C : String} {b : Addr} {As rest : List Value} {g : JFrame}
theorem vx_runVX {hh : List (Nat × Nat × Nat × Nat)} (S : CallFix p m c cc nL s args Ts own) (hM : vx_Met l y ws rm Pc Qc XC mc ms free) (cw : vx_CVW R s args own C index y bytes maxL ret hh ws rm mc ms n) (hp : PreV s H C b Pc As)
    (hg : g.method = m) (hn : As.length = n) (hsize : g.locals.size = nL) (hstack : g.stack = As.reverse ++ .ref b :: rest) (hW : 2 * g.monitorRoom + (rest.map fun v => v.category).sum ≤ 8) (hdg : decode cc g.pc = .ok (.invokevirtual index, 3)) (hf : cells + mc ≤ R.cells ∧ slots + ms ≤ R.slots) :
    vx_Run p l e R s m args below meth c H locs cells slots mc ms g rest (Qc (Value.ref b :: As).toArray) XC free := by
  obtain ⟨⟨hrc, hrs, hfr, hlo, hws, hcw⟩, hcode, hini, hy, hlen, hl, hin, hse⟩ := cw
  have hK : vx_Back l R p e below s args y 3 8 (PreOf R mc ms Pc) (PostOf Qc mc ms free) (vx_Post XC mc ms free) := vx_backW (hh := hh) (bytes := bytes) (maxL := maxL) (ret := ret) hM hp.1 hrc hrs hfr hlo hws hcw (fun a' U hW => word_at hW (Or.inl (by first | rfl | simp [Cond.onTables, Cond.keeps, Cond.steady])) hini)
  obtain ⟨hx, hb, hml, ho, -⟩ := S
  obtain ⟨-, ⟨cellB, hcB, hoB, hclB⟩, hPc⟩ := hp
  intro T hT X
  rcases vx_callVX X hx (C := C) (hh := hh) (bytes := bytes) (maxL := maxL) (ret := ret) ho hl hin hse hcode hy hK (by rw [hT]; exact hcB) hoB hclB hg (hsize.trans hml.symm) (argsL := As) (rest := rest) (fun sig h => hn.trans (hlen sig h)) hstack hW (by rw [hb]; exact hdg)
    (fun vm₁ hW₁ => ⟨hf.1, hf.2, hPc (T.setVm vm₁) hT hW₁⟩) with ⟨v, vm₁, ⟨U', l2, c2, s2⟩, hW₁, X', ⟨g', mk, t, L, e1, e2, hq, h1, hL, h2, h3⟩, st⟩ | ⟨q, vm₁, ⟨U', l2, c2, s2⟩, hW₁, X', ⟨g', mk, t, L, E, ce, e1, e2, hq, hce, hcv, hcl, h1, hL, h2, h3⟩, st⟩
  · dsimp only [Pt.U, Pt.locs, Pt.cells, Pt.slots] at X' e1 e2 h1 h2 h3 st
    subst h1; subst h2; subst h3
    exact Or.inl ⟨v, (T.setVm vm₁).calling g' mk (Value.ref b :: As).toArray, t, U', L, hT, X', hL, e1, e2, hq, st⟩
  · dsimp only [Pt.U, Pt.locs, Pt.cells, Pt.slots] at X' e1 e2 h1 h2 h3 st hcl
    subst h1; subst h2; subst h3
    exact Or.inr ⟨q, (T.setVm vm₁).calling g' mk (Value.ref b :: As).toArray, t, U', L, E, ce, hT, X', hL, e1, e2, hq, hce, hcv, vx_cls hW₁ hcl, st⟩
theorem vx_runSX {hh : List (Nat × Nat × Nat × Nat)} (S : CallFix p m c cc nL s args Ts own) (hM : vx_Met l y ws rm Pc Qc XC mc ms free) (cw : vx_CSW R s args own index y bytes maxL ret hh ws rm mc ms n) (hp : PreS s H Pc As)
    (hg : g.method = m) (hn : As.length = n) (hsize : g.locals.size = nL) (hstack : g.stack = As.reverse ++ rest) (hW : 2 * g.monitorRoom + (rest.map fun v => v.category).sum ≤ 8) (hdg : decode cc g.pc = .ok (.invokestatic index, 3)) (hf : cells + mc ≤ R.cells ∧ slots + ms ≤ R.slots) :
    vx_Run p l e R s m args below meth c H locs cells slots mc ms g rest (Qc As.toArray) XC free := by
  obtain ⟨⟨hrc, hrs, hfr, hlo, hws, hcw⟩, hcode, hini, hy, hlen, hl, hstt⟩ := cw
  have hK : vx_Back l R p e below s args y 3 8 (PreOf R mc ms Pc) (PostOf Qc mc ms free) (vx_Post XC mc ms free) := vx_backW (hh := hh) (bytes := bytes) (maxL := maxL) (ret := ret) hM hp.1 hrc hrs hfr hlo hws hcw (fun a' U hW => word_at hW (Or.inl (by first | rfl | simp [Cond.onTables, Cond.keeps, Cond.steady])) hini)
  obtain ⟨hx, hb, hml, ho, -⟩ := S
  intro T hT X
  rcases vx_callSX X hx (hh := hh) (bytes := bytes) (maxL := maxL) (ret := ret) ho hl hstt hini hcode hy hK hg (hsize.trans hml.symm) (argsL := As) (rest := rest) (fun sig h => hn.trans (hlen sig h)) hstack hW (by rw [hb]; exact hdg)
    (fun vm₁ hW₁ => ⟨hf.1, hf.2, hp.2 (T.setVm vm₁) hT hW₁⟩) with ⟨v, vm₁, ⟨U', l2, c2, s2⟩, hW₁, X', ⟨g', mk, t, L, e1, e2, hq, h1, hL, h2, h3⟩, st⟩ | ⟨q, vm₁, ⟨U', l2, c2, s2⟩, hW₁, X', ⟨g', mk, t, L, E, ce, e1, e2, hq, hce, hcv, hcl, h1, hL, h2, h3⟩, st⟩
  · dsimp only [Pt.U, Pt.locs, Pt.cells, Pt.slots] at X' e1 e2 h1 h2 h3 st
    subst h1; subst h2; subst h3
    exact Or.inl ⟨v, (T.setVm vm₁).calling g' mk As.toArray, t, U', L, hT, X', hL, e1, e2, hq, st⟩
  · dsimp only [Pt.U, Pt.locs, Pt.cells, Pt.slots] at X' e1 e2 h1 h2 h3 st hcl
    subst h1; subst h2; subst h3
    exact Or.inr ⟨q, (T.setVm vm₁).calling g' mk As.toArray, t, U', L, E, ce, hT, X', hL, e1, e2, hq, hce, hcv, vx_cls hW₁ hcl, st⟩
end
end VXH
theorem vx_ofWH {l : Launch} {y : MethodName} {ws ws' : List Cond} {rm : Room} {Pc : Array Value → State → Prop} {Qc : Array Value → State → Outcome → State → Prop} {XC : String → State → State → Prop} {mc ms : Nat} {free : Addr → Prop} {cc : ByteArray} {maxL : Nat} {ret : Option FieldType} {hh : List (Nat × Nat × Nat × Nat)}
    (hy : plainName y.cls = true) (hw : ws = Cond.codeWith y cc maxL ret hh :: ws')
    (body : ∀ p e s m args below meth c s₁, BodyLoose p l y (headSpec ws rm) cc maxL ret e s m args below meth c s₁ → c.maxLocals = maxL → Pc args s →
      W p l e (headSpec ws rm).room s m args below meth c s.heap [] 0 0 (vx_MQ below Qc XC args s mc ms free) (entryFrame m args maxL)) : vx_Met l y ws rm Pc Qc XC mc ms free := by
  refine MetFree.of_bodyS (code := cc) (maxLocals := maxL) (ret := ret) hy ?_ ?_
  · intro args s m h hn
    obtain ⟨m9, meth, c, hn9, h1, h2, h3, h4, -, h5, h6, -⟩ := Cond.codeWith_spec (atoms_spec (ws := ws) h _ (by rw [hw]; exact List.mem_cons_self))
    cases hn.symm.trans hn9
    exact ⟨meth, c, h1, h2, h3, h4, h5, h6⟩
  · intro p e s m args below meth c s₁ B hml hP _
    have hh0 : s₁.heap = s.heap := by rw [B.state]; rfl
    obtain ⟨t, a1, o, b1, b2, b3⟩ := body p e s m args below meth c s₁ B hml hP s₁ hh0 (Stand.of_body B)
    exact ⟨t, o, a1, b1, b2, b3⟩
/-! ===== END ===== -/
/-! ===== BEGIN a constructor that throws (launches without stack traces) ===== -/
section VXIA
variable {p : Program} {l : Launch} {e : Env} {R : Room} {s : State} {m : MethodId} {args : Array Value} {below : List Frame} {meth : Method} {c : Code} {T : State} {locs : List Loc} {cells slots : Nat}
theorem vx_callI (X : Stand p l e R s m args below meth c T locs cells slots) (hexec : p.tables.exec = Jvm.exec) {own : String} {index : Nat} {y : MethodName} {bytes : ByteArray} {maxL : Nat}
    (hown : s.vm.findClass own = some m.cls) (hy1 : y.name = "<init>") (hlink : (Cond.methodLink own index y).before args s = true) (hinst : (Cond.instanceMethod y).before args s = true)
    (hcode : (Cond.code y bytes maxL none).before args s = true) (hy : y.cls ≠ "java/lang/invoke/MethodHandle" ∧ y.cls ≠ "java/lang/invoke/VarHandle")
    {W9 : Nat} {Pre : Pt → Array Value → Prop} {Post : Pt → Array Value → Option Value → Pt → Prop} {PostX : Pt → Array Value → Addr → Pt → Prop} (hK : vx_Back l R p e below s args y 3 W9 Pre Post PostX)
    {g : JFrame} (hg : g.method = m) (hsize : g.locals.size = c.maxLocals) {a : Addr} {argsL rest : List Value} (hlen : ∀ sig, parseMethodDescriptor y.desc = some sig → argsL.length = sig.parameters.length)
    (hstack : g.stack = argsL.reverse ++ .ref a :: rest) (hW : 2 * g.monitorRoom + (rest.map fun v => v.category).sum ≤ W9) (hdg : decode c.code g.pc = .ok (.invokespecial index, 3))
    (hpre : ∀ vm₁, s.WarmedH vm₁ → Pre ⟨T.setVm vm₁, locs, cells, slots⟩ (Value.ref a :: argsL).toArray) :
    (∃ (v : Option Value) (vm₁ : Vm) (B : Pt), s.WarmedH vm₁ ∧ Stand p l e R s m args below meth c B.U B.locs B.cells B.slots ∧ Post ⟨T.setVm vm₁, locs, cells, slots⟩ (Value.ref a :: argsL).toArray v B ∧
      ∀ target, Steps p.tables e below (B.U.setTop { g with pc := g.pc + 3, stack := v.toList ++ rest }) target → Steps p.tables e below (T.setTop g) target) ∨
    (∃ (q : Addr) (vm₁ : Vm) (B : Pt), s.WarmedH vm₁ ∧ Stand p l e R s m args below meth c B.U B.locs B.cells B.slots ∧ PostX ⟨T.setVm vm₁, locs, cells, slots⟩ (Value.ref a :: argsL).toArray q B ∧
      Steps p.tables e below (T.setTop g) ((B.U.setTop { g with stack := rest }).pushFrame (.throwing q))) := by
  subst hg
  have hpl : e.platform.magicAccessors = ({} : Platform).magicAccessors := by rw [X.admits.platform]
  obtain ⟨mk, methM, cM, kP, vm₁, hnamed, hmethM, hcodeM, -, hlocalsM, -, hkP, -, hW₁, hstep₁⟩ := Steps.initColdArgs (e := e) X.here hexec X.warmed hpl hown hy1 hy hlink hinst hcode (f := g) rfl hlen hstack hdg
  have X₁ := X.noted hW₁
  rcases hK g.method meth c ⟨T.setVm vm₁, locs, cells, slots⟩ { g with stack := rest } (.invokespecial index) mk (Value.ref a :: argsL).toArray X₁ rfl hsize hdg hW (X₁.named hnamed) (hpre vm₁ X₁.warmed) with ⟨v, B, X', hpost, hsteps⟩ | ⟨q, B, X', hpost, hsteps⟩
  · exact Or.inl ⟨v, vm₁, B, X₁.warmed, X', hpost, fun target h => hstep₁ _ fun acts => by rw [doInvoke_state]; exact hsteps.trans h⟩
  · exact Or.inr ⟨q, vm₁, B, X₁.warmed, X', hpost, hstep₁ _ fun acts => by rw [doInvoke_state]; exact hsteps⟩
end VXIA
section VXIB
variable {p : Program} {l : Launch} {e : Env} {R : Room} {s : State} {m : MethodId} {args : Array Value} {below : List Frame} {meth : Method} {c : Code} {H : Heap} {locs : List Loc} {cells slots : Nat}
variable {y : MethodName} {bytes cc : ByteArray} {maxL nL mc ms n index : Nat} {ret : Option FieldType} {ws : List Cond} {rm : Room} {Pc : Array Value → State → Prop} {Qc : Array Value → State → Outcome → State → Prop} {XC : String → State → State → Prop} {free : Addr → Prop} {Ts : List Cond} {own C : String} {b : Addr} {As rest : List Value} {g : JFrame}
theorem vx_runI (S : CallFix p m c cc nL s args Ts own) (hM : vx_Met l y ws rm Pc Qc XC mc ms free) (cw : CallB R s args own index y bytes maxL none ws rm mc ms n ∧ y.name = "<init>" ∧ (Cond.instanceMethod y).before args s = true) (hp : PreS s H Pc (.ref b :: As))
    (hg : g.method = m) (hn : As.length = n) (hsize : g.locals.size = nL) (hstack : g.stack = As.reverse ++ .ref b :: rest) (hW : 2 * g.monitorRoom + (rest.map fun v => v.category).sum ≤ 8) (hdg : decode cc g.pc = .ok (.invokespecial index, 3)) (hf : cells + mc ≤ R.cells ∧ slots + ms ≤ R.slots) :
    vx_Run p l e R s m args below meth c H locs cells slots mc ms g rest (Qc (Value.ref b :: As).toArray) XC free := by
  have hK : vx_Back l R p e below s args y 3 8 (PreOf R mc ms Pc) (PostOf Qc mc ms free) (vx_Post XC mc ms free) := vx_callBack cw.1 hM hp.1
  obtain ⟨⟨-, -, -, -, -, -, hcode, -, hy, hlen, hl⟩, hy1, hin⟩ := cw
  obtain ⟨hx, hb, hml, ho, -⟩ := S
  have hPc := hp.2
  intro T hT X
  rcases vx_callI X hx (bytes := bytes) (maxL := maxL) ho hy1 hl hin hcode hy hK hg (hsize.trans hml.symm) (a := b) (argsL := As) (rest := rest) (fun sig h => hn.trans (hlen sig h)) hstack hW (by rw [hb]; exact hdg)
    (fun vm₁ hW₁ => ⟨hf.1, hf.2, hPc (T.setVm vm₁) hT hW₁⟩) with ⟨v, vm₁, ⟨U', l2, c2, s2⟩, hW₁, X', ⟨g', mk, t, L, e1, e2, hq, h1, hL, h2, h3⟩, st⟩ | ⟨q, vm₁, ⟨U', l2, c2, s2⟩, hW₁, X', ⟨g', mk, t, L, E, ce, e1, e2, hq, hce, hcv, hcl, h1, hL, h2, h3⟩, st⟩
  · dsimp only [Pt.U, Pt.locs, Pt.cells, Pt.slots] at X' e1 e2 h1 h2 h3 st
    subst h1; subst h2; subst h3
    exact Or.inl ⟨v, (T.setVm vm₁).calling g' mk (Value.ref b :: As).toArray, t, U', L, hT, X', hL, e1, e2, hq, st⟩
  · dsimp only [Pt.U, Pt.locs, Pt.cells, Pt.slots] at X' e1 e2 h1 h2 h3 st hcl
    subst h1; subst h2; subst h3
    exact Or.inr ⟨q, (T.setVm vm₁).calling g' mk (Value.ref b :: As).toArray, t, U', L, E, ce, hT, X', hL, e1, e2, hq, hce, hcv, vx_cls hW₁ hcl, st⟩
end VXIB
/-! ===== END ===== -/
/-! ===== BEGIN a private constructor of a nest mate that throws ===== -/
section VXIC
variable {p : Program} {l : Launch} {e : Env} {R : Room} {s : State} {m : MethodId} {args : Array Value} {below : List Frame} {meth : Method} {c : Code} {T : State} {locs : List Loc} {cells slots : Nat}
theorem vx_callIN (X : Stand p l e R s m args below meth c T locs cells slots) (hexec : p.tables.exec = Jvm.exec) {own : String} {index : Nat} {host : String} {y : MethodName} {bytes : ByteArray} {maxL : Nat}
    (hown : s.vm.findClass own = some m.cls) (hy1 : y.name = "<init>") (hlink : (Cond.methodLinkNest own index y host).before args s = true) (hinst : (Cond.instanceMethod y).before args s = true)
    (hcode : (Cond.code y bytes maxL none).before args s = true) (hy : y.cls ≠ "java/lang/invoke/MethodHandle" ∧ y.cls ≠ "java/lang/invoke/VarHandle")
    {W9 : Nat} {Pre : Pt → Array Value → Prop} {Post : Pt → Array Value → Option Value → Pt → Prop} {PostX : Pt → Array Value → Addr → Pt → Prop} (hK : vx_Back l R p e below s args y 3 W9 Pre Post PostX)
    {g : JFrame} (hg : g.method = m) (hsize : g.locals.size = c.maxLocals) {a : Addr} {argsL rest : List Value} (hlen : ∀ sig, parseMethodDescriptor y.desc = some sig → argsL.length = sig.parameters.length)
    (hstack : g.stack = argsL.reverse ++ .ref a :: rest) (hW : 2 * g.monitorRoom + (rest.map fun v => v.category).sum ≤ W9) (hdg : decode c.code g.pc = .ok (.invokespecial index, 3))
    (hpre : ∀ vm₁, s.WarmedH vm₁ → Pre ⟨T.setVm vm₁, locs, cells, slots⟩ (Value.ref a :: argsL).toArray) :
    (∃ (v : Option Value) (vm₁ : Vm) (B : Pt), s.WarmedH vm₁ ∧ Stand p l e R s m args below meth c B.U B.locs B.cells B.slots ∧ Post ⟨T.setVm vm₁, locs, cells, slots⟩ (Value.ref a :: argsL).toArray v B ∧
      ∀ target, Steps p.tables e below (B.U.setTop { g with pc := g.pc + 3, stack := v.toList ++ rest }) target → Steps p.tables e below (T.setTop g) target) ∨
    (∃ (q : Addr) (vm₁ : Vm) (B : Pt), s.WarmedH vm₁ ∧ Stand p l e R s m args below meth c B.U B.locs B.cells B.slots ∧ PostX ⟨T.setVm vm₁, locs, cells, slots⟩ (Value.ref a :: argsL).toArray q B ∧
      Steps p.tables e below (T.setTop g) ((B.U.setTop { g with stack := rest }).pushFrame (.throwing q))) := by
  subst hg
  have hpl : e.platform.magicAccessors = ({} : Platform).magicAccessors := by rw [X.admits.platform]
  obtain ⟨mk, methM, cM, kP, vm₁, hnamed, hmethM, hcodeM, -, hlocalsM, -, hkP, -, hW₁, hstep₁⟩ := Steps.initColdArgsNest (e := e) X.here hexec X.warmed hpl hown hy1 hy hlink hinst hcode (f := g) rfl hlen hstack hdg
  have X₁ := X.noted hW₁
  rcases hK g.method meth c ⟨T.setVm vm₁, locs, cells, slots⟩ { g with stack := rest } (.invokespecial index) mk (Value.ref a :: argsL).toArray X₁ rfl hsize hdg hW (X₁.named hnamed) (hpre vm₁ X₁.warmed) with ⟨v, B, X', hpost, hsteps⟩ | ⟨q, B, X', hpost, hsteps⟩
  · exact Or.inl ⟨v, vm₁, B, X₁.warmed, X', hpost, fun target h => hstep₁ _ fun acts => by rw [doInvoke_state]; exact hsteps.trans h⟩
  · exact Or.inr ⟨q, vm₁, B, X₁.warmed, X', hpost, hstep₁ _ fun acts => by rw [doInvoke_state]; exact hsteps⟩
end VXIC
section VXID
variable {p : Program} {l : Launch} {e : Env} {R : Room} {s : State} {m : MethodId} {args : Array Value} {below : List Frame} {meth : Method} {c : Code} {H : Heap} {locs : List Loc} {cells slots : Nat}
theorem vx_runIN {y : MethodName} {bytes cc : ByteArray} {maxL nL mc ms n index : Nat} {ws : List Cond} {rm : Room} {Pc : Array Value → State → Prop} {Qc : Array Value → State → Outcome → State → Prop} {XC : String → State → State → Prop} {free : Addr → Prop} {Ts : List Cond} {own host : String} {b : Addr} {As rest : List Value} {g : JFrame}
    (S : CallFix p m c cc nL s args Ts own) (hM : vx_Met l y ws rm Pc Qc XC mc ms free) (cw : va_CN R s args own index y host bytes maxL none ws rm mc ms n ∧ y.name = "<init>" ∧ (Cond.instanceMethod y).before args s = true) (hp : PreS s H Pc (.ref b :: As))
    (hg : g.method = m) (hn : As.length = n) (hsize : g.locals.size = nL) (hstack : g.stack = As.reverse ++ .ref b :: rest) (hW : 2 * g.monitorRoom + (rest.map fun v => v.category).sum ≤ 8) (hdg : decode cc g.pc = .ok (.invokespecial index, 3)) (hf : cells + mc ≤ R.cells ∧ slots + ms ≤ R.slots) :
    vx_Run p l e R s m args below meth c H locs cells slots mc ms g rest (Qc (Value.ref b :: As).toArray) XC free := by
  obtain ⟨⟨⟨hrc, hrs, hfr, hlo, hws, hcw⟩, hcode, hini, hy, hlen, hl⟩, hx1, hx2⟩ := cw
  have hK : vx_Back l R p e below s args y 3 8 (PreOf R mc ms Pc) (PostOf Qc mc ms free) (vx_Post XC mc ms free) := vx_back (bytes := bytes) (maxL := maxL) (ret := none) hM hp.1 hrc hrs hfr hlo hws hcw (fun a' U hW => word_at hW (Or.inl (by first | rfl | simp [Cond.onTables, Cond.keeps, Cond.steady])) hini)
  obtain ⟨hx, hb, hml, ho, -⟩ := S
  have hPc := hp.2
  intro T hT X
  rcases vx_callIN X hx (bytes := bytes) (maxL := maxL) ho hx1 hl hx2 hcode hy hK hg (hsize.trans hml.symm) (a := b) (argsL := As) (rest := rest) (fun sig h => hn.trans (hlen sig h)) hstack hW (by rw [hb]; exact hdg)
    (fun vm₁ hW₁ => ⟨hf.1, hf.2, hPc (T.setVm vm₁) hT hW₁⟩) with ⟨v, vm₁, ⟨U', l2, c2, s2⟩, hW₁, X', ⟨g', mk, t, L, e1, e2, hq, h1, hL, h2, h3⟩, st⟩ | ⟨q, vm₁, ⟨U', l2, c2, s2⟩, hW₁, X', ⟨g', mk, t, L, E, ce, e1, e2, hq, hce, hcv, hcl, h1, hL, h2, h3⟩, st⟩
  · dsimp only [Pt.U, Pt.locs, Pt.cells, Pt.slots] at X' e1 e2 h1 h2 h3 st
    subst h1; subst h2; subst h3
    exact Or.inl ⟨v, (T.setVm vm₁).calling g' mk (Value.ref b :: As).toArray, t, U', L, hT, X', hL, e1, e2, hq, st⟩
  · dsimp only [Pt.U, Pt.locs, Pt.cells, Pt.slots] at X' e1 e2 h1 h2 h3 st hcl
    subst h1; subst h2; subst h3
    exact Or.inr ⟨q, (T.setVm vm₁).calling g' mk (Value.ref b :: As).toArray, t, U', L, E, ce, hT, X', hL, e1, e2, hq, hce, hcv, vx_cls hW₁ hcl, st⟩
end VXID
/-! ===== END ===== -/
/-! ===== BEGIN a private method of a nest mate that may throw (follows va_callVN, va_callSN, va_runVN, va_runSN) ===== -/
section
variable {p : Program} {l : Launch} {e : Env} {R : Room} {s : State} {m : MethodId} {args : Array Value} {below : List Frame} {meth : Method} {c : Code} {H : Heap} {locs : List Loc} {cells slots : Nat}
variable {T : State}
theorem vx_callVN (X : Stand p l e R s m args below meth c T locs cells slots) (hexec : p.tables.exec = Jvm.exec) {own C : String} {index : Nat} {host : String} {y : MethodName} {bytes : ByteArray} {maxL : Nat} {ret : Option FieldType}
    (hown : s.vm.findClass own = some m.cls) (hlink : (Cond.methodLinkNest own index y host).before args s = true) (hinst : (Cond.instanceMethod y).before args s = true) (hsel : (Cond.selects C y y).before args s = true)
    (hcode : (Cond.code y bytes maxL ret).before args s = true) (hy : y.cls ≠ "java/lang/invoke/MethodHandle" ∧ y.cls ≠ "java/lang/invoke/VarHandle")
    {W : Nat} {Pre : Pt → Array Value → Prop} {Post : Pt → Array Value → Option Value → Pt → Prop} {PostX : Pt → Array Value → Addr → Pt → Prop} (hK : vx_Back l R p e below s args y 3 W Pre Post PostX)
    {b : Addr} {cellB : Cell} (hcell : T.heap[b]? = some cellB) (hobj : cellB.vm.isStatics = false) (hcls : s.vm.findClass C = some cellB.cls)
    {g : JFrame} (hg : g.method = m) (hsize : g.locals.size = c.maxLocals) {argsL rest : List Value} (hlen : ∀ sig, parseMethodDescriptor y.desc = some sig → argsL.length = sig.parameters.length)
    (hstack : g.stack = argsL.reverse ++ .ref b :: rest) (hW : 2 * g.monitorRoom + (rest.map fun v => v.category).sum ≤ W) (hdg : decode c.code g.pc = .ok (.invokevirtual index, 3))
    (hpre : ∀ vm₁, s.WarmedH vm₁ → Pre ⟨T.setVm vm₁, locs, cells, slots⟩ (Value.ref b :: argsL).toArray) :
    (∃ (v : Option Value) (vm₁ : Vm) (B : Pt), s.WarmedH vm₁ ∧ Stand p l e R s m args below meth c B.U B.locs B.cells B.slots ∧ Post ⟨T.setVm vm₁, locs, cells, slots⟩ (Value.ref b :: argsL).toArray v B ∧
      ∀ target, Steps p.tables e below (B.U.setTop { g with pc := g.pc + 3, stack := v.toList ++ rest }) target → Steps p.tables e below (T.setTop g) target) ∨
    (∃ (q : Addr) (vm₁ : Vm) (B : Pt), s.WarmedH vm₁ ∧ Stand p l e R s m args below meth c B.U B.locs B.cells B.slots ∧ PostX ⟨T.setVm vm₁, locs, cells, slots⟩ (Value.ref b :: argsL).toArray q B ∧
      Steps p.tables e below (T.setTop g) ((B.U.setTop { g with stack := rest }).pushFrame (.throwing q))) := by
  obtain ⟨mk, methM, hnamed, hmethM, hstM, habM⟩ := Cond.instanceMethod_spec hinst
  obtain ⟨methM', cM, hmethM', -, -, -, -, -, -, hsigM⟩ := Cond.code_spec hnamed hcode
  cases hmethM.symm.trans hmethM'
  obtain ⟨c2, r2, m2, q1, q2, q3, q4, kP, hkP, hkPi⟩ := Cond.selects_spec hsel
  cases hcls.symm.trans q1
  cases (State.methodFound?_of_named hnamed hy).symm.trans q2
  cases hnamed.symm.trans q3
  have hselP : selectMethod e.platform s.vm cellB.cls mk = .method mk := by rw [Launch.admits_selectMethod X.admits]; exact q4
  obtain ⟨vm₁, X₁, hstep₁⟩ := X.invokevirtualNest hexec hown hlink hnamed hmethM hstM hkP hkPi hy (a := b) (cell := cellB) hcell
    (fun z h => by rw [h] at hobj; cases hobj) hselP hmethM habM hkP hkPi (g := g) hg (argsL := argsL) (rest := rest) (hlen _ hsigM) hstack hdg
  rcases hK m meth c ⟨T.setVm vm₁, locs, cells, slots⟩ { g with stack := rest } (.invokevirtual index) mk (Value.ref b :: argsL).toArray X₁ hg hsize hdg hW (X₁.named hnamed) (hpre vm₁ X₁.warmed) with ⟨v, B, X', hpost, hsteps⟩ | ⟨q, B, X', hpost, hsteps⟩
  · exact Or.inl ⟨v, vm₁, B, X₁.warmed, X', hpost, fun target h => hstep₁ _ fun acts => by rw [doInvoke_state]; exact hsteps.trans h⟩
  · exact Or.inr ⟨q, vm₁, B, X₁.warmed, X', hpost, hstep₁ _ fun acts => by rw [doInvoke_state]; exact hsteps⟩
theorem vx_callSN (X : Stand p l e R s m args below meth c T locs cells slots) (hexec : p.tables.exec = Jvm.exec) {own : String} {index : Nat} {host : String} {y : MethodName} {bytes : ByteArray} {maxL : Nat} {ret : Option FieldType}
    (hown : s.vm.findClass own = some m.cls) (hlink : (Cond.methodLinkNest own index y host).before args s = true) (hstat : (Cond.static y).before args s = true) (hinit : (Cond.initialized y.cls).before args s = true)
    (hcode : (Cond.code y bytes maxL ret).before args s = true) (hy : y.cls ≠ "java/lang/invoke/MethodHandle" ∧ y.cls ≠ "java/lang/invoke/VarHandle")
    {W : Nat} {Pre : Pt → Array Value → Prop} {Post : Pt → Array Value → Option Value → Pt → Prop} {PostX : Pt → Array Value → Addr → Pt → Prop} (hK : vx_Back l R p e below s args y 3 W Pre Post PostX)
    {g : JFrame} (hg : g.method = m) (hsize : g.locals.size = c.maxLocals) {argsL rest : List Value} (hlen : ∀ sig, parseMethodDescriptor y.desc = some sig → argsL.length = sig.parameters.length)
    (hstack : g.stack = argsL.reverse ++ rest) (hW : 2 * g.monitorRoom + (rest.map fun v => v.category).sum ≤ W) (hdg : decode c.code g.pc = .ok (.invokestatic index, 3))
    (hpre : ∀ vm₁, s.WarmedH vm₁ → Pre ⟨T.setVm vm₁, locs, cells, slots⟩ argsL.toArray) :
    (∃ (v : Option Value) (vm₁ : Vm) (B : Pt), s.WarmedH vm₁ ∧ Stand p l e R s m args below meth c B.U B.locs B.cells B.slots ∧ Post ⟨T.setVm vm₁, locs, cells, slots⟩ argsL.toArray v B ∧
      ∀ target, Steps p.tables e below (B.U.setTop { g with pc := g.pc + 3, stack := v.toList ++ rest }) target → Steps p.tables e below (T.setTop g) target) ∨
    (∃ (q : Addr) (vm₁ : Vm) (B : Pt), s.WarmedH vm₁ ∧ Stand p l e R s m args below meth c B.U B.locs B.cells B.slots ∧ PostX ⟨T.setVm vm₁, locs, cells, slots⟩ argsL.toArray q B ∧
      Steps p.tables e below (T.setTop g) ((B.U.setTop { g with stack := rest }).pushFrame (.throwing q))) := by
  obtain ⟨mk, hnamed⟩ := Cond.code_named hcode
  obtain ⟨methM, cM, hmethM, -, -, -, -, -, -, hsigM⟩ := Cond.code_spec hnamed hcode
  have hstatic : methM.isStatic = true := Cond.static_spec hnamed hmethM hstat
  obtain ⟨kP, hkP, -⟩ := className_of_methodNamed hnamed
  have hinitP : kP.init = .initialized := Cond.initialized_spec (findClass_of_methodNamed hnamed) hkP hinit
  obtain ⟨vm₁, X₁, hstep₁⟩ := X.invokestaticNest hexec hown hlink hnamed hmethM hstatic hkP hinitP hy (g := g) hg (argsL := argsL) (rest := rest) (hlen _ hsigM) hstack hdg
  rcases hK m meth c ⟨T.setVm vm₁, locs, cells, slots⟩ { g with stack := rest } (.invokestatic index) mk argsL.toArray X₁ hg hsize hdg hW (X₁.named hnamed) (hpre vm₁ X₁.warmed) with ⟨v, B, X', hpost, hsteps⟩ | ⟨q, B, X', hpost, hsteps⟩
  · exact Or.inl ⟨v, vm₁, B, X₁.warmed, X', hpost, fun target h => hstep₁ _ fun acts => by rw [doInvoke_state]; exact hsteps.trans h⟩
  · exact Or.inr ⟨q, vm₁, B, X₁.warmed, X', hpost, hstep₁ _ fun acts => by rw [doInvoke_state]; exact hsteps⟩
theorem vx_runVN {y : MethodName} {bytes cc : ByteArray} {maxL nL mc ms n index : Nat} {ret : Option FieldType} {ws : List Cond} {rm : Room} {Pc : Array Value → State → Prop} {Qc : Array Value → State → Outcome → State → Prop} {XC : String → State → State → Prop} {free : Addr → Prop} {Ts : List Cond} {own C host : String} {b : Addr} {As rest : List Value} {g : JFrame}
    (S : CallFix p m c cc nL s args Ts own) (hM : vx_Met l y ws rm Pc Qc XC mc ms free) (cw : va_CN R s args own index y host bytes maxL ret ws rm mc ms n ∧ (Cond.instanceMethod y).before args s = true ∧ (Cond.selects C y y).before args s = true) (hp : PreV s H C b Pc As)
    (hg : g.method = m) (hn : As.length = n) (hsize : g.locals.size = nL) (hstack : g.stack = As.reverse ++ .ref b :: rest) (hW : 2 * g.monitorRoom + (rest.map fun v => v.category).sum ≤ 8) (hdg : decode cc g.pc = .ok (.invokevirtual index, 3)) (hf : cells + mc ≤ R.cells ∧ slots + ms ≤ R.slots) :
    vx_Run p l e R s m args below meth c H locs cells slots mc ms g rest (Qc (Value.ref b :: As).toArray) XC free := by
  obtain ⟨⟨⟨hrc, hrs, hfr, hlo, hws, hcw⟩, hcode, hini, hy, hlen, hl⟩, hx1, hx2⟩ := cw
  have hK : vx_Back l R p e below s args y 3 8 (PreOf R mc ms Pc) (PostOf Qc mc ms free) (vx_Post XC mc ms free) := vx_back (bytes := bytes) (maxL := maxL) (ret := ret) hM hp.1 hrc hrs hfr hlo hws hcw (fun a' U hW => word_at hW (Or.inl (by first | rfl | simp [Cond.onTables, Cond.keeps, Cond.steady])) hini)
  obtain ⟨hx, hb, hml, ho, -⟩ := S
  obtain ⟨-, ⟨cellB, hcB, hoB, hclB⟩, hPc⟩ := hp
  intro T hT X
  rcases vx_callVN X hx (C := C) (bytes := bytes) (maxL := maxL) (ret := ret) ho hl hx1 hx2 hcode hy hK (by rw [hT]; exact hcB) hoB hclB hg (hsize.trans hml.symm) (argsL := As) (rest := rest) (fun sig h => hn.trans (hlen sig h)) hstack hW (by rw [hb]; exact hdg)
    (fun vm₁ hW₁ => ⟨hf.1, hf.2, hPc (T.setVm vm₁) hT hW₁⟩) with ⟨v, vm₁, ⟨U', l2, c2, s2⟩, hW₁, X', ⟨g', mk, t, L, e1, e2, hq, h1, hL, h2, h3⟩, st⟩ | ⟨q, vm₁, ⟨U', l2, c2, s2⟩, hW₁, X', ⟨g', mk, t, L, E, ce, e1, e2, hq, hce, hcv, hcl, h1, hL, h2, h3⟩, st⟩
  · dsimp only [Pt.U, Pt.locs, Pt.cells, Pt.slots] at X' e1 e2 h1 h2 h3 st
    subst h1; subst h2; subst h3
    exact Or.inl ⟨v, (T.setVm vm₁).calling g' mk (Value.ref b :: As).toArray, t, U', L, hT, X', hL, e1, e2, hq, st⟩
  · dsimp only [Pt.U, Pt.locs, Pt.cells, Pt.slots] at X' e1 e2 h1 h2 h3 st hcl
    subst h1; subst h2; subst h3
    exact Or.inr ⟨q, (T.setVm vm₁).calling g' mk (Value.ref b :: As).toArray, t, U', L, E, ce, hT, X', hL, e1, e2, hq, hce, hcv, vx_cls hW₁ hcl, st⟩
theorem vx_runSN {y : MethodName} {bytes cc : ByteArray} {maxL nL mc ms n index : Nat} {ret : Option FieldType} {ws : List Cond} {rm : Room} {Pc : Array Value → State → Prop} {Qc : Array Value → State → Outcome → State → Prop} {XC : String → State → State → Prop} {free : Addr → Prop} {Ts : List Cond} {own host : String} {As rest : List Value} {g : JFrame}
    (S : CallFix p m c cc nL s args Ts own) (hM : vx_Met l y ws rm Pc Qc XC mc ms free) (cw : va_CN R s args own index y host bytes maxL ret ws rm mc ms n ∧ (Cond.static y).before args s = true ∧ True) (hp : PreS s H Pc As)
    (hg : g.method = m) (hn : As.length = n) (hsize : g.locals.size = nL) (hstack : g.stack = As.reverse ++ rest) (hW : 2 * g.monitorRoom + (rest.map fun v => v.category).sum ≤ 8) (hdg : decode cc g.pc = .ok (.invokestatic index, 3)) (hf : cells + mc ≤ R.cells ∧ slots + ms ≤ R.slots) :
    vx_Run p l e R s m args below meth c H locs cells slots mc ms g rest (Qc As.toArray) XC free := by
  obtain ⟨⟨⟨hrc, hrs, hfr, hlo, hws, hcw⟩, hcode, hini, hy, hlen, hl⟩, hx1, hx2⟩ := cw
  have hK : vx_Back l R p e below s args y 3 8 (PreOf R mc ms Pc) (PostOf Qc mc ms free) (vx_Post XC mc ms free) := vx_back (bytes := bytes) (maxL := maxL) (ret := ret) hM hp.1 hrc hrs hfr hlo hws hcw (fun a' U hW => word_at hW (Or.inl (by first | rfl | simp [Cond.onTables, Cond.keeps, Cond.steady])) hini)
  obtain ⟨hx, hb, hml, ho, -⟩ := S
  have hPc := hp.2
  intro T hT X
  rcases vx_callSN X hx (bytes := bytes) (maxL := maxL) (ret := ret) ho hl hx1 hini hcode hy hK hg (hsize.trans hml.symm) (argsL := As) (rest := rest) (fun sig h => hn.trans (hlen sig h)) hstack hW (by rw [hb]; exact hdg)
    (fun vm₁ hW₁ => ⟨hf.1, hf.2, hPc (T.setVm vm₁) hT hW₁⟩) with ⟨v, vm₁, ⟨U', l2, c2, s2⟩, hW₁, X', ⟨g', mk, t, L, e1, e2, hq, h1, hL, h2, h3⟩, st⟩ | ⟨q, vm₁, ⟨U', l2, c2, s2⟩, hW₁, X', ⟨g', mk, t, L, E, ce, e1, e2, hq, hce, hcv, hcl, h1, hL, h2, h3⟩, st⟩
  · dsimp only [Pt.U, Pt.locs, Pt.cells, Pt.slots] at X' e1 e2 h1 h2 h3 st
    subst h1; subst h2; subst h3
    exact Or.inl ⟨v, (T.setVm vm₁).calling g' mk As.toArray, t, U', L, hT, X', hL, e1, e2, hq, st⟩
  · dsimp only [Pt.U, Pt.locs, Pt.cells, Pt.slots] at X' e1 e2 h1 h2 h3 st hcl
    subst h1; subst h2; subst h3
    exact Or.inr ⟨q, (T.setVm vm₁).calling g' mk As.toArray, t, U', L, E, ce, hT, X', hL, e1, e2, hq, hce, hcv, vx_cls hW₁ hcl, st⟩
end
/-! ===== END ===== -/
end
section
def RJx4a65c : String := "java/util/ArrayList"
def TJx4a65c : u_T := fun k => match k with
  | 0 => ("java/util/AbstractList", "modCount", "I", false)
  | 1 => ("java/util/ArrayList", "elementData", "[Ljava/lang/Object;", false)
  | _ => ("java/util/ArrayList", "size", "I", false)
def tyJx4a65c : Nat → FieldType := fun k => match k with
  | 0 => .int
  | 1 => .array (.object "java/lang/Object")
  | _ => .int
theorem nmJx4a65c : ∀ a, a < 3 → ∀ b, b < 3 → a ≠ b → (TJx4a65c a).2.1 ≠ (TJx4a65c b).2.1 := by decide +kernel
theorem tyJx4a65c_ok : ∀ k, k < 3 → parseFieldDescriptor (TJx4a65c k).2.2.1 = some (tyJx4a65c k) := by decide +kernel
def RX1 : String := "Hymnwright$Feast"
def TX1 : u_T := fun k => match k with
  | 0 => ("Hymnwright$Feast", "rank", "I", true)
  | 1 => ("Hymnwright$Feast", "isPutOff", "Z", true)
  | 2 => ("Hymnwright$Feast", "month", "I", true)
  | 3 => ("Hymnwright$Feast", "day", "I", true)
  | _ => ("Hymnwright$Feast", "readings", "LHymnwright$Readings;", true)
def tyX1 : Nat → FieldType := fun k => match k with
  | 0 => .int
  | 1 => .boolean
  | 2 => .int
  | 3 => .int
  | _ => .object "Hymnwright$Readings"
theorem nmX1 : ∀ a, a < 5 → ∀ b, b < 5 → a ≠ b → (TX1 a).2.1 ≠ (TX1 b).2.1 := by decide +kernel
theorem tyX1_ok : ∀ k, k < 5 → parseFieldDescriptor (TX1 k).2.2.1 = some (tyX1 k) := by decide +kernel
def RX2 : String := "Hymnwright$Readings"
def TX2 : u_T := fun k => match k with
  | _ => ("Hymnwright$Readings", "themes", "[I", true)
def tyX2 : Nat → FieldType := fun k => match k with
  | _ => .array .int
theorem nmX2 : ∀ a, a < 1 → ∀ b, b < 1 → a ≠ b → (TX2 a).2.1 ≠ (TX2 b).2.1 := by decide +kernel
theorem tyX2_ok : ∀ k, k < 1 → parseFieldDescriptor (TX2 k).2.2.1 = some (tyX2 k) := by decide +kernel
def RX3 : String := "Hymnwright$Rights"
def TX3 : u_T := fun k => match k with
  | 0 => ("Hymnwright$Rights", "died", "I", true)
  | _ => ("Hymnwright$Rights", "isAllowed", "Z", false)
def tyX3 : Nat → FieldType := fun k => match k with
  | 0 => .int
  | _ => .boolean
theorem nmX3 : ∀ a, a < 2 → ∀ b, b < 2 → a ≠ b → (TX3 a).2.1 ≠ (TX3 b).2.1 := by decide +kernel
theorem tyX3_ok : ∀ k, k < 2 → parseFieldDescriptor (TX3 k).2.2.1 = some (tyX3 k) := by decide +kernel
def RX4 : String := "Hymnwright$Rows"
def TX4 : u_T := fun k => match k with
  | 0 => ("Hymnwright$Rows", "lengths", "[I", true)
  | 1 => ("Hymnwright$Rows", "marks", "[I", true)
  | _ => ("Hymnwright$Rows", "count", "I", false)
def tyX4 : Nat → FieldType := fun k => match k with
  | 0 => .array .int
  | 1 => .array .int
  | _ => .int
theorem nmX4 : ∀ a, a < 3 → ∀ b, b < 3 → a ≠ b → (TX4 a).2.1 ≠ (TX4 b).2.1 := by decide +kernel
theorem tyX4_ok : ∀ k, k < 3 → parseFieldDescriptor (TX4 k).2.2.1 = some (tyX4 k) := by decide +kernel
def RX5 : String := "Hymnwright$Service"
def TX5 : u_T := fun k => match k with
  | 0 => ("Hymnwright$Service", "hymn", "LHymnwright$Text;", true)
  | 1 => ("Hymnwright$Service", "itsTune", "LHymnwright$Tune;", true)
  | 2 => ("Hymnwright$Service", "year", "I", true)
  | 3 => ("Hymnwright$Service", "monthAndDay", "I", true)
  | _ => ("Hymnwright$Service", "dayNumber", "I", true)
def tyX5 : Nat → FieldType := fun k => match k with
  | 0 => .object "Hymnwright$Text"
  | 1 => .object "Hymnwright$Tune"
  | 2 => .int
  | 3 => .int
  | _ => .int
theorem nmX5 : ∀ a, a < 5 → ∀ b, b < 5 → a ≠ b → (TX5 a).2.1 ≠ (TX5 b).2.1 := by decide +kernel
theorem tyX5_ok : ∀ k, k < 5 → parseFieldDescriptor (TX5 k).2.2.1 = some (tyX5 k) := by decide +kernel
def RX6 : String := "Hymnwright$Text"
def TX6 : u_T := fun k => match k with
  | 0 => ("Hymnwright$Text", "number", "I", true)
  | 1 => ("Hymnwright$Text", "themes", "I", true)
  | 2 => ("Hymnwright$Text", "rights", "LHymnwright$Rights;", true)
  | _ => ("Hymnwright$Text", "lines", "LHymnwright$Rows;", true)
def tyX6 : Nat → FieldType := fun k => match k with
  | 0 => .int
  | 1 => .int
  | 2 => .object "Hymnwright$Rights"
  | _ => .object "Hymnwright$Rows"
theorem nmX6 : ∀ a, a < 4 → ∀ b, b < 4 → a ≠ b → (TX6 a).2.1 ≠ (TX6 b).2.1 := by decide +kernel
theorem tyX6_ok : ∀ k, k < 4 → parseFieldDescriptor (TX6 k).2.2.1 = some (tyX6 k) := by decide +kernel
def RX7 : String := "Hymnwright$Tune"
def TX7 : u_T := fun k => match k with
  | 0 => ("Hymnwright$Tune", "number", "I", true)
  | 1 => ("Hymnwright$Tune", "low", "I", true)
  | 2 => ("Hymnwright$Tune", "high", "I", true)
  | 3 => ("Hymnwright$Tune", "rights", "LHymnwright$Rights;", true)
  | _ => ("Hymnwright$Tune", "phrases", "LHymnwright$Rows;", true)
def tyX7 : Nat → FieldType := fun k => match k with
  | 0 => .int
  | 1 => .int
  | 2 => .int
  | 3 => .object "Hymnwright$Rights"
  | _ => .object "Hymnwright$Rows"
theorem nmX7 : ∀ a, a < 5 → ∀ b, b < 5 → a ≠ b → (TX7 a).2.1 ≠ (TX7 b).2.1 := by decide +kernel
theorem tyX7_ok : ∀ k, k < 5 → parseFieldDescriptor (TX7 k).2.2.1 = some (tyX7 k) := by decide +kernel
def RX8 : String := "Hymnwright$YearPlan"
def TX8 : u_T := fun k => match k with
  | 0 => ("Hymnwright$YearPlan", "feastOfDay", "[I", true)
  | 1 => ("Hymnwright$YearPlan", "dayOfFeast", "[I", true)
  | 2 => ("Hymnwright$YearPlan", "year", "I", false)
  | 3 => ("Hymnwright$YearPlan", "weekdayOfFirst", "I", false)
  | _ => ("Hymnwright$YearPlan", "sundayRank", "I", false)
def tyX8 : Nat → FieldType := fun k => match k with
  | 0 => .array .int
  | 1 => .array .int
  | 2 => .int
  | 3 => .int
  | _ => .int
theorem nmX8 : ∀ a, a < 5 → ∀ b, b < 5 → a ≠ b → (TX8 a).2.1 ≠ (TX8 b).2.1 := by decide +kernel
theorem tyX8_ok : ∀ k, k < 5 → parseFieldDescriptor (TX8 k).2.2.1 = some (tyX8 k) := by decide +kernel
def RX9 : String := "Hymnwright"
def TX9 : u_T := fun k => match k with
  | 0 => ("Hymnwright", "texts", "Ljava/util/ArrayList;", true)
  | 1 => ("Hymnwright", "tunes", "Ljava/util/ArrayList;", true)
  | 2 => ("Hymnwright", "feasts", "Ljava/util/ArrayList;", true)
  | 3 => ("Hymnwright", "services", "Ljava/util/ArrayList;", true)
  | 4 => ("Hymnwright", "sundayReadings", "LHymnwright$Readings;", true)
  | 5 => ("Hymnwright", "plan", "LHymnwright$YearPlan;", true)
  | _ => ("Hymnwright", "sundayRank", "I", false)
def tyX9 : Nat → FieldType := fun k => match k with
  | 0 => .object "java/util/ArrayList"
  | 1 => .object "java/util/ArrayList"
  | 2 => .object "java/util/ArrayList"
  | 3 => .object "java/util/ArrayList"
  | 4 => .object "Hymnwright$Readings"
  | 5 => .object "Hymnwright$YearPlan"
  | _ => .int
theorem nmX9 : ∀ a, a < 7 → ∀ b, b < 7 → a ≠ b → (TX9 a).2.1 ≠ (TX9 b).2.1 := by decide +kernel
theorem tyX9_ok : ∀ k, k < 7 → parseFieldDescriptor (TX9 k).2.2.1 = some (tyX9 k) := by decide +kernel
def RX10 : String := "HymnwrightModel"
def TX10 : u_T := fun k => match k with
  | 0 => ("HymnwrightModel", "texts", "I", false)
  | 1 => ("HymnwrightModel", "textDied", "[I", true)
  | 2 => ("HymnwrightModel", "themes", "[I", true)
  | 3 => ("HymnwrightModel", "textAllowed", "[Z", true)
  | 4 => ("HymnwrightModel", "lines", "[I", true)
  | 5 => ("HymnwrightModel", "syllables", "[I", true)
  | 6 => ("HymnwrightModel", "stressed", "[I", true)
  | 7 => ("HymnwrightModel", "tunes", "I", false)
  | 8 => ("HymnwrightModel", "tuneDied", "[I", true)
  | 9 => ("HymnwrightModel", "tuneAllowed", "[Z", true)
  | 10 => ("HymnwrightModel", "lowest", "[I", true)
  | 11 => ("HymnwrightModel", "highest", "[I", true)
  | 12 => ("HymnwrightModel", "phrases", "[I", true)
  | 13 => ("HymnwrightModel", "notes", "[I", true)
  | 14 => ("HymnwrightModel", "strong", "[I", true)
  | 15 => ("HymnwrightModel", "feasts", "I", false)
  | 16 => ("HymnwrightModel", "ranks", "[I", true)
  | 17 => ("HymnwrightModel", "isPutOff", "[Z", true)
  | 18 => ("HymnwrightModel", "isMoving", "[Z", true)
  | 19 => ("HymnwrightModel", "months", "[I", true)
  | 20 => ("HymnwrightModel", "days", "[I", true)
  | 21 => ("HymnwrightModel", "sundays", "I", false)
  | 22 => ("HymnwrightModel", "readings", "[I", true)
  | 23 => ("HymnwrightModel", "put", "[I", true)
  | 24 => ("HymnwrightModel", "place", "[I", true)
  | 25 => ("HymnwrightModel", "services", "I", false)
  | 26 => ("HymnwrightModel", "sungText", "[I", true)
  | 27 => ("HymnwrightModel", "sungTune", "[I", true)
  | 28 => ("HymnwrightModel", "sungYear", "[I", true)
  | 29 => ("HymnwrightModel", "sungPlace", "[I", true)
  | _ => ("HymnwrightModel", "thrown", "I", false)
def tyX10 : Nat → FieldType := fun k => match k with
  | 0 => .int
  | 1 => .array .int
  | 2 => .array .int
  | 3 => .array .boolean
  | 4 => .array .int
  | 5 => .array .int
  | 6 => .array .int
  | 7 => .int
  | 8 => .array .int
  | 9 => .array .boolean
  | 10 => .array .int
  | 11 => .array .int
  | 12 => .array .int
  | 13 => .array .int
  | 14 => .array .int
  | 15 => .int
  | 16 => .array .int
  | 17 => .array .boolean
  | 18 => .array .boolean
  | 19 => .array .int
  | 20 => .array .int
  | 21 => .int
  | 22 => .array .int
  | 23 => .array .int
  | 24 => .array .int
  | 25 => .int
  | 26 => .array .int
  | 27 => .array .int
  | 28 => .array .int
  | 29 => .array .int
  | _ => .int
theorem nmX10 : ∀ a, a < 31 → ∀ b, b < 31 → a ≠ b → (TX10 a).2.1 ≠ (TX10 b).2.1 := by decide +kernel
theorem tyX10_ok : ∀ k, k < 31 → parseFieldDescriptor (TX10 k).2.2.1 = some (tyX10 k) := by decide +kernel
def RX0 : String := "Hymnwright$Days"
def RJxa1e45 : String := "java/util/AbstractCollection"
def RJxc12de : String := "java/util/AbstractList"
def RJ6 : String := "java/lang/Integer"
def RJ7 : String := "java/util/Arrays"
def RJ8 : String := "jdk/internal/util/ArraysSupport"
def RJ9 : String := "java/lang/Math"
def RJ3 : String := "jdk/internal/util/Preconditions"
def RJ15 : String := "java/util/Objects"
def RL : String := "HymnwrightLaw"
abbrev cX0_isLeap : ByteArray := prog_2_method_2_code
def yX0_isLeap : MethodName := ⟨RX0, "isLeap", "(I)Z"⟩
abbrev cX0_yearLength : ByteArray := prog_2_method_3_code
def yX0_yearLength : MethodName := ⟨RX0, "yearLength", "(I)I"⟩
abbrev cX0_monthLength : ByteArray := prog_2_method_4_code
def yX0_monthLength : MethodName := ⟨RX0, "monthLength", "(II)I"⟩
abbrev cX0_dayOfYear : ByteArray := prog_2_method_5_code
def yX0_dayOfYear : MethodName := ⟨RX0, "dayOfYear", "(III)I"⟩
abbrev cX0_monthAndDay : ByteArray := prog_2_method_6_code
def yX0_monthAndDay : MethodName := ⟨RX0, "monthAndDay", "(II)I"⟩
abbrev cX0_dayNumber : ByteArray := prog_2_method_7_code
def yX0_dayNumber : MethodName := ⟨RX0, "dayNumber", "(II)I"⟩
abbrev cX0_dayOfWeek : ByteArray := prog_2_method_8_code
def yX0_dayOfWeek : MethodName := ⟨RX0, "dayOfWeek", "(II)I"⟩
abbrev cX0_easterAsDayOfMarch : ByteArray := prog_2_method_9_code
def yX0_easterAsDayOfMarch : MethodName := ⟨RX0, "easterAsDayOfMarch", "(I)I"⟩
abbrev cX0_easterByRests : ByteArray := prog_2_method_10_code
def yX0_easterByRests : MethodName := ⟨RX0, "easterByRests", "(I)I"⟩
abbrev cX1_init : ByteArray := prog_3_method_1_code
def yX1_init : MethodName := ⟨RX1, "<init>", "(IZII)V"⟩
abbrev cX1_ownDay : ByteArray := prog_3_method_2_code
def yX1_ownDay : MethodName := ⟨RX1, "ownDay", "(I)I"⟩
abbrev cX2_init : ByteArray := prog_4_method_1_code
def yX2_init : MethodName := ⟨RX2, "<init>", "()V"⟩
abbrev cX2_themeIn : ByteArray := prog_4_method_2_code
def yX2_themeIn : MethodName := ⟨RX2, "themeIn", "(I)I"⟩
abbrev cX2_replace : ByteArray := prog_4_method_3_code
def yX2_replace : MethodName := ⟨RX2, "replace", "(II)I"⟩
abbrev cX3_init : ByteArray := prog_5_method_1_code
def yX3_init : MethodName := ⟨RX3, "<init>", "(I)V"⟩
abbrev cX3_setAllowed : ByteArray := prog_5_method_2_code
def yX3_setAllowed : MethodName := ⟨RX3, "setAllowed", "(Z)Z"⟩
abbrev cX3_isFreeIn : ByteArray := prog_5_method_3_code
def yX3_isFreeIn : MethodName := ⟨RX3, "isFreeIn", "(I)Z"⟩
abbrev cX4_init : ByteArray := prog_6_method_1_code
def yX4_init : MethodName := ⟨RX4, "<init>", "()V"⟩
abbrev cX4_append : ByteArray := prog_6_method_2_code
def yX4_append : MethodName := ⟨RX4, "append", "(II)V"⟩
abbrev cX4_lengthAt : ByteArray := prog_6_method_3_code
def yX4_lengthAt : MethodName := ⟨RX4, "lengthAt", "(I)I"⟩
abbrev cX4_marksAt : ByteArray := prog_6_method_4_code
def yX4_marksAt : MethodName := ⟨RX4, "marksAt", "(I)I"⟩
abbrev cX4_hasMetreOf : ByteArray := prog_6_method_5_code
def yX4_hasMetreOf : MethodName := ⟨RX4, "hasMetreOf", "(LHymnwright$Rows;)Z"⟩
abbrev cX4_hasMetreFrom : ByteArray := prog_6_method_6_code
def yX4_hasMetreFrom : MethodName := ⟨RX4, "hasMetreFrom", "(ILHymnwright$Rows;)Z"⟩
abbrev cX5_init : ByteArray := prog_7_method_1_code
def yX5_init : MethodName := ⟨RX5, "<init>", "(LHymnwright$Text;LHymnwright$Tune;III)V"⟩
abbrev cX6_init : ByteArray := prog_8_method_1_code
def yX6_init : MethodName := ⟨RX6, "<init>", "(III)V"⟩
abbrev cX6_hasTheme : ByteArray := prog_8_method_2_code
def yX6_hasTheme : MethodName := ⟨RX6, "hasTheme", "(I)Z"⟩
abbrev cX7_init : ByteArray := prog_9_method_1_code
def yX7_init : MethodName := ⟨RX7, "<init>", "(IIII)V"⟩
abbrev cX8_init : ByteArray := prog_10_method_1_code
def yX8_init : MethodName := ⟨RX8, "<init>", "()V"⟩
abbrev cX8_layOut : ByteArray := prog_10_method_2_code
def yX8_layOut : MethodName := ⟨RX8, "layOut", "(ILjava/util/ArrayList;I)V"⟩
abbrev cX8_put : ByteArray := prog_10_method_3_code
def yX8_put : MethodName := ⟨RX8, "put", "(ILHymnwright$Feast;)V"⟩
abbrev cX8_isOpen : ByteArray := prog_10_method_4_code
def yX8_isOpen : MethodName := ⟨RX8, "isOpen", "(II)Z"⟩
abbrev cX8_isSunday : ByteArray := prog_10_method_5_code
def yX8_isSunday : MethodName := ⟨RX8, "isSunday", "(I)Z"⟩
abbrev cX8_keptOn : ByteArray := prog_10_method_6_code
def yX8_keptOn : MethodName := ⟨RX8, "keptOn", "(I)I"⟩
abbrev cX8_dayOfFeast : ByteArray := prog_10_method_7_code
def yX8_dayOfFeast : MethodName := ⟨RX8, "dayOfFeast", "(I)I"⟩
abbrev cX9_init : ByteArray := prog_1_method_1_code
def yX9_init : MethodName := ⟨RX9, "<init>", "()V"⟩
abbrev cX9_text : ByteArray := prog_1_method_2_code
def yX9_text : MethodName := ⟨RX9, "text", "(II)I"⟩
abbrev cX9_line : ByteArray := prog_1_method_3_code
def yX9_line : MethodName := ⟨RX9, "line", "(III)I"⟩
abbrev cX9_tune : ByteArray := prog_1_method_4_code
def yX9_tune : MethodName := ⟨RX9, "tune", "(III)I"⟩
abbrev cX9_phrase : ByteArray := prog_1_method_5_code
def yX9_phrase : MethodName := ⟨RX9, "phrase", "(III)I"⟩
abbrev cX9_fits : ByteArray := prog_1_method_6_code
def yX9_fits : MethodName := ⟨RX9, "fits", "(II)I"⟩
abbrev cX9_clashes : ByteArray := prog_1_method_7_code
def yX9_clashes : MethodName := ⟨RX9, "clashes", "(II)I"⟩
abbrev cX9_best : ByteArray := prog_1_method_8_code
def yX9_best : MethodName := ⟨RX9, "best", "(I)I"⟩
abbrev cX9_alike : ByteArray := prog_1_method_9_code
def yX9_alike : MethodName := ⟨RX9, "alike", "(I)I"⟩
abbrev cX9_metres : ByteArray := prog_1_method_10_code
def yX9_metres : MethodName := ⟨RX9, "metres", "()I"⟩
abbrev cX9_allowText : ByteArray := prog_1_method_11_code
def yX9_allowText : MethodName := ⟨RX9, "allowText", "(IZ)Z"⟩
abbrev cX9_allowTune : ByteArray := prog_1_method_12_code
def yX9_allowTune : MethodName := ⟨RX9, "allowTune", "(IZ)Z"⟩
abbrev cX9_shift : ByteArray := prog_1_method_13_code
def yX9_shift : MethodName := ⟨RX9, "shift", "(III)I"⟩
abbrev cX9_easter : ByteArray := prog_1_method_14_code
def yX9_easter : MethodName := ⟨RX9, "easter", "(I)I"⟩
abbrev cX9_easterAnew : ByteArray := prog_1_method_15_code
def yX9_easterAnew : MethodName := ⟨RX9, "easterAnew", "(I)I"⟩
abbrev cX9_weekday : ByteArray := prog_1_method_16_code
def yX9_weekday : MethodName := ⟨RX9, "weekday", "(III)I"⟩
abbrev cX9_feast : ByteArray := prog_1_method_17_code
def yX9_feast : MethodName := ⟨RX9, "feast", "(IZII)I"⟩
abbrev cX9_moving : ByteArray := prog_1_method_18_code
def yX9_moving : MethodName := ⟨RX9, "moving", "(IZI)I"⟩
abbrev cX9_sundays : ByteArray := prog_1_method_19_code
def yX9_sundays : MethodName := ⟨RX9, "sundays", "(I)I"⟩
abbrev cX9_reading : ByteArray := prog_1_method_20_code
def yX9_reading : MethodName := ⟨RX9, "reading", "(III)I"⟩
abbrev cX9_kept : ByteArray := prog_1_method_21_code
def yX9_kept : MethodName := ⟨RX9, "kept", "(III)I"⟩
abbrev cX9_when : ByteArray := prog_1_method_22_code
def yX9_when : MethodName := ⟨RX9, "when", "(II)I"⟩
abbrev cX9_whenAnew : ByteArray := prog_1_method_23_code
def yX9_whenAnew : MethodName := ⟨RX9, "whenAnew", "(II)I"⟩
abbrev cX9_theme : ByteArray := prog_1_method_24_code
def yX9_theme : MethodName := ⟨RX9, "theme", "(III)I"⟩
abbrev cX9_why : ByteArray := prog_1_method_25_code
def yX9_why : MethodName := ⟨RX9, "why", "(IIII)I"⟩
abbrev cX9_sing : ByteArray := prog_1_method_26_code
def yX9_sing : MethodName := ⟨RX9, "sing", "(III)I"⟩
abbrev cX9_service : ByteArray := prog_1_method_27_code
def yX9_service : MethodName := ⟨RX9, "service", "(II)I"⟩
abbrev cX9_sung : ByteArray := prog_1_method_28_code
def yX9_sung : MethodName := ⟨RX9, "sung", "(I)I"⟩
abbrev cX9_requireRange : ByteArray := prog_1_method_29_code
def yX9_requireRange : MethodName := ⟨RX9, "requireRange", "(III)V"⟩
abbrev cX9_requireDay : ByteArray := prog_1_method_30_code
def yX9_requireDay : MethodName := ⟨RX9, "requireDay", "(III)V"⟩
abbrev cX9_requireIndex : ByteArray := prog_1_method_31_code
def yX9_requireIndex : MethodName := ⟨RX9, "requireIndex", "(II)V"⟩
abbrev cX9_textAt : ByteArray := prog_1_method_32_code
def yX9_textAt : MethodName := ⟨RX9, "textAt", "(I)LHymnwright$Text;"⟩
abbrev cX9_tuneAt : ByteArray := prog_1_method_33_code
def yX9_tuneAt : MethodName := ⟨RX9, "tuneAt", "(I)LHymnwright$Tune;"⟩
abbrev cX9_feastAt : ByteArray := prog_1_method_34_code
def yX9_feastAt : MethodName := ⟨RX9, "feastAt", "(I)LHymnwright$Feast;"⟩
abbrev cX9_addRow : ByteArray := prog_1_method_35_code
def yX9_addRow : MethodName := ⟨RX9, "addRow", "(LHymnwright$Rows;II)I"⟩
abbrev cX9_addFeast : ByteArray := prog_1_method_36_code
def yX9_addFeast : MethodName := ⟨RX9, "addFeast", "(LHymnwright$Feast;)I"⟩
abbrev cX9_timesThrough : ByteArray := prog_1_method_37_code
def yX9_timesThrough : MethodName := ⟨RX9, "timesThrough", "(LHymnwright$Text;LHymnwright$Tune;)I"⟩
abbrev cX9_countClashes : ByteArray := prog_1_method_38_code
def yX9_countClashes : MethodName := ⟨RX9, "countClashes", "(LHymnwright$Text;LHymnwright$Tune;)I"⟩
abbrev cX9_bestTune : ByteArray := prog_1_method_39_code
def yX9_bestTune : MethodName := ⟨RX9, "bestTune", "(LHymnwright$Text;ZI)LHymnwright$Tune;"⟩
abbrev cX9_isFirstOfItsMetre : ByteArray := prog_1_method_40_code
def yX9_isFirstOfItsMetre : MethodName := ⟨RX9, "isFirstOfItsMetre", "(LHymnwright$Tune;)Z"⟩
abbrev cX9_themeOf : ByteArray := prog_1_method_41_code
def yX9_themeOf : MethodName := ⟨RX9, "themeOf", "(II)I"⟩
abbrev cX9_reasonAgainst : ByteArray := prog_1_method_42_code
def yX9_reasonAgainst : MethodName := ⟨RX9, "reasonAgainst", "(LHymnwright$Text;III)I"⟩
abbrev cX9_wasSungLately : ByteArray := prog_1_method_43_code
def yX9_wasSungLately : MethodName := ⟨RX9, "wasSungLately", "(LHymnwright$Text;I)Z"⟩
abbrev cX9_chooseText : ByteArray := prog_1_method_44_code
def yX9_chooseText : MethodName := ⟨RX9, "chooseText", "(III)LHymnwright$Text;"⟩
abbrev cX9_countServices : ByteArray := prog_1_method_45_code
def yX9_countServices : MethodName := ⟨RX9, "countServices", "(LHymnwright$Text;)I"⟩
abbrev cX9_isBehindLatestService : ByteArray := prog_1_method_46_code
def yX9_isBehindLatestService : MethodName := ⟨RX9, "isBehindLatestService", "(I)Z"⟩
abbrev cX10_init : ByteArray := prog_12_method_1_code
def yX10_init : MethodName := ⟨RX10, "<init>", "()V"⟩
abbrev cX10_thrown : ByteArray := prog_12_method_2_code
def yX10_thrown : MethodName := ⟨RX10, "thrown", "()I"⟩
abbrev cX10_isIn : ByteArray := prog_12_method_3_code
def yX10_isIn : MethodName := ⟨RX10, "isIn", "(III)Z"⟩
abbrev cX10_isDeath : ByteArray := prog_12_method_4_code
def yX10_isDeath : MethodName := ⟨RX10, "isDeath", "(I)Z"⟩
abbrev cX10_isText : ByteArray := prog_12_method_5_code
def yX10_isText : MethodName := ⟨RX10, "isText", "(I)Z"⟩
abbrev cX10_isTune : ByteArray := prog_12_method_6_code
def yX10_isTune : MethodName := ⟨RX10, "isTune", "(I)Z"⟩
abbrev cX10_text : ByteArray := prog_12_method_7_code
def yX10_text : MethodName := ⟨RX10, "text", "(II)I"⟩
abbrev cX10_isLine : ByteArray := prog_12_method_8_code
def yX10_isLine : MethodName := ⟨RX10, "isLine", "(II)Z"⟩
abbrev cX10_line : ByteArray := prog_12_method_9_code
def yX10_line : MethodName := ⟨RX10, "line", "(III)I"⟩
abbrev cX10_tune : ByteArray := prog_12_method_10_code
def yX10_tune : MethodName := ⟨RX10, "tune", "(III)I"⟩
abbrev cX10_phrase : ByteArray := prog_12_method_11_code
def yX10_phrase : MethodName := ⟨RX10, "phrase", "(III)I"⟩
abbrev cX10_fit : ByteArray := prog_12_method_12_code
def yX10_fit : MethodName := ⟨RX10, "fit", "(II)I"⟩
abbrev cX10_fits : ByteArray := prog_12_method_13_code
def yX10_fits : MethodName := ⟨RX10, "fits", "(II)I"⟩
abbrev cX10_clash : ByteArray := prog_12_method_14_code
def yX10_clash : MethodName := ⟨RX10, "clash", "(II)I"⟩
abbrev cX10_clashes : ByteArray := prog_12_method_15_code
def yX10_clashes : MethodName := ⟨RX10, "clashes", "(II)I"⟩
abbrev cX10_isTuneFree : ByteArray := prog_12_method_16_code
def yX10_isTuneFree : MethodName := ⟨RX10, "isTuneFree", "(II)Z"⟩
abbrev cX10_bestOf : ByteArray := prog_12_method_17_code
def yX10_bestOf : MethodName := ⟨RX10, "bestOf", "(IZI)I"⟩
abbrev cX10_best : ByteArray := prog_12_method_18_code
def yX10_best : MethodName := ⟨RX10, "best", "(I)I"⟩
abbrev cX10_areAlike : ByteArray := prog_12_method_19_code
def yX10_areAlike : MethodName := ⟨RX10, "areAlike", "(II)Z"⟩
abbrev cX10_alike : ByteArray := prog_12_method_20_code
def yX10_alike : MethodName := ⟨RX10, "alike", "(I)I"⟩
abbrev cX10_metres : ByteArray := prog_12_method_21_code
def yX10_metres : MethodName := ⟨RX10, "metres", "()I"⟩
abbrev cX10_allowText : ByteArray := prog_12_method_22_code
def yX10_allowText : MethodName := ⟨RX10, "allowText", "(IZ)Z"⟩
abbrev cX10_allowTune : ByteArray := prog_12_method_23_code
def yX10_allowTune : MethodName := ⟨RX10, "allowTune", "(IZ)Z"⟩
abbrev cX10_shift : ByteArray := prog_12_method_24_code
def yX10_shift : MethodName := ⟨RX10, "shift", "(III)I"⟩
abbrev cX10_isYear : ByteArray := prog_12_method_25_code
def yX10_isYear : MethodName := ⟨RX10, "isYear", "(I)Z"⟩
abbrev cX10_isLong : ByteArray := prog_12_method_26_code
def yX10_isLong : MethodName := ⟨RX10, "isLong", "(I)Z"⟩
abbrev cX10_daysOf : ByteArray := prog_12_method_27_code
def yX10_daysOf : MethodName := ⟨RX10, "daysOf", "(II)I"⟩
abbrev cX10_isDay : ByteArray := prog_12_method_28_code
def yX10_isDay : MethodName := ⟨RX10, "isDay", "(III)Z"⟩
abbrev cX10_placeOf : ByteArray := prog_12_method_29_code
def yX10_placeOf : MethodName := ⟨RX10, "placeOf", "(III)I"⟩
abbrev cX10_dateOf : ByteArray := prog_12_method_30_code
def yX10_dateOf : MethodName := ⟨RX10, "dateOf", "(II)I"⟩
abbrev cX10_lengthOf : ByteArray := prog_12_method_31_code
def yX10_lengthOf : MethodName := ⟨RX10, "lengthOf", "(I)I"⟩
abbrev cX10_before : ByteArray := prog_12_method_32_code
def yX10_before : MethodName := ⟨RX10, "before", "(I)I"⟩
abbrev cX10_weekdayOf : ByteArray := prog_12_method_33_code
def yX10_weekdayOf : MethodName := ⟨RX10, "weekdayOf", "(II)I"⟩
abbrev cX10_easterOf : ByteArray := prog_12_method_34_code
def yX10_easterOf : MethodName := ⟨RX10, "easterOf", "(I)I"⟩
abbrev cX10_tellsEaster : ByteArray := prog_12_method_35_code
def yX10_tellsEaster : MethodName := ⟨RX10, "tellsEaster", "(I)I"⟩
abbrev cX10_easter : ByteArray := prog_12_method_36_code
def yX10_easter : MethodName := ⟨RX10, "easter", "(I)I"⟩
abbrev cX10_easterAnew : ByteArray := prog_12_method_37_code
def yX10_easterAnew : MethodName := ⟨RX10, "easterAnew", "(I)I"⟩
abbrev cX10_weekday : ByteArray := prog_12_method_38_code
def yX10_weekday : MethodName := ⟨RX10, "weekday", "(III)I"⟩
abbrev cX10_isRank : ByteArray := prog_12_method_39_code
def yX10_isRank : MethodName := ⟨RX10, "isRank", "(I)Z"⟩
abbrev cX10_adds : ByteArray := prog_12_method_40_code
def yX10_adds : MethodName := ⟨RX10, "adds", "(IZZII)I"⟩
abbrev cX10_feast : ByteArray := prog_12_method_41_code
def yX10_feast : MethodName := ⟨RX10, "feast", "(IZII)I"⟩
abbrev cX10_moving : ByteArray := prog_12_method_42_code
def yX10_moving : MethodName := ⟨RX10, "moving", "(IZI)I"⟩
abbrev cX10_sundays : ByteArray := prog_12_method_43_code
def yX10_sundays : MethodName := ⟨RX10, "sundays", "(I)I"⟩
abbrev cX10_readingsFrom : ByteArray := prog_12_method_44_code
def yX10_readingsFrom : MethodName := ⟨RX10, "readingsFrom", "(I)I"⟩
abbrev cX10_reading : ByteArray := prog_12_method_45_code
def yX10_reading : MethodName := ⟨RX10, "reading", "(III)I"⟩
abbrev cX10_ownDay : ByteArray := prog_12_method_46_code
def yX10_ownDay : MethodName := ⟨RX10, "ownDay", "(II)I"⟩
abbrev cX10_isOpen : ByteArray := prog_12_method_47_code
def yX10_isOpen : MethodName := ⟨RX10, "isOpen", "(III)Z"⟩
abbrev cX10_puts : ByteArray := prog_12_method_48_code
def yX10_puts : MethodName := ⟨RX10, "puts", "(II)V"⟩
abbrev cX10_laysYear : ByteArray := prog_12_method_49_code
def yX10_laysYear : MethodName := ⟨RX10, "laysYear", "(I)V"⟩
abbrev cX10_keptOn : ByteArray := prog_12_method_50_code
def yX10_keptOn : MethodName := ⟨RX10, "keptOn", "(II)I"⟩
abbrev cX10_kept : ByteArray := prog_12_method_51_code
def yX10_kept : MethodName := ⟨RX10, "kept", "(III)I"⟩
abbrev cX10_tellsWhen : ByteArray := prog_12_method_52_code
def yX10_tellsWhen : MethodName := ⟨RX10, "tellsWhen", "(II)I"⟩
abbrev cX10_when : ByteArray := prog_12_method_53_code
def yX10_when : MethodName := ⟨RX10, "when", "(II)I"⟩
abbrev cX10_whenAnew : ByteArray := prog_12_method_54_code
def yX10_whenAnew : MethodName := ⟨RX10, "whenAnew", "(II)I"⟩
abbrev cX10_themeOn : ByteArray := prog_12_method_55_code
def yX10_themeOn : MethodName := ⟨RX10, "themeOn", "(II)I"⟩
abbrev cX10_theme : ByteArray := prog_12_method_56_code
def yX10_theme : MethodName := ⟨RX10, "theme", "(III)I"⟩
abbrev cX10_wasLately : ByteArray := prog_12_method_57_code
def yX10_wasLately : MethodName := ⟨RX10, "wasLately", "(III)Z"⟩
abbrev cX10_reason : ByteArray := prog_12_method_58_code
def yX10_reason : MethodName := ⟨RX10, "reason", "(IIII)I"⟩
abbrev cX10_why : ByteArray := prog_12_method_59_code
def yX10_why : MethodName := ⟨RX10, "why", "(IIII)I"⟩
abbrev cX10_times : ByteArray := prog_12_method_60_code
def yX10_times : MethodName := ⟨RX10, "times", "(I)I"⟩
abbrev cX10_hymn : ByteArray := prog_12_method_61_code
def yX10_hymn : MethodName := ⟨RX10, "hymn", "(III)I"⟩
abbrev cX10_isLater : ByteArray := prog_12_method_62_code
def yX10_isLater : MethodName := ⟨RX10, "isLater", "(II)Z"⟩
abbrev cX10_sing : ByteArray := prog_12_method_63_code
def yX10_sing : MethodName := ⟨RX10, "sing", "(III)I"⟩
abbrev cX10_service : ByteArray := prog_12_method_64_code
def yX10_service : MethodName := ⟨RX10, "service", "(II)I"⟩
abbrev cX10_sung : ByteArray := prog_12_method_65_code
def yX10_sung : MethodName := ⟨RX10, "sung", "(I)I"⟩
abbrev cJ6_bitCount_0f7a4 : ByteArray := prog_19_method_49_code
def yJ6_bitCount_0f7a4 : MethodName := ⟨RJ6, "bitCount", "(I)I"⟩
abbrev cJ9_max_7cf53 : ByteArray := prog_21_method_65_code
def yJ9_max_7cf53 : MethodName := ⟨RJ9, "max", "(II)I"⟩
abbrev cJ9_min_7cf53 : ByteArray := prog_21_method_69_code
def yJ9_min_7cf53 : MethodName := ⟨RJ9, "min", "(II)I"⟩
abbrev cJxa1e45_init_da8c8 : ByteArray := prog_26_method_1_code
def yJxa1e45_init_da8c8 : MethodName := ⟨RJxa1e45, "<init>", "()V"⟩
abbrev cJxc12de_init_da8c8 : ByteArray := prog_27_method_1_code
def yJxc12de_init_da8c8 : MethodName := ⟨RJxc12de, "<init>", "()V"⟩
abbrev cJx4a65c_init_da8c8 : ByteArray := prog_28_method_2_code
def yJx4a65c_init_da8c8 : MethodName := ⟨RJx4a65c, "<init>", "()V"⟩
abbrev cJx4a65c_grow_92f84 : ByteArray := prog_28_method_6_code
def yJx4a65c_grow_92f84 : MethodName := ⟨RJx4a65c, "grow", "(I)[Ljava/lang/Object;"⟩
abbrev cJx4a65c_grow_d5877 : ByteArray := prog_28_method_7_code
def yJx4a65c_grow_d5877 : MethodName := ⟨RJx4a65c, "grow", "()[Ljava/lang/Object;"⟩
abbrev cJx4a65c_size_8abf5 : ByteArray := prog_28_method_8_code
def yJx4a65c_size_8abf5 : MethodName := ⟨RJx4a65c, "size", "()I"⟩
abbrev cJx4a65c_isEmpty_aae02 : ByteArray := prog_28_method_9_code
def yJx4a65c_isEmpty_aae02 : MethodName := ⟨RJx4a65c, "isEmpty", "()Z"⟩
abbrev cJx4a65c_elementData_915e3 : ByteArray := prog_28_method_18_code
def yJx4a65c_elementData_915e3 : MethodName := ⟨RJx4a65c, "elementData", "(I)Ljava/lang/Object;"⟩
abbrev cJx4a65c_get_915e3 : ByteArray := prog_28_method_20_code
def yJx4a65c_get_915e3 : MethodName := ⟨RJx4a65c, "get", "(I)Ljava/lang/Object;"⟩
abbrev cJx4a65c_add_72be8 : ByteArray := prog_28_method_24_code
def yJx4a65c_add_72be8 : MethodName := ⟨RJx4a65c, "add", "(Ljava/lang/Object;[Ljava/lang/Object;I)V"⟩
abbrev cJx4a65c_add_9ea2d : ByteArray := prog_28_method_25_code
def yJx4a65c_add_9ea2d : MethodName := ⟨RJx4a65c, "add", "(Ljava/lang/Object;)Z"⟩
abbrev cJ7_fill_53178 : ByteArray := prog_29_method_103_code
def yJ7_fill_53178 : MethodName := ⟨RJ7, "fill", "([II)V"⟩
abbrev cJ7_copyOf_1904c : ByteArray := prog_29_method_119_code
def yJ7_copyOf_1904c : MethodName := ⟨RJ7, "copyOf", "([Ljava/lang/Object;I)[Ljava/lang/Object;"⟩
abbrev cJ7_copyOf_6403c : ByteArray := prog_29_method_120_code
def yJ7_copyOf_6403c : MethodName := ⟨RJ7, "copyOf", "([Ljava/lang/Object;ILjava/lang/Class;)[Ljava/lang/Object;"⟩
abbrev cJ15_checkIndex_7cf53 : ByteArray := prog_32_method_17_code
def yJ15_checkIndex_7cf53 : MethodName := ⟨RJ15, "checkIndex", "(II)I"⟩
abbrev cJ8_newLength_cabcc : ByteArray := prog_35_method_27_code
def yJ8_newLength_cabcc : MethodName := ⟨RJ8, "newLength", "(III)I"⟩
abbrev cJ8_hugeLength_7cf53 : ByteArray := prog_35_method_28_code
def yJ8_hugeLength_7cf53 : MethodName := ⟨RJ8, "hugeLength", "(II)I"⟩
abbrev cJ3_checkIndex_8e157 : ByteArray := prog_36_method_11_code
def yJ3_checkIndex_8e157 : MethodName := ⟨RJ3, "checkIndex", "(IILjava/util/function/BiFunction;)I"⟩
abbrev cL_text : ByteArray := method_3_code
def yL_text : MethodName := ⟨RL, "text", "(LHymnwright;II[J)I"⟩
abbrev cL_line : ByteArray := method_4_code
def yL_line : MethodName := ⟨RL, "line", "(LHymnwright;III[J)I"⟩
abbrev cL_tune : ByteArray := method_5_code
def yL_tune : MethodName := ⟨RL, "tune", "(LHymnwright;III[J)I"⟩
abbrev cL_phrase : ByteArray := method_6_code
def yL_phrase : MethodName := ⟨RL, "phrase", "(LHymnwright;III[J)I"⟩
abbrev cL_fits : ByteArray := method_7_code
def yL_fits : MethodName := ⟨RL, "fits", "(LHymnwright;II[J)I"⟩
abbrev cL_clashes : ByteArray := method_8_code
def yL_clashes : MethodName := ⟨RL, "clashes", "(LHymnwright;II[J)I"⟩
abbrev cL_best : ByteArray := method_9_code
def yL_best : MethodName := ⟨RL, "best", "(LHymnwright;I[J)I"⟩
abbrev cL_alike : ByteArray := method_10_code
def yL_alike : MethodName := ⟨RL, "alike", "(LHymnwright;I[J)I"⟩
abbrev cL_allowText : ByteArray := method_11_code
def yL_allowText : MethodName := ⟨RL, "allowText", "(LHymnwright;IZ[J)I"⟩
abbrev cL_allowTune : ByteArray := method_12_code
def yL_allowTune : MethodName := ⟨RL, "allowTune", "(LHymnwright;IZ[J)I"⟩
abbrev cL_shift : ByteArray := method_13_code
def yL_shift : MethodName := ⟨RL, "shift", "(LHymnwright;III[J)I"⟩
abbrev cL_easter : ByteArray := method_14_code
def yL_easter : MethodName := ⟨RL, "easter", "(LHymnwright;I[J)I"⟩
abbrev cL_easterAnew : ByteArray := method_15_code
def yL_easterAnew : MethodName := ⟨RL, "easterAnew", "(LHymnwright;I[J)I"⟩
abbrev cL_weekday : ByteArray := method_16_code
def yL_weekday : MethodName := ⟨RL, "weekday", "(LHymnwright;III[J)I"⟩
abbrev cL_feast : ByteArray := method_17_code
def yL_feast : MethodName := ⟨RL, "feast", "(LHymnwright;IZII[J)I"⟩
abbrev cL_moving : ByteArray := method_18_code
def yL_moving : MethodName := ⟨RL, "moving", "(LHymnwright;IZI[J)I"⟩
abbrev cL_sundays : ByteArray := method_19_code
def yL_sundays : MethodName := ⟨RL, "sundays", "(LHymnwright;I[J)I"⟩
abbrev cL_reading : ByteArray := method_20_code
def yL_reading : MethodName := ⟨RL, "reading", "(LHymnwright;III[J)I"⟩
abbrev cL_kept : ByteArray := method_21_code
def yL_kept : MethodName := ⟨RL, "kept", "(LHymnwright;III[J)I"⟩
abbrev cL_when : ByteArray := method_22_code
def yL_when : MethodName := ⟨RL, "when", "(LHymnwright;II[J)I"⟩
abbrev cL_whenAnew : ByteArray := method_23_code
def yL_whenAnew : MethodName := ⟨RL, "whenAnew", "(LHymnwright;II[J)I"⟩
abbrev cL_theme : ByteArray := method_24_code
def yL_theme : MethodName := ⟨RL, "theme", "(LHymnwright;III[J)I"⟩
abbrev cL_why : ByteArray := method_25_code
def yL_why : MethodName := ⟨RL, "why", "(LHymnwright;IIII[J)I"⟩
abbrev cL_sing : ByteArray := method_26_code
def yL_sing : MethodName := ⟨RL, "sing", "(LHymnwright;III[J)I"⟩
abbrev cL_service : ByteArray := method_27_code
def yL_service : MethodName := ⟨RL, "service", "(LHymnwright;II[J)I"⟩
abbrev cL_sung : ByteArray := method_28_code
def yL_sung : MethodName := ⟨RL, "sung", "(LHymnwright;I[J)I"⟩
abbrev cL_law : ByteArray := code
def yL_law : MethodName := ⟨RL, "law", "([I)Z"⟩
abbrev cls9 : List vw_C := [(RJx4a65c, TJx4a65c, 3), (RX1, TX1, 5), (RX2, TX2, 1), (RX3, TX3, 2), (RX4, TX4, 3), (RX5, TX5, 5), (RX6, TX6, 4), (RX7, TX7, 5), (RX8, TX8, 5), (RX9, TX9, 7), (RX10, TX10, 31)]
end
section
/-! THE ENGINE. A heap is seen through a map M from addresses to cells: what a method may read and write. G: the judgement at a pc, over every heap that M describes. -/
abbrev hC : Type := (Nat × List Value) ⊕ (Nat × Nat × ((Nat → Int32) ⊕ ((Nat → Int64) ⊕ (Nat → Option Nat))))
abbrev hM : Type := Nat → Option hC
def hE (dA : Nat → ClassId) (x : hC) : va_E := match x with
  | .inl o => .inr o
  | .inr (k, n, .inl f) => .inl (dA k, n, .inl f)
  | .inr (k, n, .inr (.inl f)) => .inl (dA k, n, .inr (.inl f))
  | .inr (k, n, .inr (.inr f)) => .inl (dA k, n, .inr (.inr (.inr (.inr f))))
def hup (M : hM) (a : Nat) (x : hC) : hM := fun q => if q = a then some x else M q
theorem hup_s (M : hM) (a : Nat) (x : hC) : hup M a x a = some x := if_pos rfl
theorem hup_n (M : hM) {a q : Nat} (x : hC) (h : q ≠ a) : hup M a x q = M q := if_neg h
def hv (D : va_G) (dA : Nat → ClassId) (M : hM) (H : Heap) : Prop := ∀ (a : Nat) (x : hC), M a = some x → va_at D cls9 (a, hE dA x) H
theorem hv.lt {D : va_G} {dA : Nat → ClassId} {M : hM} {H : Heap} (h : hv D dA M H) {a : Nat} {x : hC} (hx : M a = some x) : a < H.size := (h a x hx).lt
theorem hv.one {D : va_G} {dA : Nat → ClassId} {M : hM} {H : Heap} (h : hv D dA M H) {a : Nat} {x : hC} (hx : M a = some x) : va_P D cls9 [(a, hE dA x)] H := by
  intro k q hk
  match k, hk with
  | 0, hk => cases hk; exact h a x hx
  | k + 1, hk => simp at hk
theorem hv.kept {D : va_G} {dA : Nat → ClassId} {M : hM} {H H1 : Heap} (h : hv D dA M H) (hq : ∀ (a : Nat) (x : hC), M a = some x → H1[a]? = H[a]?) : hv D dA M H1 := fun a x hx => (h a x hx).kept (hq a x hx)
theorem hv.set {D : va_G} {dA : Nat → ClassId} {M : hM} {H H1 : Heap} (h : hv D dA M H) {a : Nat} {x : hC} (he : va_at D cls9 (a, hE dA x) H1) (oq : ∀ q : Nat, q ≠ a → H1[q]? = H[q]?) : hv D dA (hup M a x) H1 := by
  intro q y hy
  by_cases e : q = a
  · subst e
    rw [hup_s] at hy
    cases hy
    exact he
  · rw [hup_n _ _ e] at hy
    exact (h q y hy).kept (oq q e)
theorem hv.push {D : va_G} {dA : Nat → ClassId} {M : hM} {H H1 : Heap} (h : hv D dA M H) {x : hC} (he : va_at D cls9 (H.size, hE dA x) H1) (oq : ∀ q : Nat, q < H.size → H1[q]? = H[q]?) : hv D dA (hup M H.size x) H1 := by
  intro q y hy
  by_cases e : q = H.size
  · subst e
    rw [hup_s] at hy
    cases hy
    exact he
  · rw [hup_n _ _ e] at hy
    exact (h q y hy).kept (oq q (h.lt hy))
abbrev tys9 (dA : Nat → ClassId) : List (ClassId × FieldType) := [(dA 0, .int), (dA 1, .boolean), (dA 2, .long), (dA 3, .object "java/lang/Object")]
/-- the words that a state keeps under every call -/
def isN (w : Cond) : Bool := match w with
  | .methodLinkNest .. => true
  | .fieldLinkNest .. => true
  | .castable .. => true
  | .declares _ => true
  | _ => false
def tw (w : Cond) : Bool := goodWord w || isN w
def TW (args : Array Value) (U : State) : Prop := ∀ w ∈ lw_tbl, tw w = true → w.before args U = true
theorem TW.warm {args a' : Array Value} {s U : State} (hW : s.WarmedH U.vm) (h : TW args s) : TW a' U := by
  intro w hw ht
  have h0 := h w hw ht
  simp only [tw, Bool.or_eq_true] at ht
  rcases ht with hg | hn
  · exact word_at hW (good_of_word hg) h0
  · cases w <;> first | (simp [isN] at hn; done) | skip
    all_goals first | exact va_Nw.use rfl (va_Nw.warmM hW (va_Nw.of rfl h0)) | exact va_Nw.use rfl (va_Nw.warmF hW (va_Nw.of rfl h0)) | exact va_Nw.use rfl (va_Nw.warmC hW (va_Nw.of rfl h0)) | exact va_Nw.use rfl (va_Nw.warmD hW (va_Nw.of rfl h0))
theorem TW.same {args a' : Array Value} {s U : State} (hv : s.vm = U.vm) (h : TW args s) : TW a' U := by
  intro w hw ht
  have h0 := h w hw ht
  by_cases ho : w.onTables = true
  · exact va_tabs ho hv h0
  · simp only [tw, Bool.or_eq_true] at ht
    rcases ht with hg | hn
    · rcases good_of_word hg with h1 | ⟨ty, rfl⟩
      · simp only [Bool.and_eq_true] at h1
        exact absurd h1.1 ho
      · have h1 : (Cond.arrayClass ty).before args (s.setVm U.vm) = true := by rw [← hv]; exact h0
        exact h1
    · cases w <;> first | (simp [isN] at hn; done) | exact absurd rfl ho
theorem TW.at {args : Array Value} {s : State} (h : TW args s) {w : Cond} (i : Nat) (hi : lw_tbl[i]? = some w) (ht : tw w = true) : w.before args s = true := h w (List.mem_of_getElem? hi) ht
end
section
/-! the environment that every method keeps; the judgement G; what stands at a pc -/
abbrev hG : Type := va_G × (Nat → ClassId) × Nat × Nat × Nat
abbrev hD : Type := MethodName × ByteArray × Nat × Option FieldType × Room × List (Nat × Nat × Nat × Nat)
abbrev hX : Type := (Program × Launch × Env × Room × State × MethodId × Array Value × List Frame) × Method × Code × (Nat → Prop) × (State → Prop) × hG
def z9 (z0 : Nat) : Nat → Prop := fun q => z0 ≤ q
/-- the months' days, as the class keeps them -/
def fM (k : Nat) : Int32 := ([0, 31, 59, 90, 120, 151, 181, 212, 243, 273, 304, 334] : List Int32).getD k 0
def va_E0 (a : Nat) (U : State) (H : Heap) : Prop := ∃ (cell : Cell) (ty : FieldType), H[a]? = some cell ∧ U.isArrayOf cell ty ∧ cell.slots.size = 0
theorem va_E0.moved {a : Nat} {u U : State} {H : Heap} (hvm : u.vm.Alike U.vm) (h : va_E0 a u H) : va_E0 a U H := by
  obtain ⟨cell, ty, h1, h2, h3⟩ := h
  exact ⟨cell, ty, h1, State.isArrayOf_alike hvm h2, h3⟩
def strs9 : List (String × Nat × String) := [("Hymnwright", 54, "there are 12 texts"), ("Hymnwright", 79, "there are 12 tunes"), ("Hymnwright", 97, "the tune does not fit the text"), ("Hymnwright", 207, "the day has no theme"), ("Hymnwright", 220, "no service can follow on that day"), ("Hymnwright", 226, "no text can be chosen"), ("Hymnwright", 249, "a service tells 0 to 4"), ("Hymnwright", 256, "an argument is out of range"), ("Hymnwright", 260, "there is none of that number"), ("Hymnwright", 266, "there are 8 lines or phrases"), ("Hymnwright", 271, "there are 20 feasts")]
def nc9 : List (String × String) := [("java/lang/IllegalArgumentException", "java/lang/IllegalStateException"), ("java/lang/IllegalArgumentException", "java/lang/IndexOutOfBoundsException"), ("java/lang/IllegalStateException", "java/lang/IllegalArgumentException"), ("java/lang/IllegalStateException", "java/lang/IndexOutOfBoundsException"), ("java/lang/IndexOutOfBoundsException", "java/lang/IllegalArgumentException"), ("java/lang/IndexOutOfBoundsException", "java/lang/IllegalStateException")]
def KS (g : hG) (U : State) : Prop :=
  va_K g.1 cls9 (tys9 g.2.1) U ∧ TW #[] U ∧ g.2.2.1 ≤ U.heap.size ∧
  (va_Z "Hymnwright$Days" "AHEAD_OF_MONTH" "[I" (.ref g.2.2.2.1) (z9 g.2.2.1) U U.heap ∧ va_X g.2.2.2.1 12 fM U U.heap ∧ g.2.2.2.1 < g.2.2.1) ∧
  (va_Z "java/util/ArrayList" "DEFAULTCAPACITY_EMPTY_ELEMENTDATA" "[Ljava/lang/Object;" (.ref g.2.2.2.2) (z9 g.2.2.1) U U.heap ∧ va_E0 g.2.2.2.2 U U.heap ∧ g.2.2.2.2 < g.2.2.1) ∧
  (vx_Zq Bundle.tN "UNASSIGNED_STACK" Bundle.steD (z9 g.2.2.1) U U.heap ∧ vx_Zq Bundle.tN "SUPPRESSED_SENTINEL" Bundle.listD (z9 g.2.2.1) U U.heap) ∧
  (∀ q ∈ strs9, ∃ sa, vk_R q.1 q.2.1 q.2.2 sa U) ∧ va_AO "java/lang/Object" U ∧ (∀ q ∈ nc9, va_Nc q.1 q.2 U) ∧ ∃ mi, va_Mi "[Ljava/lang/Object;" mi U
theorem KS.next {g : hG} {s U : State} (h : KS g s) (hW : s.WarmedH U.vm) (hz : s.heap.size ≤ U.heap.size) (hq : ∀ q : Nat, q < s.heap.size → ¬ g.2.2.1 ≤ q → U.heap[q]? = s.heap[q]?) : KS g U := by
  obtain ⟨h1, h2, h3, ⟨h4, h5, h6⟩, ⟨h7, h8, h9⟩, ⟨h10, h11⟩, h12, h13, h14, mi, h15⟩ := h
  have ha := hW.alike
  have hq' : ∀ a : Nat, a < s.heap.size → ¬ z9 g.2.2.1 a → U.heap[a]? = s.heap[a]? := hq
  refine ⟨va_K.moved ha h1, TW.warm hW h2, Nat.le_trans h3 hz, ⟨(va_Z.moved ha h4).kept hq', va_X.moved ha (h5.kept (hq _ (by omega) (by omega))), h6⟩, ⟨(va_Z.moved ha h7).kept hq', ?_, h9⟩, ⟨(vx_Zq.moved ha h10).kept hq', (vx_Zq.moved ha h11).kept hq'⟩, fun q hm => ?_, va_AO.moved ha h13, fun q hm => (h14 q hm).moved ha, mi, h15.moved ha⟩
  · refine va_E0.moved ha ?_
    obtain ⟨cell, ty, e1, e2, e3⟩ := h8
    exact ⟨cell, ty, by rw [hq _ (by omega) (by omega)]; exact e1, e2, e3⟩
  · obtain ⟨sa, e⟩ := h12 q hm
    exact ⟨sa, vk_R.warm hW e⟩
theorem KS.calling {g : hG} {U : State} (h : KS g U) (f : JFrame) (mk : MethodId) (a : Array Value) : KS g (U.calling f mk a) := by
  obtain ⟨h1, h2, h3, ⟨h4, h5, h6⟩, ⟨h7, h8, h9⟩, ⟨h10, h11⟩, h12, h13, h14, mi, h15⟩ := h
  have ha : U.vm.Alike (U.calling f mk a).vm := Vm.Alike.refl U.vm
  refine ⟨va_K.moved ha h1, TW.same (s := U) rfl h2, h3, ⟨va_Z.moved ha h4, va_X.moved ha h5, h6⟩, ⟨va_Z.moved ha h7, va_E0.moved ha h8, h9⟩, ⟨vx_Zq.moved ha h10, vx_Zq.moved ha h11⟩, fun q hm => ?_, va_AO.moved ha h13, fun q hm => (h14 q hm).moved ha, mi, h15.moved ha⟩
  obtain ⟨sa, e⟩ := h12 q hm
  exact ⟨sa, vk_R.same rfl e⟩
/-! locals -/
def isU (v : Value) : Bool := match v with
  | .float _ => true
  | _ => false
abbrev U9 : Value := .float 0
def lh (ls : Array Slot) (nL : Nat) (lv : List Value) : Prop := ls.size = nL ∧ lv_wf ls ∧ lv.length = nL ∧ ∀ (i : Nat) (v : Value), lv[i]? = some v → v.category = 1 ∧ (isU v = false → ls[i]? = some (.val v))
def al9 (lv : List Value) : List (Nat × Value) := (List.range lv.length).filterMap (fun i => (lv[i]?).bind (fun v => if isU v = true then none else some (i, v)))
theorem al9_mem {lv : List Value} {i : Nat} {v : Value} : (i, v) ∈ al9 lv ↔ lv[i]? = some v ∧ isU v = false := by
  unfold al9
  rw [List.mem_filterMap]
  constructor
  · rintro ⟨j, -, hj⟩
    cases e : lv[j]? with
    | none => rw [e] at hj; cases hj
    | some w =>
      rw [e] at hj
      simp only [Option.bind_some] at hj
      by_cases hu : isU w = true
      · rw [if_pos hu] at hj; cases hj
      · rw [if_neg hu] at hj; cases hj; exact ⟨e, by simpa using hu⟩
  · rintro ⟨h1, h2⟩
    refine ⟨i, List.mem_range.mpr (List.getElem?_eq_some_iff.mp h1).1, ?_⟩
    rw [h1]
    simp [h2]
theorem lh.has {ls : Array Slot} {nL : Nat} {lv : List Value} (h : lh ls nL lv) : lv_has ls nL (al9 lv) := ⟨h.1, h.2.1, fun q hq => by
  obtain ⟨i, v⟩ := q
  obtain ⟨h1, h2⟩ := al9_mem.mp hq
  exact (h.2.2.2 i v h1).2 h2⟩
theorem lh.get {ls : Array Slot} {nL : Nat} {lv : List Value} (h : lh ls nL lv) {i : Nat} {v : Value} (hl : lv[i]? = some v) (hu : isU v = false) : ls[i]? = some (.val v) := (h.2.2.2 i v hl).2 hu
theorem lh.store {ls ls' : Array Slot} {nL : Nat} {lv : List Value} (h : lh ls nL lv) {i : Nat} {v : Value} (hc : v.category = 1) (h' : lv_has ls' nL ((i, v) :: (al9 lv).filter (fun q => !(q.1 == i) && !(q.1 + 1 == i && q.2.category == 2)))) : lh ls' nL (lv.set i v) := by
  refine ⟨h'.1, h'.2.1, by rw [List.length_set]; exact h.2.2.1, fun j w hw => ?_⟩
  rw [List.getElem?_set] at hw
  by_cases e : i = j
  · subst e
    rw [if_pos rfl] at hw
    by_cases hl : i < lv.length
    · rw [if_pos hl] at hw
      cases hw
      exact ⟨hc, fun _ => h'.2.2 (i, v) List.mem_cons_self⟩
    · rw [if_neg hl] at hw
      cases hw
  · rw [if_neg e] at hw
    have hcat := (h.2.2.2 j w hw).1
    refine ⟨hcat, fun hu => h'.2.2 (j, w) (List.mem_cons_of_mem _ (List.mem_filter.mpr ⟨al9_mem.mpr ⟨hw, hu⟩, ?_⟩))⟩
    have e2 : (j == i) = false := by simp [Ne.symm e]
    have e3 : (w.category == 2) = false := by rw [hcat]; rfl
    show (!(j == i) && !(j + 1 == i && w.category == 2)) = true
    rw [e2, e3]
    simp
/-! the judgement -/
def G (X : hX) (pc : Nat) (lv st : List Value) (M : hM) (sz cs ss : Nat) : Prop :=
  ∀ (H : Heap) (locs : List Loc) (ls : Array Slot), H.size = sz → hv X.2.2.2.2.2.1 X.2.2.2.2.2.2.1 M H → (∀ (q : Nat) (x : hC), M q = some x → X.2.2.2.1 q) → va_S X.2.2.2.1 X.1.2.2.2.2.1.heap H locs → lh ls X.2.2.1.maxLocals lv →
    W X.1.1 X.1.2.1 X.1.2.2.1 X.1.2.2.2.1 X.1.2.2.2.2.1 X.1.2.2.2.2.2.1 X.1.2.2.2.2.2.2.1 X.1.2.2.2.2.2.2.2 X.2.1 X.2.2.1 H locs cs ss X.2.2.2.2.1 (F0 X.1.2.2.2.2.2.1 pc ls st)
def Cok (X : hX) (d : hD) : Prop :=
  X.1.1.tables.exec = Jvm.exec ∧ X.2.2.1.code = d.2.1 ∧ X.2.2.1.maxLocals = d.2.2.1 ∧ X.1.2.2.2.2.1.vm.findClass d.1.cls = some X.1.2.2.2.2.2.1.cls ∧ TW X.1.2.2.2.2.2.2.1 X.1.2.2.2.2.1 ∧ KS X.2.2.2.2.2 X.1.2.2.2.2.1 ∧
  (∀ q, X.2.2.2.1 q → X.2.2.2.2.2.2.2.1 ≤ q) ∧ (∀ q, X.1.2.2.2.2.1.heap.size ≤ q → X.2.2.2.1 q) ∧ X.1.2.1.stackTraces = false ∧ X.2.1.locks = false ∧ X.2.1.sig.returnType = d.2.2.2.1 ∧ X.2.1.name = d.1.name ∧ X.1.2.2.2.1 = d.2.2.2.2.1 ∧ X.2.2.1.exceptionTable.toList = tableOf d.2.2.2.2.2
/-! what stands at a pc -/
def At (d : hD) (pc : Nat) (i : Instr) (len n : Nat) : Prop := decode d.2.1 pc = .ok (i, len) ∧ pc + len = n
def AtJ (d : hD) (pc : Nat) (i : Int → Instr) (n t : Nat) : Prop := ∃ off : Int, decode d.2.1 pc = .ok (i off, 3) ∧ pc + 3 = n ∧ (pc : Int) + off = (t : Int)
def AtG (d : hD) (pc : Nat) (t : Nat) : Prop := ∃ off : Int, decode d.2.1 pc = .ok (.goto off, 3) ∧ (pc : Int) + off = (t : Int)
def AtK (d : hD) (pc : Nat) (v : Int32) (n : Nat) : Prop :=
  (∃ k : Int, decode d.2.1 pc = .ok (.iconst k, 1) ∧ Int32.ofInt k = v ∧ pc + 1 = n) ∨ (∃ k : Int, decode d.2.1 pc = .ok (.bipush k, 2) ∧ (Int8.ofInt k).toInt32 = v ∧ pc + 2 = n) ∨
  (∃ k : Int, decode d.2.1 pc = .ok (.sipush k, 3) ∧ (Int16.ofInt k).toInt32 = v ∧ pc + 3 = n) ∨ (∃ k i : Nat, decode d.2.1 pc = .ok (.ldc k, 2) ∧ lw_tbl[i]? = some (Cond.constant d.1.cls k v) ∧ pc + 2 = n) ∨ (∃ k i : Nat, decode d.2.1 pc = .ok (.ldc_w k, 3) ∧ lw_tbl[i]? = some (Cond.constant d.1.cls k v) ∧ pc + 3 = n)
def AtI (d : hD) (pc i n : Nat) : Prop := (decode d.2.1 pc = .ok (.iload i, 2) ∧ pc + 2 = n) ∨ (∃ k : Fin 4, decode d.2.1 pc = .ok (.iload_n k, 1) ∧ (k : Nat) = i ∧ pc + 1 = n)
def AtA (d : hD) (pc i n : Nat) : Prop := (decode d.2.1 pc = .ok (.aload i, 2) ∧ pc + 2 = n) ∨ (∃ k : Fin 4, decode d.2.1 pc = .ok (.aload_n k, 1) ∧ (k : Nat) = i ∧ pc + 1 = n)
def AtSI (d : hD) (pc i n : Nat) : Prop := ((decode d.2.1 pc = .ok (.istore i, 2) ∧ pc + 2 = n) ∨ (∃ k : Fin 4, decode d.2.1 pc = .ok (.istore_n k, 1) ∧ (k : Nat) = i ∧ pc + 1 = n)) ∧ i < d.2.2.1
def AtSA (d : hD) (pc i n : Nat) : Prop := ((decode d.2.1 pc = .ok (.astore i, 2) ∧ pc + 2 = n) ∨ (∃ k : Fin 4, decode d.2.1 pc = .ok (.astore_n k, 1) ∧ (k : Nat) = i ∧ pc + 1 = n)) ∧ i < d.2.2.1
def AtInc (d : hD) (pc i : Nat) (k : Int32) (n : Nat) : Prop := ∃ z : Int, decode d.2.1 pc = .ok (.iinc i z, 3) ∧ Int32.ofInt z = k ∧ pc + 3 = n ∧ i < d.2.2.1
def isRefV (v : Value) : Bool := match v with
  | .ref _ => true
  | .null => true
  | _ => false
theorem isRefV_rf (r : Option Nat) : isRefV (va_rf r) = true := by cases r <;> rfl
section R1
variable {X : hX} {d : hD} {pc n t i : Nat} {lv st : List Value} {M : hM} {sz cs ss : Nat}
theorem g_iload {x : Int32} (hX : Cok X d) (h : AtI d pc i n) (hv : lv[i]? = some (.int x)) (k : G X n lv (.int x :: st) M sz cs ss) : G X pc lv st M sz cs ss := by
  obtain ⟨⟨p, l, e, R, s, m, args, below⟩, meth, c, A, Q, g⟩ := X
  obtain ⟨hx, hb, hml, hown, hts, hKS, hAz, hAn, hst9, hlk, hrt, hnm, hR, hex⟩ := hX
  intro H locs ls hz hM hA hS hl
  rcases h with ⟨h1, rfl⟩ | ⟨k9, h1, h2, rfl⟩
  · exact lv_iload hx hb h1 (hl.get hv rfl) (k H locs ls hz hM hA hS hl)
  · exact lv_iload_n hx hb h1 h2 (hl.get hv rfl) (k H locs ls hz hM hA hS hl)
theorem g_aload {v : Value} (hX : Cok X d) (h : AtA d pc i n) (hv : lv[i]? = some v) (hr : isRefV v = true) (k : G X n lv (v :: st) M sz cs ss) : G X pc lv st M sz cs ss := by
  obtain ⟨⟨p, l, e, R, s, m, args, below⟩, meth, c, A, Q, g⟩ := X
  obtain ⟨hx, hb, hml, hown, hts, hKS, hAz, hAn, hst9, hlk, hrt, hnm, hR, hex⟩ := hX
  intro H locs ls hz hM hA hS hl
  cases v <;> first | (simp [isRefV] at hr; done) | skip
  · rcases h with ⟨h1, rfl⟩ | ⟨k9, h1, h2, rfl⟩
    · exact lv_aloadN hx hb h1 (hl.get hv rfl) (k H locs ls hz hM hA hS hl)
    · exact lv_aload_nN hx hb h1 h2 (hl.get hv rfl) (k H locs ls hz hM hA hS hl)
  · rcases h with ⟨h1, rfl⟩ | ⟨k9, h1, h2, rfl⟩
    · exact lv_aload hx hb h1 (hl.get hv rfl) (k H locs ls hz hM hA hS hl)
    · exact lv_aload_n hx hb h1 h2 (hl.get hv rfl) (k H locs ls hz hM hA hS hl)
theorem g_istore {x : Int32} (hX : Cok X d) (h : AtSI d pc i n) (k : G X n (lv.set i (.int x)) st M sz cs ss) : G X pc lv (.int x :: st) M sz cs ss := by
  obtain ⟨⟨p, l, e, R, s, m, args, below⟩, meth, c, A, Q, g⟩ := X
  obtain ⟨hx, hb, hml, hown, hts, hKS, hAz, hAn, hst9, hlk, hrt, hnm, hR, hex⟩ := hX
  intro H locs ls hz hM hA hS hl
  have hi : i < c.maxLocals := by rw [show c.maxLocals = d.2.2.1 from hml]; exact h.2
  rcases h.1 with ⟨h1, rfl⟩ | ⟨k9, h1, h2, rfl⟩
  · exact lv_istore hx hb h1 hl.has hi rfl (fun ls' h' => k H locs ls' hz hM hA hS (hl.store rfl h'))
  · exact lv_istore_n hx hb h1 h2 hl.has hi rfl (fun ls' h' => k H locs ls' hz hM hA hS (hl.store rfl h'))
theorem g_astore {v : Value} (hX : Cok X d) (h : AtSA d pc i n) (hr : isRefV v = true) (k : G X n (lv.set i v) st M sz cs ss) : G X pc lv (v :: st) M sz cs ss := by
  obtain ⟨⟨p, l, e, R, s, m, args, below⟩, meth, c, A, Q, g⟩ := X
  obtain ⟨hx, hb, hml, hown, hts, hKS, hAz, hAn, hst9, hlk, hrt, hnm, hR, hex⟩ := hX
  intro H locs ls hz hM hA hS hl
  have hi : i < c.maxLocals := by rw [show c.maxLocals = d.2.2.1 from hml]; exact h.2
  cases v <;> first | (simp [isRefV] at hr; done) | skip
  · rcases h.1 with ⟨h1, rfl⟩ | ⟨k9, h1, h2, rfl⟩
    · exact lv_astoreN hx hb h1 hl.has hi rfl (fun ls' h' => k H locs ls' hz hM hA hS (hl.store rfl h'))
    · exact lv_astore_nN hx hb h1 h2 hl.has hi rfl (fun ls' h' => k H locs ls' hz hM hA hS (hl.store rfl h'))
  · rcases h.1 with ⟨h1, rfl⟩ | ⟨k9, h1, h2, rfl⟩
    · exact lv_astore hx hb h1 hl.has hi rfl (fun ls' h' => k H locs ls' hz hM hA hS (hl.store rfl h'))
    · exact lv_astore_n hx hb h1 h2 hl.has hi rfl (fun ls' h' => k H locs ls' hz hM hA hS (hl.store rfl h'))
theorem g_iinc {x y : Int32} (hX : Cok X d) (h : AtInc d pc i y n) (hv : lv[i]? = some (.int x)) (k : G X n (lv.set i (.int (x + y))) st M sz cs ss) : G X pc lv st M sz cs ss := by
  obtain ⟨⟨p, l, e, R, s, m, args, below⟩, meth, c, A, Q, g⟩ := X
  obtain ⟨hx, hb, hml, hown, hts, hKS, hAz, hAn, hst9, hlk, hrt, hnm, hR, hex⟩ := hX
  intro H locs ls hz hM hA hS hl
  obtain ⟨z, h1, rfl, rfl, h3⟩ := h
  have hi : i < c.maxLocals := by rw [show c.maxLocals = d.2.2.1 from hml]; exact h3
  obtain ⟨j, hj⟩ := List.getElem?_of_mem (al9_mem.mpr ⟨hv, rfl⟩)
  exact lv_iinc hx hb h1 hl.has hj rfl hi rfl (fun ls' h' => k H locs ls' hz hM hA hS (hl.store rfl h'))
theorem g_const {v : Int32} (hX : Cok X d) (h : AtK d pc v n) (k : G X n lv (.int v :: st) M sz cs ss) : G X pc lv st M sz cs ss := by
  obtain ⟨⟨p, l, e, R, s, m, args, below⟩, meth, c, A, Q, g⟩ := X
  obtain ⟨hx, hb, hml, hown, hts, hKS, hAz, hAn, hst9, hlk, hrt, hnm, hR, hex⟩ := hX
  intro H locs ls hz hM hA hS hl
  rcases h with ⟨k9, h1, h2, rfl⟩ | ⟨k9, h1, h2, rfl⟩ | ⟨k9, h1, h2, rfl⟩ | ⟨k9, j, h1, h2, rfl⟩ | ⟨k9, j, h1, h2, rfl⟩
  · exact lv_iconst hx hb h1 h2 (k H locs ls hz hM hA hS hl)
  · exact lv_bipush hx hb h1 h2 (k H locs ls hz hM hA hS hl)
  · exact lv_sipush hx hb h1 h2 (k H locs ls hz hM hA hS hl)
  · exact lv_ldc hx hb hown (hts.at j h2 rfl) h1 (k H locs ls hz hM hA hS hl)
  · exact lv_ldcw hx hb hown (hts.at j h2 rfl) h1 (k H locs ls hz hM hA hS hl)
theorem g_iadd {x y : Int32} (hX : Cok X d) (h : At d pc .iadd 1 n) (k : G X n lv (.int (x + y) :: st) M sz cs ss) : G X pc lv (.int y :: .int x :: st) M sz cs ss := by
  obtain ⟨⟨p, l, e, R, s, m, args, below⟩, meth, c, A, Q, g⟩ := X
  obtain ⟨hx, hb, hml, hown, hts, hKS, hAz, hAn, hst9, hlk, hrt, hnm, hR, hex⟩ := hX
  intro H locs ls hz hM hA hS hl
  obtain ⟨h1, rfl⟩ := h
  exact lv_iadd hx hb h1 (k H locs ls hz hM hA hS hl)
theorem g_isub {x y : Int32} (hX : Cok X d) (h : At d pc .isub 1 n) (k : G X n lv (.int (x - y) :: st) M sz cs ss) : G X pc lv (.int y :: .int x :: st) M sz cs ss := by
  obtain ⟨⟨p, l, e, R, s, m, args, below⟩, meth, c, A, Q, g⟩ := X
  obtain ⟨hx, hb, hml, hown, hts, hKS, hAz, hAn, hst9, hlk, hrt, hnm, hR, hex⟩ := hX
  intro H locs ls hz hM hA hS hl
  obtain ⟨h1, rfl⟩ := h
  exact lv_isub hx hb h1 (k H locs ls hz hM hA hS hl)
theorem g_imul {x y : Int32} (hX : Cok X d) (h : At d pc .imul 1 n) (k : G X n lv (.int (x * y) :: st) M sz cs ss) : G X pc lv (.int y :: .int x :: st) M sz cs ss := by
  obtain ⟨⟨p, l, e, R, s, m, args, below⟩, meth, c, A, Q, g⟩ := X
  obtain ⟨hx, hb, hml, hown, hts, hKS, hAz, hAn, hst9, hlk, hrt, hnm, hR, hex⟩ := hX
  intro H locs ls hz hM hA hS hl
  obtain ⟨h1, rfl⟩ := h
  exact lv_imul hx hb h1 (k H locs ls hz hM hA hS hl)
theorem g_iand {x y : Int32} (hX : Cok X d) (h : At d pc .iand 1 n) (k : G X n lv (.int (x &&& y) :: st) M sz cs ss) : G X pc lv (.int y :: .int x :: st) M sz cs ss := by
  obtain ⟨⟨p, l, e, R, s, m, args, below⟩, meth, c, A, Q, g⟩ := X
  obtain ⟨hx, hb, hml, hown, hts, hKS, hAz, hAn, hst9, hlk, hrt, hnm, hR, hex⟩ := hX
  intro H locs ls hz hM hA hS hl
  obtain ⟨h1, rfl⟩ := h
  exact lv_iand hx hb h1 (k H locs ls hz hM hA hS hl)
theorem g_ior {x y : Int32} (hX : Cok X d) (h : At d pc .ior 1 n) (k : G X n lv (.int (x ||| y) :: st) M sz cs ss) : G X pc lv (.int y :: .int x :: st) M sz cs ss := by
  obtain ⟨⟨p, l, e, R, s, m, args, below⟩, meth, c, A, Q, g⟩ := X
  obtain ⟨hx, hb, hml, hown, hts, hKS, hAz, hAn, hst9, hlk, hrt, hnm, hR, hex⟩ := hX
  intro H locs ls hz hM hA hS hl
  obtain ⟨h1, rfl⟩ := h
  exact lv_ior hx hb h1 (k H locs ls hz hM hA hS hl)
theorem g_ixor {x y : Int32} (hX : Cok X d) (h : At d pc .ixor 1 n) (k : G X n lv (.int (x ^^^ y) :: st) M sz cs ss) : G X pc lv (.int y :: .int x :: st) M sz cs ss := by
  obtain ⟨⟨p, l, e, R, s, m, args, below⟩, meth, c, A, Q, g⟩ := X
  obtain ⟨hx, hb, hml, hown, hts, hKS, hAz, hAn, hst9, hlk, hrt, hnm, hR, hex⟩ := hX
  intro H locs ls hz hM hA hS hl
  obtain ⟨h1, rfl⟩ := h
  exact lv_ixor hx hb h1 (k H locs ls hz hM hA hS hl)
theorem g_idiv {x y : Int32} (hX : Cok X d) (h : At d pc .idiv 1 n) (hne : ¬ y = 0) (k : G X n lv (.int (x / y) :: st) M sz cs ss) : G X pc lv (.int y :: .int x :: st) M sz cs ss := by
  obtain ⟨⟨p, l, e, R, s, m, args, below⟩, meth, c, A, Q, g⟩ := X
  obtain ⟨hx, hb, hml, hown, hts, hKS, hAz, hAn, hst9, hlk, hrt, hnm, hR, hex⟩ := hX
  intro H locs ls hz hM hA hS hl
  obtain ⟨h1, rfl⟩ := h
  exact lv_idiv hx hb h1 hne (k H locs ls hz hM hA hS hl)
theorem g_irem {x y : Int32} (hX : Cok X d) (h : At d pc .irem 1 n) (hne : ¬ y = 0) (k : G X n lv (.int (x - x / y * y) :: st) M sz cs ss) : G X pc lv (.int y :: .int x :: st) M sz cs ss := by
  obtain ⟨⟨p, l, e, R, s, m, args, below⟩, meth, c, A, Q, g⟩ := X
  obtain ⟨hx, hb, hml, hown, hts, hKS, hAz, hAn, hst9, hlk, hrt, hnm, hR, hex⟩ := hX
  intro H locs ls hz hM hA hS hl
  obtain ⟨h1, rfl⟩ := h
  exact lv_irem hx hb h1 hne (k H locs ls hz hM hA hS hl)
theorem g_ishl {x y : Int32} (hX : Cok X d) (h : At d pc .ishl 1 n) (k : G X n lv (.int (x <<< (y &&& 31)) :: st) M sz cs ss) : G X pc lv (.int y :: .int x :: st) M sz cs ss := by
  obtain ⟨⟨p, l, e, R, s, m, args, below⟩, meth, c, A, Q, g⟩ := X
  obtain ⟨hx, hb, hml, hown, hts, hKS, hAz, hAn, hst9, hlk, hrt, hnm, hR, hex⟩ := hX
  intro H locs ls hz hM hA hS hl
  obtain ⟨h1, rfl⟩ := h
  exact lv_ishl hx hb h1 (k H locs ls hz hM hA hS hl)
theorem g_ishr {x y : Int32} (hX : Cok X d) (h : At d pc .ishr 1 n) (k : G X n lv (.int (x >>> (y &&& 31)) :: st) M sz cs ss) : G X pc lv (.int y :: .int x :: st) M sz cs ss := by
  obtain ⟨⟨p, l, e, R, s, m, args, below⟩, meth, c, A, Q, g⟩ := X
  obtain ⟨hx, hb, hml, hown, hts, hKS, hAz, hAn, hst9, hlk, hrt, hnm, hR, hex⟩ := hX
  intro H locs ls hz hM hA hS hl
  obtain ⟨h1, rfl⟩ := h
  exact lv_ishr hx hb h1 (k H locs ls hz hM hA hS hl)
theorem g_iushr {x y : Int32} (hX : Cok X d) (h : At d pc .iushr 1 n) (k : G X n lv (.int ((x.toUInt32 >>> (y.toUInt32 &&& Int32.toUInt32 31)).toInt32) :: st) M sz cs ss) : G X pc lv (.int y :: .int x :: st) M sz cs ss := by
  obtain ⟨⟨p, l, e, R, s, m, args, below⟩, meth, c, A, Q, g⟩ := X
  obtain ⟨hx, hb, hml, hown, hts, hKS, hAz, hAn, hst9, hlk, hrt, hnm, hR, hex⟩ := hX
  intro H locs ls hz hM hA hS hl
  obtain ⟨h1, rfl⟩ := h
  exact lv_iushr hx hb h1 rfl (k H locs ls hz hM hA hS hl)
theorem g_i2l {x : Int32} (hX : Cok X d) (h : At d pc .i2l 1 n) (k : G X n lv (.long x.toInt64 :: st) M sz cs ss) : G X pc lv (.int x :: st) M sz cs ss := by
  obtain ⟨⟨p, l, e, R, s, m, args, below⟩, meth, c, A, Q, g⟩ := X
  obtain ⟨hx, hb, hml, hown, hts, hKS, hAz, hAn, hst9, hlk, hrt, hnm, hR, hex⟩ := hX
  intro H locs ls hz hM hA hS hl
  obtain ⟨h1, rfl⟩ := h
  exact lv_i2l hx hb h1 rfl (k H locs ls hz hM hA hS hl)
theorem g_lcmp {x y : Int64} (hX : Cok X d) (h : At d pc .lcmp 1 n) (k : G X n lv (.int (lg_cmp x y) :: st) M sz cs ss) : G X pc lv (.long y :: .long x :: st) M sz cs ss := by
  obtain ⟨⟨p, l, e, R, s, m, args, below⟩, meth, c, A, Q, g⟩ := X
  obtain ⟨hx, hb, hml, hown, hts, hKS, hAz, hAn, hst9, hlk, hrt, hnm, hR, hex⟩ := hX
  intro H locs ls hz hM hA hS hl
  obtain ⟨h1, rfl⟩ := h
  exact W.lcmp hx hb h1 (k H locs ls hz hM hA hS hl)
theorem g_lconst {v : Fin 2} (hX : Cok X d) (h : At d pc (.lconst v) 1 n) (k : G X n lv (.long (Int64.ofNat (v : Nat)) :: st) M sz cs ss) : G X pc lv st M sz cs ss := by
  obtain ⟨⟨p, l, e, R, s, m, args, below⟩, meth, c, A, Q, g⟩ := X
  obtain ⟨hx, hb, hml, hown, hts, hKS, hAz, hAn, hst9, hlk, hrt, hnm, hR, hex⟩ := hX
  intro H locs ls hz hM hA hS hl
  obtain ⟨h1, rfl⟩ := h
  exact lv_lconst hx hb h1 rfl (k H locs ls hz hM hA hS hl)
theorem g_null (hX : Cok X d) (h : At d pc .aconst_null 1 n) (k : G X n lv (.null :: st) M sz cs ss) : G X pc lv st M sz cs ss := by
  obtain ⟨⟨p, l, e, R, s, m, args, below⟩, meth, c, A, Q, g⟩ := X
  obtain ⟨hx, hb, hml, hown, hts, hKS, hAz, hAn, hst9, hlk, hrt, hnm, hR, hex⟩ := hX
  intro H locs ls hz hM hA hS hl
  obtain ⟨h1, rfl⟩ := h
  exact lv_null hx hb h1 (k H locs ls hz hM hA hS hl)
theorem g_dup {v : Value} (hX : Cok X d) (h : At d pc .dup 1 n) (hc : v.category = 1) (k : G X n lv (v :: v :: st) M sz cs ss) : G X pc lv (v :: st) M sz cs ss := by
  obtain ⟨⟨p, l, e, R, s, m, args, below⟩, meth, c, A, Q, g⟩ := X
  obtain ⟨hx, hb, hml, hown, hts, hKS, hAz, hAn, hst9, hlk, hrt, hnm, hR, hex⟩ := hX
  intro H locs ls hz hM hA hS hl
  obtain ⟨h1, rfl⟩ := h
  exact lv_dup hx hb h1 hc (k H locs ls hz hM hA hS hl)
theorem g_pop {v : Value} (hX : Cok X d) (h : At d pc .pop 1 n) (hc : v.category = 1) (k : G X n lv st M sz cs ss) : G X pc lv (v :: st) M sz cs ss := by
  obtain ⟨⟨p, l, e, R, s, m, args, below⟩, meth, c, A, Q, g⟩ := X
  obtain ⟨hx, hb, hml, hown, hts, hKS, hAz, hAn, hst9, hlk, hrt, hnm, hR, hex⟩ := hX
  intro H locs ls hz hM hA hS hl
  obtain ⟨h1, rfl⟩ := h
  exact lv_pop hx hb h1 hc (k H locs ls hz hM hA hS hl)
theorem g_dup_x1 {v u : Value} (hX : Cok X d) (h : At d pc .dup_x1 1 n) (hc : v.category = 1) (hc2 : u.category = 1) (k : G X n lv (v :: u :: v :: st) M sz cs ss) : G X pc lv (v :: u :: st) M sz cs ss := by
  obtain ⟨⟨p, l, e, R, s, m, args, below⟩, meth, c, A, Q, g⟩ := X
  obtain ⟨hx, hb, hml, hown, hts, hKS, hAz, hAn, hst9, hlk, hrt, hnm, hR, hex⟩ := hX
  intro H locs ls hz hM hA hS hl
  obtain ⟨h1, rfl⟩ := h
  exact lv_dup_x1 hx hb h1 hc hc2 (k H locs ls hz hM hA hS hl)
theorem g_dup2 {v u : Value} (hX : Cok X d) (h : At d pc .dup2 1 n) (hc : v.category = 1) (hc2 : u.category = 1) (k : G X n lv (v :: u :: v :: u :: st) M sz cs ss) : G X pc lv (v :: u :: st) M sz cs ss := by
  obtain ⟨⟨p, l, e, R, s, m, args, below⟩, meth, c, A, Q, g⟩ := X
  obtain ⟨hx, hb, hml, hown, hts, hKS, hAz, hAn, hst9, hlk, hrt, hnm, hR, hex⟩ := hX
  intro H locs ls hz hM hA hS hl
  obtain ⟨h1, rfl⟩ := h
  exact lv_dup2_11 hx hb h1 hc hc2 (k H locs ls hz hM hA hS hl)
theorem g_goto (hX : Cok X d) (h : AtG d pc t) (k : G X t lv st M sz cs ss) : G X pc lv st M sz cs ss := by
  obtain ⟨⟨p, l, e, R, s, m, args, below⟩, meth, c, A, Q, g⟩ := X
  obtain ⟨hx, hb, hml, hown, hts, hKS, hAz, hAn, hst9, hlk, hrt, hnm, hR, hex⟩ := hX
  intro H locs ls hz hM hA hS hl
  obtain ⟨off, h1, h2⟩ := h
  exact lv_goto hx hb h1 h2 (k H locs ls hz hM hA hS hl)
theorem g_icmp_eq {x y : Int32} (hX : Cok X d) (h : AtJ d pc (.if_icmp .eq) n t) (kt : x = y → G X t lv st M sz cs ss) (kf : ¬ x = y → G X n lv st M sz cs ss) : G X pc lv (.int y :: .int x :: st) M sz cs ss := by
  obtain ⟨⟨p, l, e, R, s, m, args, below⟩, meth, c, A, Q, g⟩ := X
  obtain ⟨hx, hb, hml, hown, hts, hKS, hAz, hAn, hst9, hlk, hrt, hnm, hR, hex⟩ := hX
  intro H locs ls hz hM hA hS hl
  obtain ⟨off, h1, rfl, h2⟩ := h
  exact lv_icmp_eq hx hb h1 h2 (fun q => kt q H locs ls hz hM hA hS hl) (fun q => kf q H locs ls hz hM hA hS hl)
theorem g_if_eq {x : Int32} (hX : Cok X d) (h : AtJ d pc (.ifCond .eq) n t) (kt : x = 0 → G X t lv st M sz cs ss) (kf : ¬ x = 0 → G X n lv st M sz cs ss) : G X pc lv (.int x :: st) M sz cs ss := by
  obtain ⟨⟨p, l, e, R, s, m, args, below⟩, meth, c, A, Q, g⟩ := X
  obtain ⟨hx, hb, hml, hown, hts, hKS, hAz, hAn, hst9, hlk, hrt, hnm, hR, hex⟩ := hX
  intro H locs ls hz hM hA hS hl
  obtain ⟨off, h1, rfl, h2⟩ := h
  exact lv_if_eq hx hb h1 h2 (fun q => kt q H locs ls hz hM hA hS hl) (fun q => kf q H locs ls hz hM hA hS hl)
theorem g_icmp_ne {x y : Int32} (hX : Cok X d) (h : AtJ d pc (.if_icmp .ne) n t) (kt : ¬ x = y → G X t lv st M sz cs ss) (kf : x = y → G X n lv st M sz cs ss) : G X pc lv (.int y :: .int x :: st) M sz cs ss := by
  obtain ⟨⟨p, l, e, R, s, m, args, below⟩, meth, c, A, Q, g⟩ := X
  obtain ⟨hx, hb, hml, hown, hts, hKS, hAz, hAn, hst9, hlk, hrt, hnm, hR, hex⟩ := hX
  intro H locs ls hz hM hA hS hl
  obtain ⟨off, h1, rfl, h2⟩ := h
  exact lv_icmp_ne hx hb h1 h2 (fun q => kt q H locs ls hz hM hA hS hl) (fun q => kf q H locs ls hz hM hA hS hl)
theorem g_if_ne {x : Int32} (hX : Cok X d) (h : AtJ d pc (.ifCond .ne) n t) (kt : ¬ x = 0 → G X t lv st M sz cs ss) (kf : x = 0 → G X n lv st M sz cs ss) : G X pc lv (.int x :: st) M sz cs ss := by
  obtain ⟨⟨p, l, e, R, s, m, args, below⟩, meth, c, A, Q, g⟩ := X
  obtain ⟨hx, hb, hml, hown, hts, hKS, hAz, hAn, hst9, hlk, hrt, hnm, hR, hex⟩ := hX
  intro H locs ls hz hM hA hS hl
  obtain ⟨off, h1, rfl, h2⟩ := h
  exact lv_if_ne hx hb h1 h2 (fun q => kt q H locs ls hz hM hA hS hl) (fun q => kf q H locs ls hz hM hA hS hl)
theorem g_icmp_lt {x y : Int32} (hX : Cok X d) (h : AtJ d pc (.if_icmp .lt) n t) (kt : x < y → G X t lv st M sz cs ss) (kf : ¬ x < y → G X n lv st M sz cs ss) : G X pc lv (.int y :: .int x :: st) M sz cs ss := by
  obtain ⟨⟨p, l, e, R, s, m, args, below⟩, meth, c, A, Q, g⟩ := X
  obtain ⟨hx, hb, hml, hown, hts, hKS, hAz, hAn, hst9, hlk, hrt, hnm, hR, hex⟩ := hX
  intro H locs ls hz hM hA hS hl
  obtain ⟨off, h1, rfl, h2⟩ := h
  exact lv_icmp_lt hx hb h1 h2 (fun q => kt q H locs ls hz hM hA hS hl) (fun q => kf q H locs ls hz hM hA hS hl)
theorem g_if_lt {x : Int32} (hX : Cok X d) (h : AtJ d pc (.ifCond .lt) n t) (kt : x < 0 → G X t lv st M sz cs ss) (kf : ¬ x < 0 → G X n lv st M sz cs ss) : G X pc lv (.int x :: st) M sz cs ss := by
  obtain ⟨⟨p, l, e, R, s, m, args, below⟩, meth, c, A, Q, g⟩ := X
  obtain ⟨hx, hb, hml, hown, hts, hKS, hAz, hAn, hst9, hlk, hrt, hnm, hR, hex⟩ := hX
  intro H locs ls hz hM hA hS hl
  obtain ⟨off, h1, rfl, h2⟩ := h
  exact lv_if_lt hx hb h1 h2 (fun q => kt q H locs ls hz hM hA hS hl) (fun q => kf q H locs ls hz hM hA hS hl)
theorem g_icmp_ge {x y : Int32} (hX : Cok X d) (h : AtJ d pc (.if_icmp .ge) n t) (kt : y ≤ x → G X t lv st M sz cs ss) (kf : ¬ y ≤ x → G X n lv st M sz cs ss) : G X pc lv (.int y :: .int x :: st) M sz cs ss := by
  obtain ⟨⟨p, l, e, R, s, m, args, below⟩, meth, c, A, Q, g⟩ := X
  obtain ⟨hx, hb, hml, hown, hts, hKS, hAz, hAn, hst9, hlk, hrt, hnm, hR, hex⟩ := hX
  intro H locs ls hz hM hA hS hl
  obtain ⟨off, h1, rfl, h2⟩ := h
  exact lv_icmp_ge hx hb h1 h2 (fun q => kt q H locs ls hz hM hA hS hl) (fun q => kf q H locs ls hz hM hA hS hl)
theorem g_if_ge {x : Int32} (hX : Cok X d) (h : AtJ d pc (.ifCond .ge) n t) (kt : 0 ≤ x → G X t lv st M sz cs ss) (kf : ¬ 0 ≤ x → G X n lv st M sz cs ss) : G X pc lv (.int x :: st) M sz cs ss := by
  obtain ⟨⟨p, l, e, R, s, m, args, below⟩, meth, c, A, Q, g⟩ := X
  obtain ⟨hx, hb, hml, hown, hts, hKS, hAz, hAn, hst9, hlk, hrt, hnm, hR, hex⟩ := hX
  intro H locs ls hz hM hA hS hl
  obtain ⟨off, h1, rfl, h2⟩ := h
  exact lv_if_ge hx hb h1 h2 (fun q => kt q H locs ls hz hM hA hS hl) (fun q => kf q H locs ls hz hM hA hS hl)
theorem g_icmp_gt {x y : Int32} (hX : Cok X d) (h : AtJ d pc (.if_icmp .gt) n t) (kt : y < x → G X t lv st M sz cs ss) (kf : ¬ y < x → G X n lv st M sz cs ss) : G X pc lv (.int y :: .int x :: st) M sz cs ss := by
  obtain ⟨⟨p, l, e, R, s, m, args, below⟩, meth, c, A, Q, g⟩ := X
  obtain ⟨hx, hb, hml, hown, hts, hKS, hAz, hAn, hst9, hlk, hrt, hnm, hR, hex⟩ := hX
  intro H locs ls hz hM hA hS hl
  obtain ⟨off, h1, rfl, h2⟩ := h
  exact lv_icmp_gt hx hb h1 h2 (fun q => kt q H locs ls hz hM hA hS hl) (fun q => kf q H locs ls hz hM hA hS hl)
theorem g_if_gt {x : Int32} (hX : Cok X d) (h : AtJ d pc (.ifCond .gt) n t) (kt : 0 < x → G X t lv st M sz cs ss) (kf : ¬ 0 < x → G X n lv st M sz cs ss) : G X pc lv (.int x :: st) M sz cs ss := by
  obtain ⟨⟨p, l, e, R, s, m, args, below⟩, meth, c, A, Q, g⟩ := X
  obtain ⟨hx, hb, hml, hown, hts, hKS, hAz, hAn, hst9, hlk, hrt, hnm, hR, hex⟩ := hX
  intro H locs ls hz hM hA hS hl
  obtain ⟨off, h1, rfl, h2⟩ := h
  exact lv_if_gt hx hb h1 h2 (fun q => kt q H locs ls hz hM hA hS hl) (fun q => kf q H locs ls hz hM hA hS hl)
theorem g_icmp_le {x y : Int32} (hX : Cok X d) (h : AtJ d pc (.if_icmp .le) n t) (kt : x ≤ y → G X t lv st M sz cs ss) (kf : ¬ x ≤ y → G X n lv st M sz cs ss) : G X pc lv (.int y :: .int x :: st) M sz cs ss := by
  obtain ⟨⟨p, l, e, R, s, m, args, below⟩, meth, c, A, Q, g⟩ := X
  obtain ⟨hx, hb, hml, hown, hts, hKS, hAz, hAn, hst9, hlk, hrt, hnm, hR, hex⟩ := hX
  intro H locs ls hz hM hA hS hl
  obtain ⟨off, h1, rfl, h2⟩ := h
  exact lv_icmp_le hx hb h1 h2 (fun q => kt q H locs ls hz hM hA hS hl) (fun q => kf q H locs ls hz hM hA hS hl)
theorem g_if_le {x : Int32} (hX : Cok X d) (h : AtJ d pc (.ifCond .le) n t) (kt : x ≤ 0 → G X t lv st M sz cs ss) (kf : ¬ x ≤ 0 → G X n lv st M sz cs ss) : G X pc lv (.int x :: st) M sz cs ss := by
  obtain ⟨⟨p, l, e, R, s, m, args, below⟩, meth, c, A, Q, g⟩ := X
  obtain ⟨hx, hb, hml, hown, hts, hKS, hAz, hAn, hst9, hlk, hrt, hnm, hR, hex⟩ := hX
  intro H locs ls hz hM hA hS hl
  obtain ⟨off, h1, rfl, h2⟩ := h
  exact lv_if_le hx hb h1 h2 (fun q => kt q H locs ls hz hM hA hS hl) (fun q => kf q H locs ls hz hM hA hS hl)
theorem g_acmp_eq {rx ry : Option Nat} {vx vy : Value} (hX : Cok X d) (h : AtJ d pc (.if_acmp .eq) n t) (ex : vx = va_rf rx) (ey : vy = va_rf ry) (kt : rx = ry → G X t lv st M sz cs ss) (kf : ¬ rx = ry → G X n lv st M sz cs ss) : G X pc lv (vy :: vx :: st) M sz cs ss := by
  obtain ⟨⟨p, l, e, R, s, m, args, below⟩, meth, c, A, Q, g⟩ := X
  obtain ⟨hx, hb, hml, hown, hts, hKS, hAz, hAn, hst9, hlk, hrt, hnm, hR, hex⟩ := hX
  intro H locs ls hz hM hA hS hl
  obtain ⟨off, h1, rfl, h2⟩ := h
  subst ex
  subst ey
  exact lv_acmp_eq hx hb h1 h2 (fun q => kt q H locs ls hz hM hA hS hl) (fun q => kf q H locs ls hz hM hA hS hl)
theorem g_acmp_ne {rx ry : Option Nat} {vx vy : Value} (hX : Cok X d) (h : AtJ d pc (.if_acmp .ne) n t) (ex : vx = va_rf rx) (ey : vy = va_rf ry) (kt : ¬ rx = ry → G X t lv st M sz cs ss) (kf : rx = ry → G X n lv st M sz cs ss) : G X pc lv (vy :: vx :: st) M sz cs ss := by
  obtain ⟨⟨p, l, e, R, s, m, args, below⟩, meth, c, A, Q, g⟩ := X
  obtain ⟨hx, hb, hml, hown, hts, hKS, hAz, hAn, hst9, hlk, hrt, hnm, hR, hex⟩ := hX
  intro H locs ls hz hM hA hS hl
  obtain ⟨off, h1, rfl, h2⟩ := h
  subst ex
  subst ey
  exact lv_acmp_ne hx hb h1 h2 (fun q => kt q H locs ls hz hM hA hS hl) (fun q => kf q H locs ls hz hM hA hS hl)
theorem g_ifnull {r : Option Nat} {v : Value} (hX : Cok X d) (h : AtJ d pc .ifnull n t) (ev : v = va_rf r) (kt : r = none → G X t lv st M sz cs ss) (kf : ∀ a, r = some a → G X n lv st M sz cs ss) : G X pc lv (v :: st) M sz cs ss := by
  obtain ⟨⟨p, l, e, R, s, m, args, below⟩, meth, c, A, Q, g⟩ := X
  obtain ⟨hx, hb, hml, hown, hts, hKS, hAz, hAn, hst9, hlk, hrt, hnm, hR, hex⟩ := hX
  intro H locs ls hz hM hA hS hl
  obtain ⟨off, h1, rfl, h2⟩ := h
  subst ev
  cases r with
  | none => exact lv_ifnullN hx hb h1 h2 (kt rfl H locs ls hz hM hA hS hl)
  | some a => exact lv_ifnull hx hb h1 (kf a rfl H locs ls hz hM hA hS hl)
theorem g_ifnonnull {r : Option Nat} {v : Value} (hX : Cok X d) (h : AtJ d pc .ifnonnull n t) (ev : v = va_rf r) (kt : ∀ a, r = some a → G X t lv st M sz cs ss) (kf : r = none → G X n lv st M sz cs ss) : G X pc lv (v :: st) M sz cs ss := by
  obtain ⟨⟨p, l, e, R, s, m, args, below⟩, meth, c, A, Q, g⟩ := X
  obtain ⟨hx, hb, hml, hown, hts, hKS, hAz, hAn, hst9, hlk, hrt, hnm, hR, hex⟩ := hX
  intro H locs ls hz hM hA hS hl
  obtain ⟨off, h1, rfl, h2⟩ := h
  subst ev
  cases r with
  | none => exact lv_ifnonnullN hx hb h1 (kf rfl H locs ls hz hM hA hS hl)
  | some a => exact lv_ifnonnull hx hb h1 h2 (kt a rfl H locs ls hz hM hA hS hl)
end R1
end
section
theorem uw_Jx4a65c : ∀ w ∈ u_ws RJx4a65c TJx4a65c 3, w ∈ lw_tbl ∧ tw w = true := by decide +kernel
theorem uw_X1 : ∀ w ∈ u_ws RX1 TX1 5, w ∈ lw_tbl ∧ tw w = true := by decide +kernel
theorem uw_X2 : ∀ w ∈ u_ws RX2 TX2 1, w ∈ lw_tbl ∧ tw w = true := by decide +kernel
theorem uw_X3 : ∀ w ∈ u_ws RX3 TX3 2, w ∈ lw_tbl ∧ tw w = true := by decide +kernel
theorem uw_X4 : ∀ w ∈ u_ws RX4 TX4 3, w ∈ lw_tbl ∧ tw w = true := by decide +kernel
theorem uw_X5 : ∀ w ∈ u_ws RX5 TX5 5, w ∈ lw_tbl ∧ tw w = true := by decide +kernel
theorem uw_X6 : ∀ w ∈ u_ws RX6 TX6 4, w ∈ lw_tbl ∧ tw w = true := by decide +kernel
theorem uw_X7 : ∀ w ∈ u_ws RX7 TX7 5, w ∈ lw_tbl ∧ tw w = true := by decide +kernel
theorem uw_X8 : ∀ w ∈ u_ws RX8 TX8 5, w ∈ lw_tbl ∧ tw w = true := by decide +kernel
theorem uw_X9 : ∀ w ∈ u_ws RX9 TX9 7, w ∈ lw_tbl ∧ tw w = true := by decide +kernel
theorem uw_X10 : ∀ w ∈ u_ws RX10 TX10 31, w ∈ lw_tbl ∧ tw w = true := by decide +kernel
def tyf9 : List (Nat → FieldType) := [tyJx4a65c, tyX1, tyX2, tyX3, tyX4, tyX5, tyX6, tyX7, tyX8, tyX9, tyX10]
theorem c9_cases {P : Nat → vw_C → Prop} (h0 : P 0 (RJx4a65c, TJx4a65c, 3)) (h1 : P 1 (RX1, TX1, 5)) (h2 : P 2 (RX2, TX2, 1)) (h3 : P 3 (RX3, TX3, 2)) (h4 : P 4 (RX4, TX4, 3)) (h5 : P 5 (RX5, TX5, 5)) (h6 : P 6 (RX6, TX6, 4)) (h7 : P 7 (RX7, TX7, 5)) (h8 : P 8 (RX8, TX8, 5)) (h9 : P 9 (RX9, TX9, 7)) (h10 : P 10 (RX10, TX10, 31)) : ∀ (ci : Nat) (q : vw_C), cls9[ci]? = some q → P ci q := by
  intro ci q hq
  match ci, hq with
  | 0, hq => cases hq; exact h0
  | 1, hq => cases hq; exact h1
  | 2, hq => cases hq; exact h2
  | 3, hq => cases hq; exact h3
  | 4, hq => cases hq; exact h4
  | 5, hq => cases hq; exact h5
  | 6, hq => cases hq; exact h6
  | 7, hq => cases hq; exact h7
  | 8, hq => cases hq; exact h8
  | 9, hq => cases hq; exact h9
  | 10, hq => cases hq; exact h10
  | k + 11, hq => simp [cls9] at hq
theorem uw9 : ∀ (ci : Nat) (q : vw_C), cls9[ci]? = some q → ∀ w ∈ u_ws q.1 q.2.1 q.2.2, w ∈ lw_tbl ∧ tw w = true := c9_cases (P := fun _ q => ∀ w ∈ u_ws q.1 q.2.1 q.2.2, w ∈ lw_tbl ∧ tw w = true) uw_Jx4a65c uw_X1 uw_X2 uw_X3 uw_X4 uw_X5 uw_X6 uw_X7 uw_X8 uw_X9 uw_X10
theorem ty9 : ∀ (ci : Nat) (q : vw_C), cls9[ci]? = some q → ∀ k, k < q.2.2 → parseFieldDescriptor (q.2.1 k).2.2.1 = some ((tyf9.getD ci tyX10) k) := c9_cases (P := fun ci q => ∀ k, k < q.2.2 → parseFieldDescriptor (q.2.1 k).2.2.1 = some ((tyf9.getD ci tyX10) k)) tyJx4a65c_ok tyX1_ok tyX2_ok tyX3_ok tyX4_ok tyX5_ok tyX6_ok tyX7_ok tyX8_ok tyX9_ok tyX10_ok
theorem nm9 : ∀ (ci : Nat) (q : vw_C), cls9[ci]? = some q → ∀ a, a < q.2.2 → ∀ b, b < q.2.2 → a ≠ b → (q.2.1 a).2.1 ≠ (q.2.1 b).2.1 := c9_cases (P := fun _ q => ∀ a, a < q.2.2 → ∀ b, b < q.2.2 → a ≠ b → (q.2.1 a).2.1 ≠ (q.2.1 b).2.1) nmJx4a65c nmX1 nmX2 nmX3 nmX4 nmX5 nmX6 nmX7 nmX8 nmX9 nmX10
/-! fields -/
def AtFl (d : hD) (index : Nat) (q : vw_C) (k : Nat) : Prop :=
  (∃ i : Nat, lw_tbl[i]? = some (Cond.fieldLink d.1.cls index (q.2.1 k).1 (q.2.1 k).2.1 (q.2.1 k).2.2.1)) ∨
  (∃ (i j : Nat) (ref : String), lw_tbl[i]? = some (Cond.fieldLink d.1.cls index ref (q.2.1 k).2.1 (q.2.1 k).2.2.1) ∧ lw_tbl[j]? = some (Cond.sameField ref (q.2.1 k).1 (q.2.1 k).2.1 (q.2.1 k).2.2.1))
def AtFn (d : hD) (index : Nat) (q : vw_C) (k : Nat) : Prop := ∃ (i : Nat) (host : String), lw_tbl[i]? = some (Cond.fieldLinkNest d.1.cls index (q.2.1 k).1 (q.2.1 k).2.1 (q.2.1 k).2.2.1 host)
def AtF (d : hD) (pc ci k n : Nat) : Prop := ∃ (index : Nat) (q : vw_C), decode d.2.1 pc = .ok (.getfield index, 3) ∧ pc + 3 = n ∧ cls9[ci]? = some q ∧ k < q.2.2 ∧ (AtFl d index q k ∨ AtFn d index q k)
def AtP (d : hD) (pc ci k : Nat) (ty : FieldType) (n : Nat) : Prop := ∃ (index : Nat) (q : vw_C), decode d.2.1 pc = .ok (.putfield index, 3) ∧ pc + 3 = n ∧ cls9[ci]? = some q ∧ k < q.2.2 ∧ AtFl d index q k ∧ parseFieldDescriptor (q.2.1 k).2.2.1 = some ty ∧ ((q.2.1 k).2.2.2 = false ∨ ((q.2.1 k).2.2.2 = true ∧ d.1.name = "<init>" ∧ (q.2.1 k).1 = d.1.cls))
theorem fl_use {d : hD} {index : Nat} {q : vw_C} {k : Nat} {args : Array Value} {s : State} (hts : TW args s) (h : AtFl d index q k) : ∃ ref : String, (Cond.fieldLink d.1.cls index ref (q.2.1 k).2.1 (q.2.1 k).2.2.1).before args s = true ∧ ∀ x, s.fieldFound? (q.2.1 k).1 (q.2.1 k).2.1 (q.2.1 k).2.2.1 = some x → s.fieldFound? ref (q.2.1 k).2.1 (q.2.1 k).2.2.1 = some x := by
  rcases h with ⟨i, hi⟩ | ⟨i, j, ref, hi, hj⟩
  · exact ⟨_, hts.at i hi rfl, fun _ z => z⟩
  · exact ⟨ref, hts.at i hi rfl, u_same (hts.at j hj rfl)⟩
section R2
variable {X : hX} {d : hD} {pc n t i a ci k : Nat} {lv st : List Value} {M : hM} {sz cs ss : Nat}
theorem g_get {fs : List Value} {v : Value} (hX : Cok X d) (h : AtF d pc ci k n) (hm : M a = some (.inl (ci, fs))) (hv : fs[k]? = some v) (kk : G X n lv (v :: st) M sz cs ss) : G X pc lv (.ref a :: st) M sz cs ss := by
  obtain ⟨⟨p, l, e, R, s, m, args, below⟩, meth, c, A, Q, g⟩ := X
  obtain ⟨hx, hb, hml, hown, hts, hKS, hAz, hAn, hst9, hlk, hrt, hnm, hR, hex⟩ := hX
  intro H locs ls hz hM hA hS hl
  obtain ⟨index, ⟨C, T, N⟩, h1, rfl, hq, hk, hf⟩ := h
  rcases hf with hf | ⟨j, host, hj⟩
  · obtain ⟨ref, hl1, hsame⟩ := fl_use hts hf
    exact va_get (D := g.1) (Ts := u_ws C T N) hx hb (fun w hw => hts w (uw9 ci _ hq w hw).1 (uw9 ci _ hq w hw).2) (fun _ z => z) hown hKS.1 (hM.one hm) 0 rfl hq k hk hl1 hsame hv h1 (kk H locs ls hz hM hA hS hl)
  · exact va_getN (D := g.1) (Ts := u_ws C T N) hx hb (fun w hw => hts w (uw9 ci _ hq w hw).1 (uw9 ci _ hq w hw).2) (fun _ z => z) hown hKS.1 (hM.one hm) 0 rfl hq k hk (hts.at j hj rfl) (fun _ z => z) hv h1 (kk H locs ls hz hM hA hS hl)
theorem g_put {fs : List Value} {v : Value} {ty : FieldType} (hX : Cok X d) (h : AtP d pc ci k ty n) (hm : M a = some (.inl (ci, fs))) (hlen : k < fs.length) (hn : narrow ty v = v) (hfit : fits ty v = true) (kk : G X n lv st (hup M a (.inl (ci, fs.set k v))) sz cs ss) : G X pc lv (v :: .ref a :: st) M sz cs ss := by
  obtain ⟨⟨p, l, e, R, s, m, args, below⟩, meth, c, A, Q, g⟩ := X
  obtain ⟨hx, hb, hml, hown, hts, hKS, hAz, hAn, hst9, hlk, hrt, hnm, hR, hex⟩ := hX
  intro H locs ls hz hM hA hS hl
  obtain ⟨index, ⟨C, T, N⟩, h1, rfl, hq, hk, hf, hd, hfin⟩ := h
  obtain ⟨ref, hl1, hsame⟩ := fl_use hts hf
  have hts9 : ∀ w ∈ u_ws C T N, w.before args s = true := fun w hw => hts w (uw9 ci _ hq w hw).1 (uw9 ci _ hq w hw).2
  have hap := va_apart (own := d.1.cls) hts9 (fun _ z => z) _ (ty9 ci _ hq) (nm9 ci _ hq) hKS.1 hq
  obtain ⟨r, r1, cell, q1, q2, q3, q4⟩ := hM a _ hm
  have hr : r = (C, T, N) := Option.some.inj (r1.symm.trans hq)
  subst hr
  obtain ⟨hSl, hfc, kC, hkC, hkind⟩ := hKS.1.1 ci _ hq
  obtain ⟨cf, kf, fi, f, hi, hsl⟩ := hSl k hk
  have hlay := hts9 _ (u_in_lay hk)
  have hst := (u_facts hfc hkC (u_lays hts9 (fun _ z => z) hk) hi).1
  have fin : ∀ H' : Heap, H'[a]? = some (cell.setSlot f.slot v) → H'.size = H.size → (∀ q, q ≠ a → H'[q]? = H[q]?) → W p l e R s m args below meth c H' (locs ++ [⟨a, f.slot⟩]) cs ss Q (F0 m (pc + 3) ls st) := by
    intro H' e1 e2 e3
    rw [hsl] at e1
    refine kk H' _ ls (e2.trans hz) (hM.set ⟨_, hq, t_OB.to (V := updV (vp_V fs) k v) ⟨_, e1, q2, q3, t_set q4 hap hk v⟩ (fun j _ => vp_updV_set hlen v j)⟩ e3) ?_ (hS.put e2 e3 (hA a _ hm)) hl
    intro q x hx9
    by_cases eq : q = a
    · rw [eq]; exact hA a _ hm
    · rw [hup_n _ _ eq] at hx9; exact hA q x hx9
  rcases hfin with hfin | ⟨hfin, hin1, hdecl⟩
  · unfold u_lay at hlay
    rw [if_neg (by rw [hfin]; decide)] at hlay
    have h6 := u_store hfc hkC hkind hlay hi hd hn hfit
    exact W.putK hx hb (f := f) ⟨hown, hl1, ⟨_, _, _, hsame _ hi⟩, hst⟩ (by rw [q2]; exact h6) q1 q3 (by rw [hsl]; exact k2_hasslot (q4 k hk)) rfl rfl h1 fin
  · unfold u_lay at hlay
    rw [if_pos hfin] at hlay
    have hcf : m.cls = cf := by
      obtain ⟨_, _, c', _, _, _, -, -, hf', -, -, -, hown2, -⟩ := Cond.laysFinal_spec hlay
      have e1 : c' = cf := by have := hi.symm.trans hf'; simp at this; exact this.1.symm
      rw [hdecl] at hown2
      rw [← e1]; exact Option.some.inj (hown.symm.trans hown2)
    have h6 := u_fits hfc hkC hkind (Or.inr hlay) hi hd hn hfit
    exact W.putFinK hx hb hown hl1 (hsame _ hi) hst hcf (hnm.trans hin1) (by rw [q2]; exact h6) q1 q3 (by rw [hsl]; exact k2_hasslot (q4 k hk)) rfl rfl h1 fin
theorem g_iald {i : Int32} {len : Nat} {f : Nat → Int32} (hX : Cok X d) (h : At d pc .iaload 1 n) (hm : M a = some (.inr (0, len, .inl f))) (hin : vp_in i len) (kk : G X n lv (.int (f i.toNatClampNeg) :: st) M sz cs ss) : G X pc lv (.int i :: .ref a :: st) M sz cs ss := by
  obtain ⟨⟨p, l, e, R, s, m, args, below⟩, meth, c, A, Q, g⟩ := X
  obtain ⟨hx, hb, hml, hown, hts, hKS, hAz, hAn, hst9, hlk, hrt, hnm, hR, hex⟩ := hX
  intro H locs ls hz hM hA hS hl
  obtain ⟨h1, rfl⟩ := h
  exact va_iald (D := g.1) hx hb hKS.1 (hM.one hm) 0 0 rfl rfl hin h1 (kk H locs ls hz hM hA hS hl)
theorem g_zald {i : Int32} {len : Nat} {f : Nat → Int32} (hX : Cok X d) (h : At d pc .baload 1 n) (hm : M a = some (.inr (1, len, .inl f))) (hin : vp_in i len) (kk : G X n lv (.int (f i.toNatClampNeg) :: st) M sz cs ss) : G X pc lv (.int i :: .ref a :: st) M sz cs ss := by
  obtain ⟨⟨p, l, e, R, s, m, args, below⟩, meth, c, A, Q, g⟩ := X
  obtain ⟨hx, hb, hml, hown, hts, hKS, hAz, hAn, hst9, hlk, hrt, hnm, hR, hex⟩ := hX
  intro H locs ls hz hM hA hS hl
  obtain ⟨h1, rfl⟩ := h
  exact va_zald (D := g.1) hx hb hKS.1 (hM.one hm) 0 1 rfl rfl hin h1 (kk H locs ls hz hM hA hS hl)
theorem g_lald {i : Int32} {len : Nat} {f : Nat → Int64} (hX : Cok X d) (h : At d pc .laload 1 n) (hm : M a = some (.inr (2, len, .inr (.inl f)))) (hin : vp_in i len) (kk : G X n lv (.long (f i.toNatClampNeg) :: st) M sz cs ss) : G X pc lv (.int i :: .ref a :: st) M sz cs ss := by
  obtain ⟨⟨p, l, e, R, s, m, args, below⟩, meth, c, A, Q, g⟩ := X
  obtain ⟨hx, hb, hml, hown, hts, hKS, hAz, hAn, hst9, hlk, hrt, hnm, hR, hex⟩ := hX
  intro H locs ls hz hM hA hS hl
  obtain ⟨h1, rfl⟩ := h
  exact va_lald (D := g.1) hx hb hKS.1 (hM.one hm) 0 2 rfl rfl hin h1 (kk H locs ls hz hM hA hS hl)
theorem g_aald {i : Int32} {len : Nat} {f : Nat → Option Nat} (hX : Cok X d) (h : At d pc .aaload 1 n) (hm : M a = some (.inr (3, len, .inr (.inr f)))) (hin : vp_in i len) (kk : G X n lv (va_rf (f i.toNatClampNeg) :: st) M sz cs ss) : G X pc lv (.int i :: .ref a :: st) M sz cs ss := by
  obtain ⟨⟨p, l, e, R, s, m, args, below⟩, meth, c, A, Q, g⟩ := X
  obtain ⟨hx, hb, hml, hown, hts, hKS, hAz, hAn, hst9, hlk, hrt, hnm, hR, hex⟩ := hX
  intro H locs ls hz hM hA hS hl
  obtain ⟨h1, rfl⟩ := h
  exact va_aldq (D := g.1) hx hb hKS.1 (hM.one hm) 0 3 rfl rfl hin h1 (kk H locs ls hz hM hA hS hl)
theorem g_alen {x : Nat × ((Nat → Int32) ⊕ ((Nat → Int64) ⊕ (Nat → Option Nat)))} {k9 : Nat} (hX : Cok X d) (h : At d pc .arraylength 1 n) (hm : M a = some (.inr (k9, x))) (hk9 : k9 < 4) (kk : G X n lv (.int (Int32.ofNat x.1) :: st) M sz cs ss) : G X pc lv (.ref a :: st) M sz cs ss := by
  obtain ⟨⟨p, l, e, R, s, m, args, below⟩, meth, c, A, Q, g⟩ := X
  obtain ⟨hx, hb, hml, hown, hts, hKS, hAz, hAn, hst9, hlk, hrt, hnm, hR, hex⟩ := hX
  intro H locs ls hz hM hA hS hl
  obtain ⟨h1, rfl⟩ := h
  obtain ⟨len, f | f | f⟩ := x
  all_goals
    have hK9 : ∃ ty, (tys9 g.2.1)[k9]? = some (g.2.1 k9, ty) := by
      match k9, hk9 with
      | 0, _ => exact ⟨_, rfl⟩
      | 1, _ => exact ⟨_, rfl⟩
      | 2, _ => exact ⟨_, rfl⟩
      | 3, _ => exact ⟨_, rfl⟩
    obtain ⟨ty, hty⟩ := hK9
    exact va_alen (D := g.1) hx hb hKS.1 (hM.one hm) 0 k9 rfl hty rfl h1 (kk H locs ls hz hM hA hS hl)
theorem dom_up {A : Nat → Prop} {x : hC} (hA : ∀ (q : Nat) (x : hC), M q = some x → A q) (ha : A a) : ∀ (q : Nat) (y : hC), hup M a x q = some y → A q := by
  intro q y hy
  by_cases e : q = a
  · rw [e]; exact ha
  · rw [hup_n _ _ e] at hy; exact hA q y hy
theorem g_iast {i : Int32} {x : Int32} {len : Nat} {f : Nat → Int32} (hX : Cok X d) (h : At d pc .iastore 1 n) (hm : M a = some (.inr (0, len, (.inl f)))) (hin : vp_in i len) (kk : G X n lv st (hup M a (.inr (0, len, (.inl (upd f i.toNatClampNeg x))))) sz cs ss) : G X pc lv (.int x :: .int i :: .ref a :: st) M sz cs ss := by
  obtain ⟨⟨p, l, e, R, s, m, args, below⟩, meth, c, A, Q, g⟩ := X
  obtain ⟨hx, hb, hml, hown, hts, hKS, hAz, hAn, hst9, hlk, hrt, hnm, hR, hex⟩ := hX
  intro H locs ls hz hM hA hS hl
  obtain ⟨h1, rfl⟩ := h
  refine W.iast hx hb (hM a _ hm) ((hKS.1.2 0 _ rfl).1 len (fun j => .int (f j))) (fun q => by cases q) (by show ¬ (i < 0 ∨ (arrV _ _ _).slots.size ≤ _); rw [arrV_size]; exact hin) rfl rfl h1 fun H1 e z oq => ?_
  refine kk H1 _ ls (z.trans hz) (hM.set ?_ oq) (dom_up hA (hA a _ hm)) (hS.put z oq (hA a _ hm)) hl
  show H1[a]? = some (vp_cell _ _)
  rw [e]
  dsimp only
  rw [vp_cell_i, vp_cell_i, arrV_store]
  congr 2
  funext q
  by_cases hq : q = i.toNatClampNeg
  · subst hq
    simp [updV, upd, vp_updL, vp_nar]
    try rfl
  · simp [updV, upd, vp_updL, hq]
theorem g_zast {i : Int32} {x : Int32} {len : Nat} {f : Nat → Int32} (hX : Cok X d) (h : At d pc .bastore 1 n) (hm : M a = some (.inr (1, len, (.inl f)))) (hin : vp_in i len) (kk : G X n lv st (hup M a (.inr (1, len, (.inl (upd f i.toNatClampNeg (vp_nar .boolean x)))))) sz cs ss) : G X pc lv (.int x :: .int i :: .ref a :: st) M sz cs ss := by
  obtain ⟨⟨p, l, e, R, s, m, args, below⟩, meth, c, A, Q, g⟩ := X
  obtain ⟨hx, hb, hml, hown, hts, hKS, hAz, hAn, hst9, hlk, hrt, hnm, hR, hex⟩ := hX
  intro H locs ls hz hM hA hS hl
  obtain ⟨h1, rfl⟩ := h
  refine W.zast hx hb (hM a _ hm) ((hKS.1.2 1 _ rfl).1 len (fun j => .int (f j))) (fun q => by cases q) (by show ¬ (i < 0 ∨ (arrV _ _ _).slots.size ≤ _); rw [arrV_size]; exact hin) rfl rfl h1 fun H1 e z oq => ?_
  refine kk H1 _ ls (z.trans hz) (hM.set ?_ oq) (dom_up hA (hA a _ hm)) (hS.put z oq (hA a _ hm)) hl
  show H1[a]? = some (vp_cell _ _)
  rw [e]
  dsimp only
  rw [vp_cell_i, vp_cell_i, arrV_store]
  congr 2
  funext q
  by_cases hq : q = i.toNatClampNeg
  · subst hq
    simp [updV, upd, vp_updL, vp_nar]
    try rfl
  · simp [updV, upd, vp_updL, hq]
theorem g_last {i : Int32} {x : Int64} {len : Nat} {f : Nat → Int64} (hX : Cok X d) (h : At d pc .lastore 1 n) (hm : M a = some (.inr (2, len, (.inr (.inl f))))) (hin : vp_in i len) (kk : G X n lv st (hup M a (.inr (2, len, (.inr (.inl (vp_updL f i.toNatClampNeg x)))))) sz cs ss) : G X pc lv (.long x :: .int i :: .ref a :: st) M sz cs ss := by
  obtain ⟨⟨p, l, e, R, s, m, args, below⟩, meth, c, A, Q, g⟩ := X
  obtain ⟨hx, hb, hml, hown, hts, hKS, hAz, hAn, hst9, hlk, hrt, hnm, hR, hex⟩ := hX
  intro H locs ls hz hM hA hS hl
  obtain ⟨h1, rfl⟩ := h
  refine W.last hx hb (hM a _ hm) ((hKS.1.2 2 _ rfl).1 len (fun j => .long (f j))) (fun q => by cases q) (by show ¬ (i < 0 ∨ (arrV _ _ _).slots.size ≤ _); rw [arrV_size]; exact hin) rfl rfl h1 fun H1 e z oq => ?_
  refine kk H1 _ ls (z.trans hz) (hM.set ?_ oq) (dom_up hA (hA a _ hm)) (hS.put z oq (hA a _ hm)) hl
  show H1[a]? = some (vp_cell _ _)
  rw [e]
  dsimp only
  rw [vp_cell_l, vp_cell_l, arrV_store]
  congr 2
  funext q
  by_cases hq : q = i.toNatClampNeg
  · subst hq
    simp [updV, upd, vp_updL, vp_nar]
    try rfl
  · simp [updV, upd, vp_updL, hq]
theorem g_aast {i : Int32} {v : Nat} {len cv : Nat} {vs : List Value} {f : Nat → Option Nat} (hX : Cok X d) (h : At d pc .aastore 1 n) (hm : M a = some (.inr (3, len, .inr (.inr f)))) (hin : vp_in i len) (hmv : M v = some (.inl (cv, vs))) (hcast : ∃ (j : Nat) (q : vw_C), cls9[cv]? = some q ∧ lw_tbl[j]? = some (Cond.castable q.1 "java/lang/Object")) (kk : G X n lv st (hup M a (.inr (3, len, .inr (.inr (va_up f i.toNatClampNeg (some v)))))) sz cs ss) : G X pc lv (.ref v :: .int i :: .ref a :: st) M sz cs ss := by
  obtain ⟨⟨p, l, e, R, s, m, args, below⟩, meth, c, A, Q, g⟩ := X
  obtain ⟨hx, hb, hml, hown, hts, hKS, hAz, hAn, hst9, hlk, hrt, hnm, hR, hex⟩ := hX
  intro H locs ls hz hM hA hS hl
  obtain ⟨h1, rfl⟩ := h
  obtain ⟨j9, q9, hq9, hj9⟩ := hcast
  have hlt : i.toNatClampNeg < len := Nat.not_le.mp fun q => hin (Or.inr q)
  have h0 : ¬ i < 0 := fun q => hin (Or.inl q)
  obtain ⟨r', hr', cellV, g1, g2, g3, -⟩ := hM v _ hmv
  have hcls := (hKS.1.1 cv q9 hq9).2
  obtain ⟨kA, comp, k1, k2, k3, -⟩ := (hKS.1.2 3 _ rfl).2
  obtain ⟨kE, hkE, -⟩ := Vm.findClass_spec k3
  obtain ⟨c0, t1, f1, f2, f3⟩ := Cond.castable_spec (hts.at j9 hj9 rfl)
  cases hcls.1.symm.trans f1
  cases k3.symm.trans f2
  obtain ⟨kC, hkC, -⟩ := hcls.2
  refine W.aast hx hb (hM a _ hm) (fun q h => by cases h) (fun h => by cases h) k1 k2 rfl hkE ⟨h0, by show _ < (arrV _ _ _).slots.size; rw [arrV_size]; exact hlt⟩ g1 (fun q h => by rw [g3] at h; cases h) (by rw [g2]; exact hkC) (by rw [g2]; exact f3) rfl rfl h1 fun H1 e z oq => ?_
  refine kk H1 _ ls (z.trans hz) (hM.set ?_ oq) (dom_up hA (hA a _ hm)) (hS.put z oq (hA a _ hm)) hl
  show H1[a]? = some (vp_cell _ _)
  rw [e]
  dsimp only
  rw [vp_cell_q, vp_cell_q, arrV_store]
  congr 2
  funext q
  by_cases hq : q = i.toNatClampNeg
  · subst hq
    simp [updV, va_up, va_rf]
  · simp [updV, va_up, hq]
/-! what is made -/
def AtN (d : hD) (pc ci : Nat) (fs : List Value) (n : Nat) : Prop := ∃ (index i1 i2 i3 : Nat) (q : vw_C), decode d.2.1 pc = .ok (.new index, 3) ∧ pc + 3 = n ∧ cls9[ci]? = some q ∧ lw_tbl[i1]? = some (Cond.classLink d.1.cls index q.1) ∧ lw_tbl[i2]? = some (Cond.instantiable q.1 q.2.2) ∧ lw_tbl[i3]? = some (Cond.initialized q.1) ∧ fs.length = q.2.2 ∧ ∀ j, j < q.2.2 → defaultValue ((tyf9.getD ci tyX10) j) = vp_V fs j
theorem g_new {fs : List Value} {N : Nat} (hX : Cok X d) (h : AtN d pc ci fs n) (hN : fs.length = N) (hc : cs + 1 ≤ d.2.2.2.2.1.cells) (hs : ss + N ≤ d.2.2.2.2.1.slots) (kk : G X n lv (.ref sz :: st) (hup M sz (.inl (ci, fs))) (sz + 1) (cs + 1) (ss + N)) : G X pc lv st M sz cs ss := by
  obtain ⟨⟨p, l, e, R, s, m, args, below⟩, meth, c, A, Q, g⟩ := X
  obtain ⟨hx, hb, hml, hown, hts, hKS, hAz, hAn, hst9, hlk, hrt, hnm, hR, hex⟩ := hX
  intro H locs ls hz hM hA hS hl
  obtain ⟨index, i1, i2, i3, ⟨C, T, N'⟩, h1, rfl, hq, e1, e2, e3, hlen, hfs⟩ := h
  have hNN : N = N' := hN.symm.trans hlen
  subst hNN
  have hKn := hKS.1.1 ci _ hq
  have hts9 : ∀ w ∈ u_ws C T N, w.before args s = true := fun w hw => hts w (uw9 ci _ hq w hw).1 (uw9 ci _ hq w hw).2
  have hR' : R = d.2.2.2.2.1 := hR
  subst hz
  refine W.newcK hx hb hown (hts.at i1 e1 rfl) (hts.at i2 e2 rfl) (hts.at i3 e3 rfl) rfl h1 (by rw [hR']; exact hc) (by rw [hR']; exact hs) hKn.2.1 rfl fun H1 kC hkC g1 z1 o1 => ?_
  refine kk H1 locs ls z1 (hM.push ⟨_, hq, (u_born _ hts9 (fun _ z => z) hKn hkC g1 (ty9 ci _ hq)).to hfs⟩ o1) (dom_up hA (hAn _ hS.1)) ⟨Nat.le_trans hS.1 (by omega), fun x h1 h2 => (o1 x (Nat.lt_of_lt_of_le h1 hS.1)).trans (hS.2.1 x h1 h2), hS.2.2⟩ hl
def AtNA (d : hD) (pc k9 : Nat) (n : Nat) : Prop := ∃ (at9 : ArrayType) (i : Nat), decode d.2.1 pc = .ok (.newarray at9, 2) ∧ pc + 2 = n ∧ lw_tbl[i]? = some (Cond.arrayClass (newarray.typeOf at9)) ∧ k9 < 3 ∧ (tys9 (fun _ => 0))[k9]? = some (0, newarray.typeOf at9) ∧ componentBytes (newarray.typeOf at9) ≤ 8
def nul9 (k9 : Nat) : (Nat → Int32) ⊕ ((Nat → Int64) ⊕ (Nat → Option Nat)) := if k9 = 2 then .inr (.inl (fun _ => 0)) else .inl (fun _ => 0)
theorem g_newa {i : Int32} {k9 N : Nat} (hX : Cok X d) (h : AtNA d pc k9 n) (hi : i = nI N) (hN : N < 65536) (hc : cs + 1 ≤ d.2.2.2.2.1.cells) (hs : ss + N ≤ d.2.2.2.2.1.slots) (kk : G X n lv (.ref sz :: st) (hup M sz (.inr (k9, N, nul9 k9))) (sz + 1) (cs + 1) (ss + N)) : G X pc lv (.int i :: st) M sz cs ss := by
  obtain ⟨⟨p, l, e, R, s, m, args, below⟩, meth, c, A, Q, g⟩ := X
  obtain ⟨hx, hb, hml, hown, hts, hKS, hAz, hAn, hst9, hlk, hrt, hnm, hR, hex⟩ := hX
  intro H locs ls hz hM hA hS hl
  obtain ⟨at9, j, h1, rfl, e1, hk9, ht9, hcb⟩ := h
  subst hi
  have hR' : R = d.2.2.2.2.1 := hR
  subst hz
  refine va_newaK hx hb (hts.at j e1 rfl) rfl h1 rfl (nI_pos (by omega)) (nI_clamp (by omega)) ?_ (by rw [hR']; exact hc) (by rw [hR']; exact hs) rfl fun H1 cA g1 z1 o1 hAr hNm => ?_
  · have := Nat.mul_le_mul (Nat.le_of_lt hN) hcb
    omega
  have hcA : cA = g.2.1 k9 ∧ ∃ v9 : Nat → Value, vp_cell cA (match nul9 k9 with | .inl f => (N, .inl f) | .inr (.inl f) => (N, .inr (.inl f)) | .inr (.inr f) => (N, .inr (.inr (.inr (.inr f))))) = arrV cA N (fun _ => defaultValue (newarray.typeOf at9)) := by
    match k9, hk9 with
    | 0, _ =>
      have ht : newarray.typeOf at9 = .int := by simpa [tys9] using ht9.symm
      rw [ht] at hNm ⊢
      exact ⟨Option.some.inj (hNm.symm.trans (hKS.1.2 0 _ rfl).2), fun _ => .null, rfl⟩
    | 1, _ =>
      have ht : newarray.typeOf at9 = .boolean := by simpa [tys9] using ht9.symm
      rw [ht] at hNm ⊢
      exact ⟨Option.some.inj (hNm.symm.trans (hKS.1.2 1 _ rfl).2), fun _ => .null, rfl⟩
    | 2, _ =>
      have ht : newarray.typeOf at9 = .long := by simpa [tys9] using ht9.symm
      rw [ht] at hNm ⊢
      exact ⟨Option.some.inj (hNm.symm.trans (hKS.1.2 2 _ rfl).2), fun _ => .null, rfl⟩
  obtain ⟨rfl, -, hce⟩ := hcA
  refine kk H1 locs ls z1 (hM.push ?_ o1) (dom_up hA (hAn _ hS.1)) ⟨Nat.le_trans hS.1 (by omega), fun x h1 h2 => (o1 x (Nat.lt_of_lt_of_le h1 hS.1)).trans (hS.2.1 x h1 h2), hS.2.2⟩ hl
  have hg : H1[H.size]? = some (vp_cell (g.2.1 k9) (match nul9 k9 with | .inl f => (N, .inl f) | .inr (.inl f) => (N, .inr (.inl f)) | .inr (.inr f) => (N, .inr (.inr (.inr (.inr f)))))) := by rw [hce]; exact g1
  by_cases h2 : k9 = 2
  · subst h2
    exact hg
  · unfold nul9 at hg ⊢
    rw [if_neg h2] at hg ⊢
    exact hg
def AtNQ (d : hD) (pc n : Nat) : Prop := ∃ (index i : Nat), decode d.2.1 pc = .ok (.anewarray index, 3) ∧ pc + 3 = n ∧ lw_tbl[i]? = some (Cond.classLink d.1.cls index "java/lang/Object")
theorem g_newq {i : Int32} {N : Nat} (hX : Cok X d) (h : AtNQ d pc n) (hi : i = nI N) (hN : N < 65536) (hc : cs + 1 ≤ d.2.2.2.2.1.cells) (hs : ss + N ≤ d.2.2.2.2.1.slots) (kk : G X n lv (.ref sz :: st) (hup M sz (.inr (3, N, .inr (.inr (fun _ => none))))) (sz + 1) (cs + 1) (ss + N)) : G X pc lv (.int i :: st) M sz cs ss := by
  obtain ⟨⟨p, l, e, R, s, m, args, below⟩, meth, c, A, Q, g⟩ := X
  obtain ⟨hx, hb, hml, hown, hts, hKS, hAz, hAn, hst9, hlk, hrt, hnm, hR, hex⟩ := hX
  intro H locs ls hz hM hA hS hl
  obtain ⟨index, j, h1, rfl, e1⟩ := h
  subst hi
  have hR' : R = d.2.2.2.2.1 := hR
  subst hz
  obtain ⟨hK, -, -, -, -, -, -, hAO, -⟩ := hKS
  have hcl : (nI N).toNatClampNeg = N := nI_clamp (by omega)
  refine W.anew hx hb hown (hts.at j e1 rfl) (va_AO.use hAO) rfl h1 rfl (nI_pos (by omega)) (by rw [hcl]; omega) (by rw [hR']; exact hc) (by rw [hR', hcl]; exact hs) fun cA kA comp f1 f2 f3 f4 => ?_
  rw [hcl]
  have hcA : cA = g.2.1 3 := by
    obtain ⟨_, _, _, _, _, k4⟩ := (hK.2 3 _ rfl).2
    exact Option.some.inj (f1.symm.trans k4)
  subst hcA
  generalize hH1 : H.push ({ cls := g.2.1 3, slots := Array.replicate N .null, vm := .none } : Cell) = H1
  have z1 : H1.size = H.size + 1 := by rw [← hH1, Array.size_push]
  have e1 : H1[H.size]? = some (arrV (g.2.1 3) N (fun _ => .null)) := by rw [← hH1, Array.getElem?_push_size, ← arrV_new]
  have o1 : ∀ q : Nat, q < H.size → H1[q]? = H[q]? := fun q hq => by rw [← hH1, Array.getElem?_push, if_neg (Nat.ne_of_lt hq)]
  exact kk H1 locs ls z1 (hM.push (show H1[H.size]? = some (vp_cell _ _) by rw [vp_cell_q]; exact e1) o1) (dom_up hA (hAn _ hS.1)) ⟨Nat.le_trans hS.1 (by omega), fun x h1 h2 => (o1 x (Nat.lt_of_lt_of_le h1 hS.1)).trans (hS.2.1 x h1 h2), hS.2.2⟩ hl
/-! statics, casts, domains -/
def AtGS (d : hD) (pc : Nat) (C nm ds : String) (n : Nat) : Prop := ∃ (index i : Nat), decode d.2.1 pc = .ok (.getstatic index, 3) ∧ pc + 3 = n ∧ lw_tbl[i]? = some (Cond.fieldLink d.1.cls index C nm ds)
theorem g_getsM (hX : Cok X d) (h : AtGS d pc "Hymnwright$Days" "AHEAD_OF_MONTH" "[I" n) (kk : G X n lv (.ref X.2.2.2.2.2.2.2.2.1 :: st) M sz cs ss) : G X pc lv st M sz cs ss := by
  obtain ⟨⟨p, l, e, R, s, m, args, below⟩, meth, c, A, Q, g⟩ := X
  obtain ⟨hx, hb, hml, hown, hts, hKS, hAz, hAn, hst9, hlk, hrt, hnm, hR, hex⟩ := hX
  intro H locs ls hz hM hA hS hl
  obtain ⟨index, j, h1, rfl, e1⟩ := h
  obtain ⟨-, -, -, ⟨h4, -, -⟩, -⟩ := hKS
  exact va_gets hx hb (h4.narrow hAz) hS hown (hts.at j e1 rfl) (fun _ z => z) h1 (kk H locs ls hz hM hA hS hl)
theorem g_getsD (hX : Cok X d) (h : AtGS d pc "java/util/ArrayList" "DEFAULTCAPACITY_EMPTY_ELEMENTDATA" "[Ljava/lang/Object;" n) (kk : G X n lv (.ref X.2.2.2.2.2.2.2.2.2 :: st) M sz cs ss) : G X pc lv st M sz cs ss := by
  obtain ⟨⟨p, l, e, R, s, m, args, below⟩, meth, c, A, Q, g⟩ := X
  obtain ⟨hx, hb, hml, hown, hts, hKS, hAz, hAn, hst9, hlk, hrt, hnm, hR, hex⟩ := hX
  intro H locs ls hz hM hA hS hl
  obtain ⟨index, j, h1, rfl, e1⟩ := h
  obtain ⟨-, -, -, -, ⟨h4, -, -⟩, -⟩ := hKS
  exact va_gets hx hb (h4.narrow hAz) hS hown (hts.at j e1 rfl) (fun _ z => z) h1 (kk H locs ls hz hM hA hS hl)
theorem g_ialdM {i : Int32} (hX : Cok X d) (h : At d pc .iaload 1 n) (hin : vp_in i 12) (kk : G X n lv (.int (fM i.toNatClampNeg) :: st) M sz cs ss) : G X pc lv (.int i :: .ref X.2.2.2.2.2.2.2.2.1 :: st) M sz cs ss := by
  obtain ⟨⟨p, l, e, R, s, m, args, below⟩, meth, c, A, Q, g⟩ := X
  obtain ⟨hx, hb, hml, hown, hts, hKS, hAz, hAn, hst9, hlk, hrt, hnm, hR, hex⟩ := hX
  intro H locs ls hz hM hA hS hl
  obtain ⟨h1, rfl⟩ := h
  obtain ⟨-, -, hz0, ⟨-, h5, h6⟩, -⟩ := hKS
  exact va_sld hx hb h5 (Nat.lt_of_lt_of_le h6 hz0) (fun q => absurd (hAz _ q) (Nat.not_le.mpr h6)) hS hin h1 (kk H locs ls hz hM hA hS hl)
theorem g_alenM (hX : Cok X d) (h : At d pc .arraylength 1 n) (kk : G X n lv (.int 12 :: st) M sz cs ss) : G X pc lv (.ref X.2.2.2.2.2.2.2.2.1 :: st) M sz cs ss := by
  obtain ⟨⟨p, l, e, R, s, m, args, below⟩, meth, c, A, Q, g⟩ := X
  obtain ⟨hx, hb, hml, hown, hts, hKS, hAz, hAn, hst9, hlk, hrt, hnm, hR, hex⟩ := hX
  intro H locs ls hz hM hA hS hl
  obtain ⟨h1, rfl⟩ := h
  obtain ⟨-, -, hz0, ⟨-, h5, h6⟩, -⟩ := hKS
  exact va_slen hx hb h5 (Nat.lt_of_lt_of_le h6 hz0) (fun q => absurd (hAz _ q) (Nat.not_le.mpr h6)) hS h1 (kk H locs ls hz hM hA hS hl)
theorem g_alenD (hX : Cok X d) (h : At d pc .arraylength 1 n) (kk : G X n lv (.int 0 :: st) M sz cs ss) : G X pc lv (.ref X.2.2.2.2.2.2.2.2.2 :: st) M sz cs ss := by
  obtain ⟨⟨p, l, e, R, s, m, args, below⟩, meth, c, A, Q, g⟩ := X
  obtain ⟨hx, hb, hml, hown, hts, hKS, hAz, hAn, hst9, hlk, hrt, hnm, hR, hex⟩ := hX
  intro H locs ls hz hM hA hS hl
  obtain ⟨h1, rfl⟩ := h
  obtain ⟨-, -, hz0, -, ⟨-, ⟨cell, ty, c1, c2, c3⟩, h6⟩, -⟩ := hKS
  exact W.alen hx hb (by rw [hS.2.1 _ (Nat.lt_of_lt_of_le h6 hz0) (fun q => absurd (hAz _ q) (Nat.not_le.mpr h6))]; exact c1) c2 (by rw [c3]; rfl) rfl rfl h1 (kk H locs ls hz hM hA hS hl)
def AtC (d : hD) (pc ci n : Nat) : Prop := ∃ (index i : Nat) (q : vw_C), decode d.2.1 pc = .ok (.checkcast index, 3) ∧ pc + 3 = n ∧ cls9[ci]? = some q ∧ lw_tbl[i]? = some (Cond.classLink d.1.cls index q.1)
theorem g_cast {fs : List Value} (hX : Cok X d) (h : AtC d pc ci n) (hm : M a = some (.inl (ci, fs))) (kk : G X n lv (.ref a :: st) M sz cs ss) : G X pc lv (.ref a :: st) M sz cs ss := by
  obtain ⟨⟨p, l, e, R, s, m, args, below⟩, meth, c, A, Q, g⟩ := X
  obtain ⟨hx, hb, hml, hown, hts, hKS, hAz, hAn, hst9, hlk, hrt, hnm, hR, hex⟩ := hX
  intro H locs ls hz hM hA hS hl
  obtain ⟨index, j, q9, h1, rfl, hq, e1⟩ := h
  have hcls := (hKS.1.1 ci q9 hq).2
  exact va_castS hx hb hown (hts.at j e1 rfl) hcls (va_recv (D := g.1) hKS.1 (hM.one hm) hq (q0 := 0) rfl) h1 (kk H locs ls hz hM hA hS hl)
theorem g_dom (hX : Cok X d) (kk : (∀ (q : Nat) (x : hC), M q = some x → q < sz ∧ X.2.2.2.2.2.2.2.1 ≤ q) → G X pc lv st M sz cs ss) : G X pc lv st M sz cs ss := by
  obtain ⟨⟨p, l, e, R, s, m, args, below⟩, meth, c, A, Q, g⟩ := X
  obtain ⟨hx, hb, hml, hown, hts, hKS, hAz, hAn, hst9, hlk, hrt, hnm, hR, hex⟩ := hX
  intro H locs ls hz hM hA hS hl
  exact kk (fun q x hx9 => ⟨by rw [← hz]; exact hM.lt hx9, hAz q (hA q x hx9)⟩) H locs ls hz hM hA hS hl
theorem g_eqM {M' : hM} (e : ∀ q, M q = M' q) (kk : G X pc lv st M' sz cs ss) : G X pc lv st M sz cs ss := by
  have : M = M' := funext e
  rw [this]; exact kk
theorem g_eqL {lv' st' : List Value} (e1 : lv = lv') (e2 : st = st') (kk : G X pc lv' st' M sz cs ss) : G X pc lv st M sz cs ss := by
  rw [e1, e2]; exact kk
theorem g_wide {k1 n1 : Nat} (h1 : cs ≤ k1) (h2 : ss ≤ n1) (kk : G X pc lv st M sz k1 n1) : G X pc lv st M sz cs ss := fun H locs ls hz hM hA hS hl => W.widen h1 h2 (kk H locs ls hz hM hA hS hl)
theorem g_tabIn {dflt lo hi : Int} {offs : Array Int} {len : Nat} {x : Int32} {off : Int} (hX : Cok X d) (hd : decode d.2.1 pc = .ok (.tableswitch dflt lo hi offs, len)) (h1 : ¬ x.toInt < lo) (h2 : ¬ hi < x.toInt) (ho : offs[(x.toInt - lo).toNat]? = some off) (ht : (pc : Int) + off = (t : Int)) (kk : G X t lv st M sz cs ss) : G X pc lv (.int x :: st) M sz cs ss := by
  obtain ⟨⟨p, l, e, R, s, m, args, below⟩, meth, c, A, Q, g⟩ := X
  obtain ⟨hx, hb, hml, hown, hts, hKS, hAz, hAn, hst9, hlk, hrt, hnm, hR, hex⟩ := hX
  intro H locs ls hz hM hA hS hl
  exact lv_tableIn hx hb hd h1 h2 ho ht (kk H locs ls hz hM hA hS hl)
theorem g_tabOut {dflt lo hi : Int} {offs : Array Int} {len : Nat} {x : Int32} (hX : Cok X d) (hd : decode d.2.1 pc = .ok (.tableswitch dflt lo hi offs, len)) (h1 : x.toInt < lo ∨ hi < x.toInt) (ht : (pc : Int) + dflt = (t : Int)) (kk : G X t lv st M sz cs ss) : G X pc lv (.int x :: st) M sz cs ss := by
  obtain ⟨⟨p, l, e, R, s, m, args, below⟩, meth, c, A, Q, g⟩ := X
  obtain ⟨hx, hb, hml, hown, hts, hKS, hAz, hAn, hst9, hlk, hrt, hnm, hR, hex⟩ := hX
  intro H locs ls hz hM hA hS hl
  exact lv_tableOut hx hb hd h1 ht (kk H locs ls hz hM hA hS hl)
end R2
end
section
/-! contracts: what a method is asked for, as a transformer of what its caller wants -/
abbrev hK : Type := (Option Value ⊕ String) → hM → Nat → Prop
abbrev hS : Type := List Value → hM → Nat → hK → Prop
def AA (M : hM) (sz : Nat) : Nat → Prop := fun q => (∃ x, M q = some x) ∨ sz ≤ q
def Pc9 (g : hG) (as : List Value) (M : hM) (sz : Nat) : Array Value → State → Prop := va_Pc as (fun U => U.heap.size = sz ∧ hv g.1 g.2.1 M U.heap ∧ KS g U)
def Qc9 (g : hG) (M : hM) (sz : Nat) (K : hK) : Array Value → State → Outcome → State → Prop := fun _ st oc t => (∃ (v : Option Value) (M' : hM), oc = .returned v ∧ K (.inl v) M' t.heap.size ∧ hv g.1 g.2.1 M' t.heap ∧ ∀ (q : Nat) (x : hC), M' q = some x → AA M sz q) ∧ va_F (AA M sz) st t
def XC9 (g : hG) (M : hM) (sz : Nat) (K : hK) : String → State → State → Prop := fun E st t => (∃ M' : hM, K (.inr E) M' t.heap.size ∧ hv g.1 g.2.1 M' t.heap ∧ ∀ (q : Nat) (x : hC), M' q = some x → AA M sz q) ∧ va_F (AA M sz) st t
def cw9 (d : hD) : Cond := if d.2.2.2.2.2 = [] then Cond.code d.1 d.2.1 d.2.2.1 d.2.2.2.1 else Cond.codeWith d.1 d.2.1 d.2.2.1 d.2.2.2.1 d.2.2.2.2.2
def Ctr (l : Launch) (g : hG) (d : hD) (sp : hS) : Prop := ∀ (as : List Value) (M : hM) (sz : Nat) (K : hK), sp as M sz K → (∀ (q : Nat) (x : hC), M q = some x → g.2.2.1 ≤ q) → g.2.2.1 ≤ sz →
  vx_Met l d.1 [cw9 d] d.2.2.2.2.1 (Pc9 g as M sz) (Qc9 g M sz K) (XC9 g M sz K) d.2.2.2.2.1.cells d.2.2.2.2.1.slots (AA M sz)
/-- what the body owes at its ends -/
def Ret (X : hX) (d : hD) (M : hM) (sz : Nat) (K : hK) : Prop := X.2.2.2.1 = AA M sz ∧ X.2.2.2.2.1 = vx_MQ X.1.2.2.2.2.2.2.2 (Qc9 X.2.2.2.2.2 M sz K) (XC9 X.2.2.2.2.2 M sz K) X.1.2.2.2.2.2.2.1 X.1.2.2.2.2.1 d.2.2.2.2.1.cells d.2.2.2.2.1.slots (AA M sz)
/-- an exception of class E in flight over the frame -/
def GX (X : hX) (pc : Nat) (lv rest : List Value) (M : hM) (sz cs ss : Nat) (E : String) : Prop :=
  ∀ (H : Heap) (locs : List Loc) (ls : Array Slot) (q9 : Nat) (ce : Cell), H.size = sz → hv X.2.2.2.2.2.1 X.2.2.2.2.2.2.1 M H → (∀ (q : Nat) (x : hC), M q = some x → X.2.2.2.1 q) → va_S X.2.2.2.1 X.1.2.2.2.2.1.heap H locs → lh ls X.2.2.1.maxLocals lv →
    H[q9]? = some ce → ce.vm = .none → X.1.2.2.2.2.1.vm.findClass E = some ce.cls →
    vx_W X.1.1 X.1.2.1 X.1.2.2.1 X.1.2.2.2.1 X.1.2.2.2.2.1 X.1.2.2.2.2.2.1 X.1.2.2.2.2.2.2.1 X.1.2.2.2.2.2.2.2 X.2.1 X.2.2.1 H locs cs ss X.2.2.2.2.1 (F0 X.1.2.2.2.2.2.1 pc ls rest) q9
/-- what a call's caller wants of it -/
def Kc (X : hX) (pc n : Nat) (lv rest : List Value) (cs ss : Nat) : hK := fun r M' sz' => match r with
  | .inl v => G X n lv (v.toList ++ rest) M' sz' cs ss
  | .inr E => GX X pc lv rest M' sz' cs ss E
theorem lh_entry {as : List Value} {n : Nat} (hc : ∀ v ∈ as, v.category = 1) (hn : as.length ≤ n) : lh ((lg_sl as ++ List.replicate (n - (lg_sl as).length) Slot.unset).toArray) n (as ++ List.replicate (n - as.length) U9) := by
  have hsl : lg_sl as = as.map Slot.val := by
    unfold lg_sl
    clear hn
    induction as with
    | nil => rfl
    | cons v t ih =>
      have h1 : v.category = 1 := hc v List.mem_cons_self
      rw [List.flatMap_cons, List.map_cons, ih (fun w hw => hc w (List.mem_cons_of_mem _ hw)), h1]
      rfl
  have hlen : (lg_sl as).length = as.length := by rw [hsl, List.length_map]
  have h0 := lv_entry as (n := n) (by rw [hlen]; exact hn)
  refine ⟨h0.1, h0.2.1, by simp; omega, fun i v hv => ?_⟩
  by_cases hi : i < as.length
  · rw [List.getElem?_append_left hi] at hv
    have hm := List.mem_of_getElem? hv
    refine ⟨hc v hm, fun _ => ?_⟩
    rw [List.getElem?_toArray, List.getElem?_append_left (by rw [hlen]; exact hi), hsl, List.getElem?_map, hv]
    rfl
  · rw [List.getElem?_append_right (by omega), List.getElem?_replicate] at hv
    by_cases hj : i - as.length < n - as.length
    · rw [if_pos hj] at hv
      cases hv
      exact ⟨rfl, fun h => by cases h⟩
    · rw [if_neg hj] at hv
      cases hv
theorem Ctr.mk9 {l : Launch} {g : hG} {d : hD} {sp : hS} (hst : l.stackTraces = false) (hy : plainName d.1.cls = true) (hargs : ∀ as M sz K, sp as M sz K → as.length ≤ d.2.2.1 ∧ ∀ v ∈ as, v.category = 1)
    (body : ∀ (X : hX) (as : List Value) (M : hM) (sz : Nat) (K : hK), Cok X d → X.2.2.2.2.2 = g → X.1.2.1 = l → Ret X d M sz K → sp as M sz K → G X 0 (as ++ List.replicate (d.2.2.1 - as.length) U9) [] M sz 0 0) : Ctr l g d sp := by
  intro as M sz K hsp hdom hz0
  have core : ∀ p e s m args below meth c s₁, BodyLoose p l d.1 (headSpec [cw9 d] d.2.2.2.2.1) d.2.1 d.2.2.1 d.2.2.2.1 e s m args below meth c s₁ → c.maxLocals = d.2.2.1 → c.exceptionTable.toList = tableOf d.2.2.2.2.2 → Pc9 g as M sz args s →
      W p l e (headSpec [cw9 d] d.2.2.2.2.1).room s m args below meth c s.heap [] 0 0 (vx_MQ below (Qc9 g M sz K) (XC9 g M sz K) args s d.2.2.2.2.1.cells d.2.2.2.2.1.slots (AA M sz)) (entryFrame m args d.2.2.1) := by
    intro p e s m args below meth c s₁ B hml hex hv
    obtain ⟨rfl, hsz, hM, hKS⟩ := hv
    obtain ⟨ha1, ha2⟩ := hargs as M sz K hsp
    have hTW : TW as.toArray s := by
      have := hKS.2.1
      exact TW.same rfl this
    have hCok : Cok ((p, l, e, d.2.2.2.2.1, s, m, as.toArray, below), meth, c, AA M sz, vx_MQ below (Qc9 g M sz K) (XC9 g M sz K) as.toArray s d.2.2.2.2.1.cells d.2.2.2.2.1.slots (AA M sz), g) d :=
      ⟨B.exec, B.bytes, hml, findClass_of_methodNamed B.named, hTW, hKS, fun q hq => hq.elim (fun ⟨x, hx⟩ => hdom q x hx) (fun h => Nat.le_trans hz0 h), fun q hq => Or.inr (by rw [← hsz]; exact hq), hst, B.notSynchronized, B.returns, (name_of_methodNamed B.named B.method).1, rfl, hex⟩
    have k := body ((p, l, e, d.2.2.2.2.1, s, m, as.toArray, below), meth, c, AA M sz, vx_MQ below (Qc9 g M sz K) (XC9 g M sz K) as.toArray s d.2.2.2.2.1.cells d.2.2.2.2.1.slots (AA M sz), g) as M sz K hCok rfl rfl ⟨rfl, rfl⟩ hsp
    rw [lg_entry_eq]
    exact k s.heap [] _ hsz hM (fun q x hx => Or.inl ⟨x, hx⟩) va_S.rf (by rw [show c.maxLocals = d.2.2.1 from hml]; exact lh_entry ha2 ha1)
  by_cases hh : d.2.2.2.2.2 = []
  · refine vx_ofW (cc := d.2.1) (maxL := d.2.2.1) (ret := d.2.2.2.1) (ws' := []) hy (by unfold cw9; rw [if_pos hh]) ?_
    intro p e s m args below meth c s₁ B hml ht hv
    refine core p e s m args below meth c s₁ B hml ?_ hv
    rw [hh]
    exact List.eq_nil_iff_forall_not_mem.mpr ht
  · refine vx_ofWH (cc := d.2.1) (maxL := d.2.2.1) (ret := d.2.2.2.1) (hh := d.2.2.2.2.2) (ws' := []) hy (by unfold cw9; rw [if_neg hh]) ?_
    intro p e s m args below meth c s₁ B hml hv
    refine core p e s m args below meth c s₁ B hml ?_ hv
    refine vx_table (x := d.1) (y := d.1) (bytes := d.2.1) (maxL' := d.2.2.1) (ret' := d.2.2.2.1) B (atoms_spec (ws := [cw9 d]) B.pre _ ?_)
    unfold cw9
    rw [if_neg hh]
    exact List.mem_cons_self
theorem Pc9.blind {g : hG} {as : List Value} {M : hM} {sz : Nat} : FrameBlind (Pc9 g as M sz) := fun _ _ f mk h => ⟨h.1, h.2.1, h.2.2.1, h.2.2.2.calling f mk _⟩
section R3
variable {X : hX} {d dc : hD} {pc n na t i a : Nat} {lv st rest : List Value} {M : hM} {sz cs ss : Nat} {sp : hS}
/-- behind a run of a callee -/
theorem run9 {As : List Value} (hX : Cok X d) {H : Heap} {locs : List Loc} {ls : Array Slot} {K : hK} (hz : H.size = sz) (hM : hv X.2.2.2.2.2.1 X.2.2.2.2.2.2.1 M H) (hA : ∀ (q : Nat) (x : hC), M q = some x → X.2.2.2.1 q) (hS : va_S X.2.2.2.1 X.1.2.2.2.2.1.heap H locs) (hl : lh ls X.2.2.1.maxLocals lv) (hK : K = Kc X pc (pc + 3) lv rest (cs + dc.2.2.2.2.1.cells) (ss + dc.2.2.2.2.1.slots)) {aa : Array Value}
    (hr : vx_Run X.1.1 X.1.2.1 X.1.2.2.1 X.1.2.2.2.1 X.1.2.2.2.2.1 X.1.2.2.2.2.2.1 X.1.2.2.2.2.2.2.1 X.1.2.2.2.2.2.2.2 X.2.1 X.2.2.1 H locs cs ss dc.2.2.2.2.1.cells dc.2.2.2.2.1.slots (F0 X.1.2.2.2.2.2.1 pc ls st) rest (Qc9 X.2.2.2.2.2 M sz K aa) (XC9 X.2.2.2.2.2 M sz K) (AA M sz)) :
    W X.1.1 X.1.2.1 X.1.2.2.1 X.1.2.2.2.1 X.1.2.2.2.2.1 X.1.2.2.2.2.2.1 X.1.2.2.2.2.2.2.1 X.1.2.2.2.2.2.2.2 X.2.1 X.2.2.1 H locs cs ss X.2.2.2.2.1 (F0 X.1.2.2.2.2.2.1 pc ls st) := by
  obtain ⟨⟨p, l, e, R, s, m, args, below⟩, meth, c, A, Q, g⟩ := X
  obtain ⟨hx, hb, hml, hown, hts, hKS, hAz, hAn, hst9, hlk, hrt, hnm, hR, hex⟩ := hX
  subst hK
  have hfree : ∀ q, AA M sz q → A q := fun q hq => hq.elim (fun ⟨x, h9⟩ => hA q x h9) (fun h9 => hAn q (Nat.le_trans hS.1 (by rw [hz]; exact h9)))
  intro T hT X0
  rcases hr T hT X0 with ⟨v, st₀, t, T', L, h0, X', hL, e1, e2, ⟨⟨v', M', ev, hk, hv', hdom⟩, hF⟩, stp⟩ | ⟨q9, st₀, t, T', L, E, ce, h0, X', hL, e1, e2, ⟨⟨M', hk, hv', hdom⟩, hF⟩, hce, hcv, hcl, stp⟩
  · cases ev
    obtain ⟨k1, k2, k3⟩ := vx_keep h0 e1 hS (fun q _ hq => hfree q hq) hfree hL hF
    obtain ⟨t2, a1, b1⟩ := hk T'.heap (locs ++ L) ls (by rw [e1]) (by rw [e1]; exact hv') (fun q x hx9 => hfree q (hdom q x hx9)) k3 hl T' rfl X'
    exact ⟨t2, stp t2 a1, b1⟩
  · obtain ⟨k1, k2, k3⟩ := vx_keep h0 e1 hS (fun q _ hq => hfree q hq) hfree hL hF
    obtain ⟨t2, a1, b1⟩ := hk T'.heap (locs ++ L) ls q9 ce (by rw [e1]) (by rw [e1]; exact hv') (fun q x hx9 => hfree q (hdom q x hx9)) k3 hl (by rw [e1]; exact hce) hcv hcl T' rfl X'
    exact ⟨t2, stp.trans a1, b1⟩
/-- what holds at a callee's start -/
theorem pre9 {As : List Value} (hX : Cok X d) {H : Heap} {locs : List Loc} (hz : H.size = sz) (hM : hv X.2.2.2.2.2.1 X.2.2.2.2.2.2.1 M H) (hS : va_S X.2.2.2.1 X.1.2.2.2.2.1.heap H locs) : PreS X.1.2.2.2.2.1 H (Pc9 X.2.2.2.2.2 As M sz) As := by
  obtain ⟨⟨p, l, e, R, s, m, args, below⟩, meth, c, A, Q, g⟩ := X
  obtain ⟨hx, hb, hml, hown, hts, hKS, hAz, hAn, hst9, hlk, hrt, hnm, hR, hex⟩ := hX
  refine ⟨Pc9.blind, fun U hU hW => ⟨rfl, by rw [hU]; exact hz, by rw [hU]; exact hM, hKS.next hW (by rw [hU]; exact hS.1) (fun q h1 h2 => by rw [hU]; exact hS.2.1 q h1 (fun h3 => h2 (hAz q h3)))⟩⟩
def Cal (d dc : hD) (na : Nat) : Prop := (∃ i : Nat, lw_tbl[i]? = some (cw9 dc)) ∧ (∃ i : Nat, lw_tbl[i]? = some (Cond.initialized dc.1.cls)) ∧ (dc.1.cls ≠ "java/lang/invoke/MethodHandle" ∧ dc.1.cls ≠ "java/lang/invoke/VarHandle") ∧ (parseMethodDescriptor dc.1.desc).map (fun z => z.parameters.length) = some na ∧ dc.2.2.2.2.1.frames + 1 ≤ d.2.2.2.2.1.frames ∧ 8 + (dc.2.2.1 + 11) + dc.2.2.2.2.1.locals ≤ d.2.2.2.2.1.locals
theorem cw9_tw (dc : hD) : tw (cw9 dc) = true := by
  unfold cw9
  by_cases hh : dc.2.2.2.2.2 = []
  · rw [if_pos hh]; rfl
  · rw [if_neg hh]; rfl
theorem cw9_good (dc : hD) : goodWord (cw9 dc) = true := by
  unfold cw9
  by_cases hh : dc.2.2.2.2.2 = []
  · rw [if_pos hh]; rfl
  · rw [if_neg hh]; rfl
theorem Cal.len {d dc : hD} {na : Nat} (h : Cal d dc na) : ∀ sig, parseMethodDescriptor dc.1.desc = some sig → na = sig.parameters.length := by
  intro sig hs
  have h2 := h.2.2.2.1
  rw [hs] at h2
  exact (Option.some.inj h2).symm
theorem Cal.b {d dc : hD} {na index : Nat} {own : String} {R : Room} {args : Array Value} {s : State} (h : Cal d dc na) (hh : dc.2.2.2.2.2 = []) (hts : TW args s) (hR : R = d.2.2.2.2.1) (hl : (Cond.methodLink own index dc.1).before args s = true) : CallB R s args own index dc.1 dc.2.1 dc.2.2.1 dc.2.2.2.1 [cw9 dc] dc.2.2.2.2.1 dc.2.2.2.2.1.cells dc.2.2.2.2.1.slots na := by
  obtain ⟨⟨i, hi⟩, ⟨j, hj⟩, hn, hlen, hf, hlo⟩ := id h
  subst hR
  have hc := hts.at i hi (cw9_tw dc)
  have e9 : cw9 dc = Cond.code dc.1 dc.2.1 dc.2.2.1 dc.2.2.2.1 := by unfold cw9; rw [if_pos hh]
  refine ⟨rfl, rfl, hf, hlo, fun w hw a' U hW => ?_, by rw [e9]; exact List.mem_cons_self, by rw [← e9]; exact hc, hts.at j hj rfl, hn, h.len, hl⟩
  rw [List.mem_singleton.mp hw]
  exact word_at hW (good_of_word (cw9_good dc)) hc
theorem Cal.nst {d dc : hD} {na index : Nat} {own host : String} {R : Room} {args : Array Value} {s : State} (h : Cal d dc na) (hh : dc.2.2.2.2.2 = []) (hts : TW args s) (hR : R = d.2.2.2.2.1) (hl : (Cond.methodLinkNest own index dc.1 host).before args s = true) : va_CN R s args own index dc.1 host dc.2.1 dc.2.2.1 dc.2.2.2.1 [cw9 dc] dc.2.2.2.2.1 dc.2.2.2.2.1.cells dc.2.2.2.2.1.slots na := by
  obtain ⟨⟨i, hi⟩, ⟨j, hj⟩, hn, hlen, hf, hlo⟩ := id h
  subst hR
  have hc := hts.at i hi (cw9_tw dc)
  have e9 : cw9 dc = Cond.code dc.1 dc.2.1 dc.2.2.1 dc.2.2.2.1 := by unfold cw9; rw [if_pos hh]
  refine ⟨⟨rfl, rfl, hf, hlo, fun w hw a' U hW => ?_, by rw [e9]; exact List.mem_cons_self⟩, by rw [← e9]; exact hc, hts.at j hj rfl, hn, h.len, hl⟩
  rw [List.mem_singleton.mp hw]
  exact word_at hW (good_of_word (cw9_good dc)) hc
theorem Cal.w {d dc : hD} {na index : Nat} {own : String} {R : Room} {args : Array Value} {s : State} (h : Cal d dc na) (hh : ¬ dc.2.2.2.2.2 = []) (hts : TW args s) (hR : R = d.2.2.2.2.1) (hl : (Cond.methodLink own index dc.1).before args s = true) (hs : (Cond.static dc.1).before args s = true) : vx_CSW R s args own index dc.1 dc.2.1 dc.2.2.1 dc.2.2.2.1 dc.2.2.2.2.2 [cw9 dc] dc.2.2.2.2.1 dc.2.2.2.2.1.cells dc.2.2.2.2.1.slots na := by
  obtain ⟨⟨i, hi⟩, ⟨j, hj⟩, hn, hlen, hf, hlo⟩ := id h
  subst hR
  have hc := hts.at i hi (cw9_tw dc)
  have e9 : cw9 dc = Cond.codeWith dc.1 dc.2.1 dc.2.2.1 dc.2.2.2.1 dc.2.2.2.2.2 := by unfold cw9; rw [if_neg hh]
  refine ⟨⟨rfl, rfl, hf, hlo, fun w hw a' U hW => ?_, by rw [e9]; exact List.mem_cons_self⟩, by rw [← e9]; exact hc, hts.at j hj rfl, hn, h.len, hl, hs⟩
  rw [List.mem_singleton.mp hw]
  exact word_at hW (good_of_word (cw9_good dc)) hc
/-! the calls: static, of a nest mate, with handlers; of an object; constructors -/
def AtS (d : hD) (pc : Nat) (dc : hD) (na n : Nat) : Prop := ∃ index i j : Nat, decode d.2.1 pc = .ok (.invokestatic index, 3) ∧ pc + 3 = n ∧ lw_tbl[i]? = some (Cond.methodLink d.1.cls index dc.1) ∧ lw_tbl[j]? = some (Cond.static dc.1) ∧ dc.2.2.2.2.2 = [] ∧ Cal d dc na
def AtSX (d : hD) (pc : Nat) (dc : hD) (na n : Nat) : Prop := ∃ index i j : Nat, decode d.2.1 pc = .ok (.invokestatic index, 3) ∧ pc + 3 = n ∧ lw_tbl[i]? = some (Cond.methodLink d.1.cls index dc.1) ∧ lw_tbl[j]? = some (Cond.static dc.1) ∧ ¬ dc.2.2.2.2.2 = [] ∧ Cal d dc na
def AtSN (d : hD) (pc : Nat) (dc : hD) (na n : Nat) : Prop := ∃ (index i j : Nat) (host : String), decode d.2.1 pc = .ok (.invokestatic index, 3) ∧ pc + 3 = n ∧ lw_tbl[i]? = some (Cond.methodLinkNest d.1.cls index dc.1 host) ∧ lw_tbl[j]? = some (Cond.static dc.1) ∧ dc.2.2.2.2.2 = [] ∧ Cal d dc na
def AtV (d : hD) (pc : Nat) (dc : hD) (na ci n : Nat) : Prop := ∃ (index i j k : Nat) (q : vw_C), decode d.2.1 pc = .ok (.invokevirtual index, 3) ∧ pc + 3 = n ∧ cls9[ci]? = some q ∧ lw_tbl[i]? = some (Cond.methodLink d.1.cls index dc.1) ∧ lw_tbl[j]? = some (Cond.instanceMethod dc.1) ∧ lw_tbl[k]? = some (Cond.selects q.1 dc.1 dc.1) ∧ dc.2.2.2.2.2 = [] ∧ Cal d dc na
def AtVN (d : hD) (pc : Nat) (dc : hD) (na ci n : Nat) : Prop := ∃ (index i j k : Nat) (q : vw_C) (host : String), decode d.2.1 pc = .ok (.invokevirtual index, 3) ∧ pc + 3 = n ∧ cls9[ci]? = some q ∧ lw_tbl[i]? = some (Cond.methodLinkNest d.1.cls index dc.1 host) ∧ lw_tbl[j]? = some (Cond.instanceMethod dc.1) ∧ lw_tbl[k]? = some (Cond.selects q.1 dc.1 dc.1) ∧ dc.2.2.2.2.2 = [] ∧ Cal d dc na
def AtNI (d : hD) (pc : Nat) (dc : hD) (na n : Nat) : Prop := ∃ index i j : Nat, decode d.2.1 pc = .ok (.invokespecial index, 3) ∧ pc + 3 = n ∧ lw_tbl[i]? = some (Cond.methodLink d.1.cls index dc.1) ∧ lw_tbl[j]? = some (Cond.instanceMethod dc.1) ∧ dc.1.name = "<init>" ∧ dc.2.2.2.1 = none ∧ dc.2.2.2.2.2 = [] ∧ Cal d dc na
def AtNIN (d : hD) (pc : Nat) (dc : hD) (na n : Nat) : Prop := ∃ (index i j : Nat) (host : String), decode d.2.1 pc = .ok (.invokespecial index, 3) ∧ pc + 3 = n ∧ lw_tbl[i]? = some (Cond.methodLinkNest d.1.cls index dc.1 host) ∧ lw_tbl[j]? = some (Cond.instanceMethod dc.1) ∧ dc.1.name = "<init>" ∧ dc.2.2.2.1 = none ∧ dc.2.2.2.2.2 = [] ∧ Cal d dc na
def Rm9 (d dc : hD) (cs ss : Nat) : Prop := cs + dc.2.2.2.2.1.cells ≤ d.2.2.2.2.1.cells ∧ ss + dc.2.2.2.2.1.slots ≤ d.2.2.2.2.1.slots
theorem g_cS {As : List Value} (hX : Cok X d) (hC : Ctr X.1.2.1 X.2.2.2.2.2 dc sp) (h : AtS d pc dc na n) (hn : As.length = na) (hst : st = As.reverse ++ rest) (hW : (rest.map fun v => v.category).sum ≤ 8) (hrm : Rm9 d dc cs ss) (kk : sp As M sz (Kc X pc n lv rest (cs + dc.2.2.2.2.1.cells) (ss + dc.2.2.2.2.1.slots))) : G X pc lv st M sz cs ss := by
  obtain ⟨⟨p, l, e, R, s, m, args, below⟩, meth, c, A, Q, g⟩ := X
  obtain ⟨hx, hb, hml, hown, hts, hKS, hAz, hAn, hst9, hlk, hrt, hnm, hR, hex⟩ := hX
  intro H locs ls hz hM hA hS hl
  have hX0 : Cok ((p, l, e, R, s, m, args, below), meth, c, A, Q, g) d := ⟨hx, hb, hml, hown, hts, hKS, hAz, hAn, hst9, hlk, hrt, hnm, hR, hex⟩
  have hR' : R = d.2.2.2.2.1 := hR
  subst hR'
  obtain ⟨index, i1, i2, h1, rfl, e1, e2, hh, hcal⟩ := h
  have hz0 : g.2.2.1 ≤ sz := by rw [← hz]; exact Nat.le_trans hKS.2.2.1 hS.1
  have hC9 := hC _ _ _ _ kk (fun q x h9 => hAz q (hA q x h9)) hz0
  exact run9 (As := As) (dc := dc) (aa := As.toArray) hX0 hz hM hA hS hl rfl (vx_runS (Ts := []) (nL := c.maxLocals) (As := As) (rest := rest) ⟨hx, hb, rfl, hown, fun _ h9 => absurd h9 List.not_mem_nil⟩ hC9 ⟨hcal.b hh hts rfl (hts.at i1 e1 rfl), hts.at i2 e2 rfl⟩ (pre9 hX0 hz hM hS) rfl hn hl.1 hst (lv_room hW) h1 hrm)
theorem g_cSX {As : List Value} (hX : Cok X d) (hC : Ctr X.1.2.1 X.2.2.2.2.2 dc sp) (h : AtSX d pc dc na n) (hn : As.length = na) (hst : st = As.reverse ++ rest) (hW : (rest.map fun v => v.category).sum ≤ 8) (hrm : Rm9 d dc cs ss) (kk : sp As M sz (Kc X pc n lv rest (cs + dc.2.2.2.2.1.cells) (ss + dc.2.2.2.2.1.slots))) : G X pc lv st M sz cs ss := by
  obtain ⟨⟨p, l, e, R, s, m, args, below⟩, meth, c, A, Q, g⟩ := X
  obtain ⟨hx, hb, hml, hown, hts, hKS, hAz, hAn, hst9, hlk, hrt, hnm, hR, hex⟩ := hX
  intro H locs ls hz hM hA hS hl
  have hX0 : Cok ((p, l, e, R, s, m, args, below), meth, c, A, Q, g) d := ⟨hx, hb, hml, hown, hts, hKS, hAz, hAn, hst9, hlk, hrt, hnm, hR, hex⟩
  have hR' : R = d.2.2.2.2.1 := hR
  subst hR'
  obtain ⟨index, i1, i2, h1, rfl, e1, e2, hh, hcal⟩ := h
  have hz0 : g.2.2.1 ≤ sz := by rw [← hz]; exact Nat.le_trans hKS.2.2.1 hS.1
  have hC9 := hC _ _ _ _ kk (fun q x h9 => hAz q (hA q x h9)) hz0
  exact run9 (As := As) (dc := dc) (aa := As.toArray) hX0 hz hM hA hS hl rfl (vx_runSX (Ts := []) (nL := c.maxLocals) (As := As) (rest := rest) ⟨hx, hb, rfl, hown, fun _ h9 => absurd h9 List.not_mem_nil⟩ hC9 (hcal.w hh hts rfl (hts.at i1 e1 rfl) (hts.at i2 e2 rfl)) (pre9 hX0 hz hM hS) rfl hn hl.1 hst (lv_room hW) h1 hrm)
theorem g_cSN {As : List Value} (hX : Cok X d) (hC : Ctr X.1.2.1 X.2.2.2.2.2 dc sp) (h : AtSN d pc dc na n) (hn : As.length = na) (hst : st = As.reverse ++ rest) (hW : (rest.map fun v => v.category).sum ≤ 8) (hrm : Rm9 d dc cs ss) (kk : sp As M sz (Kc X pc n lv rest (cs + dc.2.2.2.2.1.cells) (ss + dc.2.2.2.2.1.slots))) : G X pc lv st M sz cs ss := by
  obtain ⟨⟨p, l, e, R, s, m, args, below⟩, meth, c, A, Q, g⟩ := X
  obtain ⟨hx, hb, hml, hown, hts, hKS, hAz, hAn, hst9, hlk, hrt, hnm, hR, hex⟩ := hX
  intro H locs ls hz hM hA hS hl
  have hX0 : Cok ((p, l, e, R, s, m, args, below), meth, c, A, Q, g) d := ⟨hx, hb, hml, hown, hts, hKS, hAz, hAn, hst9, hlk, hrt, hnm, hR, hex⟩
  have hR' : R = d.2.2.2.2.1 := hR
  subst hR'
  obtain ⟨index, i1, i2, host, h1, rfl, e1, e2, hh, hcal⟩ := h
  have hz0 : g.2.2.1 ≤ sz := by rw [← hz]; exact Nat.le_trans hKS.2.2.1 hS.1
  have hC9 := hC _ _ _ _ kk (fun q x h9 => hAz q (hA q x h9)) hz0
  exact run9 (As := As) (dc := dc) (aa := As.toArray) hX0 hz hM hA hS hl rfl (vx_runSN (Ts := []) (nL := c.maxLocals) (As := As) (rest := rest) ⟨hx, hb, rfl, hown, fun _ h9 => absurd h9 List.not_mem_nil⟩ hC9 ⟨hcal.nst hh hts rfl (hts.at i1 e1 rfl), hts.at i2 e2 rfl, trivial⟩ (pre9 hX0 hz hM hS) rfl hn hl.1 hst (lv_room hW) h1 hrm)
theorem g_cV {As : List Value} {ci : Nat} {fs : List Value} (hX : Cok X d) (hC : Ctr X.1.2.1 X.2.2.2.2.2 dc sp) (h : AtV d pc dc na ci n) (hm : M a = some (.inl (ci, fs))) (hn : As.length = na) (hst : st = As.reverse ++ .ref a :: rest) (hW : (rest.map fun v => v.category).sum ≤ 8) (hrm : Rm9 d dc cs ss) (kk : sp (.ref a :: As) M sz (Kc X pc n lv rest (cs + dc.2.2.2.2.1.cells) (ss + dc.2.2.2.2.1.slots))) : G X pc lv st M sz cs ss := by
  obtain ⟨⟨p, l, e, R, s, m, args, below⟩, meth, c, A, Q, g⟩ := X
  obtain ⟨hx, hb, hml, hown, hts, hKS, hAz, hAn, hst9, hlk, hrt, hnm, hR, hex⟩ := hX
  intro H locs ls hz hM hA hS hl
  have hX0 : Cok ((p, l, e, R, s, m, args, below), meth, c, A, Q, g) d := ⟨hx, hb, hml, hown, hts, hKS, hAz, hAn, hst9, hlk, hrt, hnm, hR, hex⟩
  have hR' : R = d.2.2.2.2.1 := hR
  subst hR'
  obtain ⟨index, i1, i2, i3, q9, h1, rfl, hq, e1, e2, e3, hh, hcal⟩ := h
  have hz0 : g.2.2.1 ≤ sz := by rw [← hz]; exact Nat.le_trans hKS.2.2.1 hS.1
  have hC9 := hC _ _ _ _ kk (fun q x h9 => hAz q (hA q x h9)) hz0
  exact run9 (As := .ref a :: As) (dc := dc) (aa := (Value.ref a :: As).toArray) hX0 hz hM hA hS hl rfl (vx_runV (Ts := []) (nL := c.maxLocals) (As := As) (rest := rest) (b := a) (C := q9.1) ⟨hx, hb, rfl, hown, fun _ h9 => absurd h9 List.not_mem_nil⟩ hC9 ⟨hcal.b hh hts rfl (hts.at i1 e1 rfl), hts.at i2 e2 rfl, hts.at i3 e3 rfl⟩ ⟨Pc9.blind, va_recv (D := g.1) hKS.1 (hM.one hm) hq (q0 := 0) rfl, (pre9 hX0 hz hM hS).2⟩ rfl hn hl.1 hst (lv_room hW) h1 hrm)
theorem g_cVN {As : List Value} {ci : Nat} {fs : List Value} (hX : Cok X d) (hC : Ctr X.1.2.1 X.2.2.2.2.2 dc sp) (h : AtVN d pc dc na ci n) (hm : M a = some (.inl (ci, fs))) (hn : As.length = na) (hst : st = As.reverse ++ .ref a :: rest) (hW : (rest.map fun v => v.category).sum ≤ 8) (hrm : Rm9 d dc cs ss) (kk : sp (.ref a :: As) M sz (Kc X pc n lv rest (cs + dc.2.2.2.2.1.cells) (ss + dc.2.2.2.2.1.slots))) : G X pc lv st M sz cs ss := by
  obtain ⟨⟨p, l, e, R, s, m, args, below⟩, meth, c, A, Q, g⟩ := X
  obtain ⟨hx, hb, hml, hown, hts, hKS, hAz, hAn, hst9, hlk, hrt, hnm, hR, hex⟩ := hX
  intro H locs ls hz hM hA hS hl
  have hX0 : Cok ((p, l, e, R, s, m, args, below), meth, c, A, Q, g) d := ⟨hx, hb, hml, hown, hts, hKS, hAz, hAn, hst9, hlk, hrt, hnm, hR, hex⟩
  have hR' : R = d.2.2.2.2.1 := hR
  subst hR'
  obtain ⟨index, i1, i2, i3, q9, host, h1, rfl, hq, e1, e2, e3, hh, hcal⟩ := h
  have hz0 : g.2.2.1 ≤ sz := by rw [← hz]; exact Nat.le_trans hKS.2.2.1 hS.1
  have hC9 := hC _ _ _ _ kk (fun q x h9 => hAz q (hA q x h9)) hz0
  exact run9 (As := .ref a :: As) (dc := dc) (aa := (Value.ref a :: As).toArray) hX0 hz hM hA hS hl rfl (vx_runVN (Ts := []) (nL := c.maxLocals) (As := As) (rest := rest) (b := a) (C := q9.1) ⟨hx, hb, rfl, hown, fun _ h9 => absurd h9 List.not_mem_nil⟩ hC9 ⟨hcal.nst hh hts rfl (hts.at i1 e1 rfl), hts.at i2 e2 rfl, hts.at i3 e3 rfl⟩ ⟨Pc9.blind, va_recv (D := g.1) hKS.1 (hM.one hm) hq (q0 := 0) rfl, (pre9 hX0 hz hM hS).2⟩ rfl hn hl.1 hst (lv_room hW) h1 hrm)
theorem g_cI {As : List Value} (hX : Cok X d) (hC : Ctr X.1.2.1 X.2.2.2.2.2 dc sp) (h : AtNI d pc dc na n) (hn : As.length = na) (hst : st = As.reverse ++ .ref a :: rest) (hW : (rest.map fun v => v.category).sum ≤ 8) (hrm : Rm9 d dc cs ss) (kk : sp (.ref a :: As) M sz (Kc X pc n lv rest (cs + dc.2.2.2.2.1.cells) (ss + dc.2.2.2.2.1.slots))) : G X pc lv st M sz cs ss := by
  obtain ⟨⟨p, l, e, R, s, m, args, below⟩, meth, c, A, Q, g⟩ := X
  obtain ⟨hx, hb, hml, hown, hts, hKS, hAz, hAn, hst9, hlk, hrt, hnm, hR, hex⟩ := hX
  intro H locs ls hz hM hA hS hl
  have hX0 : Cok ((p, l, e, R, s, m, args, below), meth, c, A, Q, g) d := ⟨hx, hb, hml, hown, hts, hKS, hAz, hAn, hst9, hlk, hrt, hnm, hR, hex⟩
  have hR' : R = d.2.2.2.2.1 := hR
  subst hR'
  obtain ⟨index, i1, i2, h1, rfl, e1, e2, hnm9, hret9, hh, hcal⟩ := h
  have hz0 : g.2.2.1 ≤ sz := by rw [← hz]; exact Nat.le_trans hKS.2.2.1 hS.1
  have hC9 := hC _ _ _ _ kk (fun q x h9 => hAz q (hA q x h9)) hz0
  have hcb := hcal.b hh hts rfl (hts.at i1 e1 rfl)
  rw [hret9] at hcb
  exact run9 (As := .ref a :: As) (dc := dc) (aa := (Value.ref a :: As).toArray) hX0 hz hM hA hS hl rfl (vx_runI (Ts := []) (nL := c.maxLocals) (As := As) (rest := rest) (b := a) ⟨hx, hb, rfl, hown, fun _ h9 => absurd h9 List.not_mem_nil⟩ hC9 ⟨hcb, hnm9, hts.at i2 e2 rfl⟩ (pre9 hX0 hz hM hS) rfl hn hl.1 hst (lv_room hW) h1 hrm)
theorem g_cIN {As : List Value} (hX : Cok X d) (hC : Ctr X.1.2.1 X.2.2.2.2.2 dc sp) (h : AtNIN d pc dc na n) (hn : As.length = na) (hst : st = As.reverse ++ .ref a :: rest) (hW : (rest.map fun v => v.category).sum ≤ 8) (hrm : Rm9 d dc cs ss) (kk : sp (.ref a :: As) M sz (Kc X pc n lv rest (cs + dc.2.2.2.2.1.cells) (ss + dc.2.2.2.2.1.slots))) : G X pc lv st M sz cs ss := by
  obtain ⟨⟨p, l, e, R, s, m, args, below⟩, meth, c, A, Q, g⟩ := X
  obtain ⟨hx, hb, hml, hown, hts, hKS, hAz, hAn, hst9, hlk, hrt, hnm, hR, hex⟩ := hX
  intro H locs ls hz hM hA hS hl
  have hX0 : Cok ((p, l, e, R, s, m, args, below), meth, c, A, Q, g) d := ⟨hx, hb, hml, hown, hts, hKS, hAz, hAn, hst9, hlk, hrt, hnm, hR, hex⟩
  have hR' : R = d.2.2.2.2.1 := hR
  subst hR'
  obtain ⟨index, i1, i2, host, h1, rfl, e1, e2, hnm9, hret9, hh, hcal⟩ := h
  have hz0 : g.2.2.1 ≤ sz := by rw [← hz]; exact Nat.le_trans hKS.2.2.1 hS.1
  have hC9 := hC _ _ _ _ kk (fun q x h9 => hAz q (hA q x h9)) hz0
  have hcb := hcal.nst hh hts rfl (hts.at i1 e1 rfl)
  rw [hret9] at hcb
  exact run9 (As := .ref a :: As) (dc := dc) (aa := (Value.ref a :: As).toArray) hX0 hz hM hA hS hl rfl (vx_runIN (Ts := []) (nL := c.maxLocals) (As := As) (rest := rest) (b := a) ⟨hx, hb, rfl, hown, fun _ h9 => absurd h9 List.not_mem_nil⟩ hC9 ⟨hcb, hnm9, hts.at i2 e2 rfl⟩ (pre9 hX0 hz hM hS) rfl hn hl.1 hst (lv_room hW) h1 hrm)
def AtO (d : hD) (pc n : Nat) : Prop := ∃ index i j k : Nat, decode d.2.1 pc = .ok (.invokespecial index, 3) ∧ pc + 3 = n ∧ lw_tbl[i]? = some (Cond.methodLink d.1.cls index objectInit) ∧ lw_tbl[j]? = some (Cond.instanceMethod objectInit) ∧ lw_tbl[k]? = some (Cond.code objectInit ⟨#[0xb1]⟩ 1 none) ∧ 1 ≤ d.2.2.2.2.1.frames ∧ 12 ≤ d.2.2.2.2.1.locals
theorem g_obj (hX : Cok X d) (h : AtO d pc n) (kk : G X n lv [] M sz cs ss) : G X pc lv [.ref a] M sz cs ss := by
  obtain ⟨⟨p, l, e, R, s, m, args, below⟩, meth, c, A, Q, g⟩ := X
  obtain ⟨hx, hb, hml, hown, hts, hKS, hAz, hAn, hst9, hlk, hrt, hnm, hR, hex⟩ := hX
  intro H locs ls hz hM hA hS hl
  obtain ⟨index, i1, i2, i3, h1, rfl, e1, e2, e3, hf, hlo⟩ := h
  have hR' : R = d.2.2.2.2.1 := hR
  exact W.objInit hx hb hown (hts.at i1 e1 rfl) (hts.at i2 e2 rfl) (hts.at i3 e3 rfl) rfl hl.1 rfl h1 (by rw [hR']; exact hf) (by rw [hR']; exact hlo) (kk H locs ls hz hM hA hS hl)
/-! ends -/
theorem g_iret {x : Int32} {ty : FieldType} {M0 : hM} {sz0 : Nat} {K : hK} (hX : Cok X d) (hr9 : Ret X d M0 sz0 K) (h : At d pc .ireturn 1 n) (hty : d.2.2.2.1 = some ty) (hn : narrow ty (.int x) = .int x) (hc : cs ≤ d.2.2.2.2.1.cells) (hs : ss ≤ d.2.2.2.2.1.slots) (kk : K (.inl (some (.int x))) M sz) : G X pc lv [.int x] M sz cs ss := by
  obtain ⟨⟨p, l, e, R, s, m, args, below⟩, meth, c, A, Q, g⟩ := X
  obtain ⟨hx, hb, hml, hown, hts, hKS, hAz, hAn, hst9, hlk, hrt, hnm, hR, hex⟩ := hX
  intro H locs ls hz hM hA hS hl
  obtain ⟨hA9, hQ9⟩ := hr9
  dsimp only at hA9 hQ9 hrt hKS hlk
  subst hA9
  subst hQ9
  refine W.widen hc hs (vx_ret ?_)
  exact W.zret hx hb (hrt.trans hty) hn (fun t ht hW => ⟨⟨_, M, rfl, by rw [ht, hz]; exact kk, by rw [ht]; exact hM, hA⟩, hS.F ht⟩) hS.2.2 h.1 hlk
theorem g_aret {v : Value} {ty : FieldType} {M0 : hM} {sz0 : Nat} {K : hK} (hX : Cok X d) (hr9 : Ret X d M0 sz0 K) (h : At d pc .areturn 1 n) (hty : d.2.2.2.1 = some ty) (hrt9 : (∃ n, ty = .object n) ∨ ∃ t, ty = .array t) (hv : isRefV v = true) (hc : cs ≤ d.2.2.2.2.1.cells) (hs : ss ≤ d.2.2.2.2.1.slots) (kk : K (.inl (some v)) M sz) : G X pc lv [v] M sz cs ss := by
  obtain ⟨⟨p, l, e, R, s, m, args, below⟩, meth, c, A, Q, g⟩ := X
  obtain ⟨hx, hb, hml, hown, hts, hKS, hAz, hAn, hst9, hlk, hrt, hnm, hR, hex⟩ := hX
  intro H locs ls hz hM hA hS hl
  obtain ⟨hA9, hQ9⟩ := hr9
  dsimp only at hA9 hQ9 hrt hKS hlk
  subst hA9
  subst hQ9
  refine W.widen hc hs (vx_ret ?_)
  have hv2 : v = .null ∨ ∃ a, v = .ref a := by
    cases v <;> first | (simp [isRefV] at hv; done) | exact Or.inl rfl | exact Or.inr ⟨_, rfl⟩
  exact W.aret hx hb (hrt.trans hty) hrt9 hv2 (fun t ht hW => ⟨⟨_, M, rfl, by rw [ht, hz]; exact kk, by rw [ht]; exact hM, hA⟩, hS.F ht⟩) hS.2.2 h.1 hlk
theorem g_vret {M0 : hM} {sz0 : Nat} {K : hK} (hX : Cok X d) (hr9 : Ret X d M0 sz0 K) (h : At d pc .return_ 1 n) (hty : d.2.2.2.1 = none) (hc : cs ≤ d.2.2.2.2.1.cells) (hs : ss ≤ d.2.2.2.2.1.slots) (kk : K (.inl none) M sz) : G X pc lv [] M sz cs ss := by
  obtain ⟨⟨p, l, e, R, s, m, args, below⟩, meth, c, A, Q, g⟩ := X
  obtain ⟨hx, hb, hml, hown, hts, hKS, hAz, hAn, hst9, hlk, hrt, hnm, hR, hex⟩ := hX
  intro H locs ls hz hM hA hS hl
  obtain ⟨hA9, hQ9⟩ := hr9
  dsimp only at hA9 hQ9 hrt hKS hlk
  subst hA9
  subst hQ9
  refine W.widen hc hs (vx_ret ?_)
  exact W.vret hx hb (hrt.trans hty) (fun t ht hW => ⟨⟨_, M, rfl, by rw [ht, hz]; exact kk, by rw [ht]; exact hM, hA⟩, hS.F ht⟩) hS.2.2 h.1 hlk
theorem gx_out {E : String} {M0 : hM} {sz0 : Nat} {K : hK} (hX : Cok X d) (hr9 : Ret X d M0 sz0 K) (hh : d.2.2.2.2.2 = []) (hc : cs ≤ d.2.2.2.2.1.cells) (hs : ss ≤ d.2.2.2.2.1.slots) (kk : K (.inr E) M sz) : GX X pc lv rest M sz cs ss E := by
  obtain ⟨⟨p, l, e, R, s, m, args, below⟩, meth, c, A, Q, g⟩ := X
  obtain ⟨hx, hb, hml, hown, hts, hKS, hAz, hAn, hst9, hlk, hrt, hnm, hR, hex⟩ := hX
  intro H locs ls q9 ce hz hM hA hS hl hce hcv hcl
  obtain ⟨hA9, hQ9⟩ := hr9
  dsimp only at hA9 hQ9 hrt hKS hlk hex
  subst hA9
  subst hQ9
  refine vx_out (fun x h9 => ?_) hlk hce hcv hcl (fun t ht hW => ⟨⟨M, by rw [ht, hz]; exact kk, by rw [ht]; exact hM, hA⟩, hS.F ht⟩) hS.2.2 hc hs
  rw [hex, hh] at h9
  cases h9
/-- caught by the k-th row of the table; the rows ahead name other classes -/
theorem gx_catch {E : String} (hX : Cok X d) (pre : List (Nat × Nat × Nat × Nat)) (x : Nat × Nat × Nat × Nat) (suf : List (Nat × Nat × Nat × Nat)) (hh : d.2.2.2.2.2 = pre ++ x :: suf) (hpre : ∀ z ∈ pre, z.2.2.2 ≠ 0 ∧ ∃ (i : Nat) (nm : String), lw_tbl[i]? = some (Cond.classLink d.1.cls z.2.2.2 nm) ∧ (E, nm) ∈ nc9) (hx9 : covers ⟨x.1, x.2.1, x.2.2.1, x.2.2.2⟩ pc = true) (h0 : x.2.2.2 ≠ 0) (hl9 : ∃ i j : Nat, lw_tbl[i]? = some (Cond.classLink d.1.cls x.2.2.2 E) ∧ lw_tbl[j]? = some (Cond.castable E E)) (kk : ∀ q : Nat, G X x.2.2.1 lv [.ref q] M sz cs ss) : GX X pc lv rest M sz cs ss E := by
  obtain ⟨⟨p, l, e, R, s, m, args, below⟩, meth, c, A, Q, g⟩ := X
  obtain ⟨hx, hb, hml, hown, hts, hKS, hAz, hAn, hst9, hlk, hrt, hnm, hR, hex⟩ := hX
  intro H locs ls q9 ce hz hM hA hS hl hce hcv hcl
  obtain ⟨i, j, e1, e2⟩ := hl9
  obtain ⟨-, -, -, -, -, -, -, -, hnc, -⟩ := hKS
  refine vx_catch hown (tableOf pre) ⟨x.1, x.2.1, x.2.2.1, x.2.2.2⟩ (tableOf suf) ?_ (fun z hz9 => ?_) hx9 h0 (hts.at i e1 rfl) (hts.at j e2 rfl) hce hcv hcl (kk q9 H locs ls hz hM hA hS hl)
  · rw [show c.exceptionTable.toList = tableOf d.2.2.2.2.2 from hex, hh]
    unfold tableOf
    rw [List.map_append]
    rfl
  · obtain ⟨z0, hz0, rfl⟩ := List.mem_map.mp hz9
    obtain ⟨h1, k, nm, h2, h3⟩ := hpre z0 hz0
    exact Or.inr ⟨h1, nm, hts.at k h2 rfl, hnc (E, nm) h3⟩
def AtT (d : hD) (pc : Nat) (E : String) : Prop := ∃ (ik ic is_ i1 i2 : Nat) (text : String) (names : List String) (wide : Bool),
  decode d.2.1 pc = .ok (.new ik, 3) ∧ decode d.2.1 (pc + 3) = .ok (.dup, 1) ∧ (if wide = true then decode d.2.1 (pc + 4) = .ok (.ldc_w is_, 3) ∧ decode d.2.1 (pc + 7) = .ok (.invokespecial ic, 3) ∧ decode d.2.1 (pc + 10) = .ok (.athrow, 1) else decode d.2.1 (pc + 4) = .ok (.ldc is_, 2) ∧ decode d.2.1 (pc + 6) = .ok (.invokespecial ic, 3) ∧ decode d.2.1 (pc + 9) = .ok (.athrow, 1)) ∧
  Bundle.fit E = true ∧ (∀ nm ∈ names, Bundle.fit nm = true) ∧ lw_tbl[i1]? = some (Cond.classLink d.1.cls ik E) ∧ lw_tbl[i2]? = some (Cond.initialized E) ∧ (d.1.cls, is_, text) ∈ strs9 ∧ (∀ w ∈ vx_atS d.1.cls ic E names, w ∈ lw_tbl ∧ tw w = true) ∧ (∀ w ∈ Cond.classLink d.1.cls ik E :: Cond.initialized E :: vx_atS d.1.cls ic E names, vx_ot w = true) ∧
  names.length + 3 < d.2.2.2.2.1.frames ∧ 13 * (names.length + 1) + 43 ≤ d.2.2.2.2.1.locals ∧ d.2.2.2.2.2 = []
theorem g_throw {E : String} {M0 : hM} {sz0 : Nat} {K : hK} (hX : Cok X d) (hr9 : Ret X d M0 sz0 K) (h : AtT d pc E) (hc : cs + 1 ≤ d.2.2.2.2.1.cells) (hs : ss + 6 ≤ d.2.2.2.2.1.slots) (kk : ∀ sz', sz ≤ sz' → K (.inr E) M sz') : G X pc lv [] M sz cs ss := by
  obtain ⟨⟨p, l, e, R, s, m, args, below⟩, meth, c, A, Q, g⟩ := X
  obtain ⟨hx, hb, hml, hown, hts, hKS, hAz, hAn, hst9, hlk, hrt, hnm, hR, hex⟩ := hX
  intro H locs ls hz hM hA hS hl
  obtain ⟨hA9, hQ9⟩ := hr9
  dsimp only at hA9 hQ9 hrt hlk hex hR hst9
  subst hA9
  subst hQ9
  subst hR
  obtain ⟨ik, ic, is_, i1, i2, text, names, wide, d0, d3, dd, hf1, hf2, e1, e2, hstr, hat, hgood, hfr, hlo, hh⟩ := h
  obtain ⟨-, -, -, -, -, ⟨hU, hN⟩, hss, -⟩ := hKS
  obtain ⟨sa, hsa⟩ := hss _ hstr
  have hout : ∀ (x : ExceptionTableEntry) (z : Nat), x ∈ c.exceptionTable.toList → covers x z = false := fun x z h9 => by
    rw [hex, hh] at h9
    cases h9
  have hxx : ∀ t : State, s.vm.Alike t.vm → H.size ≤ t.heap.size → (∀ q : Nat, q < H.size → t.heap[q]? = H[q]?) → XC9 g M0 sz0 K E s t := fun t _ h1 h2 =>
    ⟨⟨M, kk _ (by rw [← hz]; exact h1), hM.kept (fun a x h9 => h2 a (hM.lt h9)), hA⟩, ⟨Nat.le_trans hS.1 h1, fun q h3 h4 => (h2 q (Nat.lt_of_lt_of_le h3 hS.1)).trans (hS.2.1 q h3 h4)⟩⟩
  cases wide with
  | true =>
    rw [if_pos rfl] at dd
    exact vx_throwSW hx hb hst9 hown hf1 hf2 (hts.at i1 e1 rfl) (hts.at i2 e2 rfl) hsa (fun w hw => hts w (hat w hw).1 (hat w hw).2) hgood (hU.narrow hAz) (hN.narrow hAz) hS hl.1 d0 d3 dd.1 dd.2.1 dd.2.2 (fun x h9 => hout x _ h9) hfr (by simpa using hlo) hc hs hlk hxx hS.2.2 hc hs
  | false =>
    rw [if_neg (by decide)] at dd
    exact vx_throwS hx hb hst9 hown hf1 hf2 (hts.at i1 e1 rfl) (hts.at i2 e2 rfl) hsa (fun w hw => hts w (hat w hw).1 (hat w hw).2) hgood (hU.narrow hAz) (hN.narrow hAz) hS hl.1 d0 d3 dd.1 dd.2.1 dd.2.2 (fun x h9 => hout x _ h9) hfr (by simpa using hlo) hc hs hlk hxx hS.2.2 hc hs
end R3
end
