/-! the environment at the start, out of what the Statement gives -/
theorem arr9 {args : Array Value} {s : State} {ty : FieldType} (hty : ∀ C : String, ty ≠ .object C) (h : (Cond.arrayClass ty).before args s = true) : ∃ cA : ClassId, ArrOfT s cA ty ∧ va_RA s cA ty := by
  obtain ⟨cA, kA, comp, f1, f2, f3⟩ := Cond.arrayClass_spec h
  refine ⟨cA, fun N z => ⟨(fun k h => by cases h), kA, f2, comp, f3⟩, ?_⟩
  cases ty <;> first | exact f1 | exact absurd rfl (hty _)
theorem arr9o {args : Array Value} {s : State} {C : String} (h : (Cond.arrayOver (.object C)).before args s = true) : ∃ cA : ClassId, ArrOfT s cA (.object C) ∧ va_RA s cA (.object C) := by
  obtain ⟨comp, cA, kA, f0, -, f2, f3, f1⟩ := Cond.arrayOver_spec h
  exact ⟨cA, fun N z => ⟨(fun k h => by cases h), kA, f2, comp, f3⟩, kA, comp, f2, f3, f0, f1⟩
theorem str9 {args : Array Value} {s : State} {own tx : String} {k : Nat} (h1 : (Cond.stringRef own k tx).before args s = true) (h2 : (Cond.exactly (.string own k) "java/lang/String").before args s = true) : ∃ sa, vk_R own k tx sa s := by
  obtain ⟨a, c, cell, kk, e, -⟩ := Cond.exactly_spec h2
  exact ⟨a, vk_R.of h1 e⟩

set_option maxHeartbeats 4000000 in
set_option maxRecDepth 20000 in
theorem KS_0 {s : State} {b : Nat} (hts : ∀ w ∈ lw_tbl, w.before #[Value.ref b] s = true) (hgv : (Jvm.Cond.and given_1 narrow_1).before #[Value.ref b] s = true) : ∃ g : hG, KS g s ∧ g.2.2.1 = s.heap.size := by
  have hs := flat_of_before _ hgv
  have hA : ∀ a : Nat, a < s.heap.size → ¬ z9 s.heap.size a := fun a h q => absurd q (Nat.not_le.mpr h)
  obtain ⟨c0, iS0, hKn0⟩ := u_known (C := RJx4a65c) (T := TJx4a65c) (N := 3) (n := 3) hts (fun w hw => (uw_Jx4a65c w hw).1) (hts (.instantiable RJx4a65c 3) (List.mem_of_getElem? (i := 69) (by decide +kernel)))
  obtain ⟨c1, iS1, hKn1⟩ := u_known (C := RX1) (T := TX1) (N := 5) (n := 5) hts (fun w hw => (uw_X1 w hw).1) (hts (.instantiable RX1 5) (List.mem_of_getElem? (i := 428) (by decide +kernel)))
  obtain ⟨c2, iS2, hKn2⟩ := u_known (C := RX2) (T := TX2) (N := 1) (n := 1) hts (fun w hw => (uw_X2 w hw).1) (hts (.instantiable RX2 1) (List.mem_of_getElem? (i := 95) (by decide +kernel)))
  obtain ⟨c3, iS3, hKn3⟩ := u_known (C := RX3) (T := TX3) (N := 2) (n := 2) hts (fun w hw => (uw_X3 w hw).1) (hts (.instantiable RX3 2) (List.mem_of_getElem? (i := 311) (by decide +kernel)))
  obtain ⟨c4, iS4, hKn4⟩ := u_known (C := RX4) (T := TX4) (N := 3) (n := 3) hts (fun w hw => (uw_X4 w hw).1) (hts (.instantiable RX4 3) (List.mem_of_getElem? (i := 261) (by decide +kernel)))
  obtain ⟨c5, iS5, hKn5⟩ := u_known (C := RX5) (T := TX5) (N := 5) (n := 5) hts (fun w hw => (uw_X5 w hw).1) (hts (.instantiable RX5 5) (List.mem_of_getElem? (i := 747) (by decide +kernel)))
  obtain ⟨c6, iS6, hKn6⟩ := u_known (C := RX6) (T := TX6) (N := 4) (n := 4) hts (fun w hw => (uw_X6 w hw).1) (hts (.instantiable RX6 4) (List.mem_of_getElem? (i := 489) (by decide +kernel)))
  obtain ⟨c7, iS7, hKn7⟩ := u_known (C := RX7) (T := TX7) (N := 5) (n := 5) hts (fun w hw => (uw_X7 w hw).1) (hts (.instantiable RX7 5) (List.mem_of_getElem? (i := 636) (by decide +kernel)))
  obtain ⟨c8, iS8, hKn8⟩ := u_known (C := RX8) (T := TX8) (N := 5) (n := 5) hts (fun w hw => (uw_X8 w hw).1) (hts (.instantiable RX8 5) (List.mem_of_getElem? (i := 109) (by decide +kernel)))
  obtain ⟨c9, iS9, hKn9⟩ := u_known (C := RX9) (T := TX9) (N := 7) (n := 7) hts (fun w hw => (uw_X9 w hw).1) (hts (.instantiable RX9 7) (List.mem_of_getElem? (i := 61) (by decide +kernel)))
  obtain ⟨a_int, hA_int⟩ := arr9 (ty := .int) (fun C h => by cases h) (hts _ (List.mem_of_getElem? (i := 107) (by decide +kernel)))
  obtain ⟨a_byte, hA_byte⟩ := arr9 (ty := .byte) (fun C h => by cases h) (hts _ (List.mem_of_getElem? (i := 234) (by decide +kernel)))
  obtain ⟨a_obj, hA_obj⟩ := arr9o (C := "java/lang/Object") (hts _ (List.mem_of_getElem? (i := 611) (by decide +kernel)))
  obtain ⟨mi, hMi⟩ := va_Mi.of (C := "[Ljava/lang/Object;") (hs (.isRef (.mirror "[Ljava/lang/Object;")) (by decide +kernel))
  obtain ⟨aM, eM, hM⟩ := va_Tof (tm := .static "Hymnwright$Days" "AHEAD_OF_MONTH" "[I") (ty := .int) (N := 12) (f := fun k => .int (fM k)) (A := z9 s.heap.size) (by decide) (hs _ (by decide +kernel)) (va_eqt (hs (.eq (.length (.static "Hymnwright$Days" "AHEAD_OF_MONTH" "[I")) (.int 12)) (by decide +kernel))) (fun j hj => by
    rcases (show j = 0 ∨ j = 1 ∨ j = 2 ∨ j = 3 ∨ j = 4 ∨ j = 5 ∨ j = 6 ∨ j = 7 ∨ j = 8 ∨ j = 9 ∨ j = 10 ∨ j = 11 by omega) with rfl | rfl | rfl | rfl | rfl | rfl | rfl | rfl | rfl | rfl | rfl | rfl
    · exact va_eqt (hs (.eq (.elem (.static "Hymnwright$Days" "AHEAD_OF_MONTH" "[I") (.int 0)) (.int 0)) (by decide +kernel))
    · exact va_eqt (hs (.eq (.elem (.static "Hymnwright$Days" "AHEAD_OF_MONTH" "[I") (.int 1)) (.int 31)) (by decide +kernel))
    · exact va_eqt (hs (.eq (.elem (.static "Hymnwright$Days" "AHEAD_OF_MONTH" "[I") (.int 2)) (.int 59)) (by decide +kernel))
    · exact va_eqt (hs (.eq (.elem (.static "Hymnwright$Days" "AHEAD_OF_MONTH" "[I") (.int 3)) (.int 90)) (by decide +kernel))
    · exact va_eqt (hs (.eq (.elem (.static "Hymnwright$Days" "AHEAD_OF_MONTH" "[I") (.int 4)) (.int 120)) (by decide +kernel))
    · exact va_eqt (hs (.eq (.elem (.static "Hymnwright$Days" "AHEAD_OF_MONTH" "[I") (.int 5)) (.int 151)) (by decide +kernel))
    · exact va_eqt (hs (.eq (.elem (.static "Hymnwright$Days" "AHEAD_OF_MONTH" "[I") (.int 6)) (.int 181)) (by decide +kernel))
    · exact va_eqt (hs (.eq (.elem (.static "Hymnwright$Days" "AHEAD_OF_MONTH" "[I") (.int 7)) (.int 212)) (by decide +kernel))
    · exact va_eqt (hs (.eq (.elem (.static "Hymnwright$Days" "AHEAD_OF_MONTH" "[I") (.int 8)) (.int 243)) (by decide +kernel))
    · exact va_eqt (hs (.eq (.elem (.static "Hymnwright$Days" "AHEAD_OF_MONTH" "[I") (.int 9)) (.int 273)) (by decide +kernel))
    · exact va_eqt (hs (.eq (.elem (.static "Hymnwright$Days" "AHEAD_OF_MONTH" "[I") (.int 10)) (.int 304)) (by decide +kernel))
    · exact va_eqt (hs (.eq (.elem (.static "Hymnwright$Days" "AHEAD_OF_MONTH" "[I") (.int 11)) (.int 334)) (by decide +kernel))
    ) hA
  obtain ⟨aD, eD, hD⟩ := va_Tof (tm := .static "java/util/ArrayList" "DEFAULTCAPACITY_EMPTY_ELEMENTDATA" "[Ljava/lang/Object;") (ty := .object "java/lang/Object") (N := 0) (f := fun _ => .null) (A := z9 s.heap.size) (by decide) (hs _ (by decide +kernel)) (va_eqt (hs (.eq (.length (.static "java/util/ArrayList" "DEFAULTCAPACITY_EMPTY_ELEMENTDATA" "[Ljava/lang/Object;")) (.int 0)) (by decide +kernel))) (fun j hj => absurd hj (Nat.not_lt_zero j)) hA
  refine ⟨((fun k => [c0, c1, c2, c3, c4, c5, c6, c7, c8, c9].getD k c9, fun k => if k = 99 then (fun _ => mi) else [iS0, iS1, iS2, iS3, iS4, iS5, iS6, iS7, iS8, iS9].getD k iS9), (fun k => [a_int, a_byte, a_int, a_obj].getD k a_obj), s.heap.size, aM, aD), ⟨⟨?_, ?_⟩, TW.same (s := s) (args := #[Value.ref b]) rfl (fun w hw _ => hts w hw), Nat.le_refl _, ⟨?_, hM, (by obtain ⟨cell, q1, -⟩ := hM; exact (Array.getElem?_eq_some_iff.mp q1).1)⟩, ⟨?_, ?_, (by obtain ⟨cell, q1, -⟩ := hD; exact (Array.getElem?_eq_some_iff.mp q1).1)⟩, ⟨?_, ?_⟩, ?_, ?_, ?_, ?_⟩, rfl⟩
  · intro k q hq
    match k, hq with
    | 0, hq => cases hq; exact hKn0
    | 1, hq => cases hq; exact hKn1
    | 2, hq => cases hq; exact hKn2
    | 3, hq => cases hq; exact hKn3
    | 4, hq => cases hq; exact hKn4
    | 5, hq => cases hq; exact hKn5
    | 6, hq => cases hq; exact hKn6
    | 7, hq => cases hq; exact hKn7
    | 8, hq => cases hq; exact hKn8
    | 9, hq => cases hq; exact hKn9
    | k + 10, hq => simp at hq
  · intro k q hq
    match k, hq with
    | 0, hq => cases hq; exact hA_int
    | 1, hq => cases hq; exact hA_byte
    | 2, hq => cases hq; exact hA_int
    | 3, hq => cases hq; exact hA_obj
    | k + 4, hq => simp at hq
  · exact va_Zof (hts _ (List.mem_of_getElem? (i := 380) (by decide +kernel))) (hts _ (List.mem_of_getElem? (i := 57) (by decide +kernel))) eM hA
  · exact va_Zof (hts _ (List.mem_of_getElem? (i := 81) (by decide +kernel))) (hts _ (List.mem_of_getElem? (i := 37) (by decide +kernel))) eD hA
  · obtain ⟨cell, q1, q2, q3, q4, q5, q6, q7⟩ := hD
    exact ⟨cell, _, q1, q2, q5⟩
  · exact vx_Zqof (hts (.laysStatic "java/lang/Throwable" "UNASSIGNED_STACK" "[Ljava/lang/StackTraceElement;") (List.mem_of_getElem? (i := 194) (by decide +kernel))) (hts _ (List.mem_of_getElem? (i := 43) (by decide +kernel))) (hs (.isRef (.static "java/lang/Throwable" "UNASSIGNED_STACK" "[Ljava/lang/StackTraceElement;")) (by decide +kernel)) hA
  · exact vx_Zqof (hts (.laysStatic "java/lang/Throwable" "SUPPRESSED_SENTINEL" "Ljava/util/List;") (List.mem_of_getElem? (i := 196) (by decide +kernel))) (hts _ (List.mem_of_getElem? (i := 43) (by decide +kernel))) (hs (.isRef (.static "java/lang/Throwable" "SUPPRESSED_SENTINEL" "Ljava/util/List;")) (by decide +kernel)) hA
  · exact List.forall_mem_cons.mpr ⟨str9 (hts _ (List.mem_of_getElem? (i := 512) (by decide +kernel))) (hs (.exactly (.string "Hymnwright" 54) "java/lang/String") (by decide +kernel)), List.forall_mem_cons.mpr ⟨str9 (hts _ (List.mem_of_getElem? (i := 635) (by decide +kernel))) (hs (.exactly (.string "Hymnwright" 79) "java/lang/String") (by decide +kernel)), List.forall_mem_cons.mpr ⟨str9 (hts _ (List.mem_of_getElem? (i := 280) (by decide +kernel))) (hs (.exactly (.string "Hymnwright" 97) "java/lang/String") (by decide +kernel)), List.forall_mem_cons.mpr ⟨str9 (hts _ (List.mem_of_getElem? (i := 480) (by decide +kernel))) (hs (.exactly (.string "Hymnwright" 207) "java/lang/String") (by decide +kernel)), List.forall_mem_cons.mpr ⟨str9 (hts _ (List.mem_of_getElem? (i := 737) (by decide +kernel))) (hs (.exactly (.string "Hymnwright" 220) "java/lang/String") (by decide +kernel)), List.forall_mem_cons.mpr ⟨str9 (hts _ (List.mem_of_getElem? (i := 746) (by decide +kernel))) (hs (.exactly (.string "Hymnwright" 226) "java/lang/String") (by decide +kernel)), List.forall_mem_cons.mpr ⟨str9 (hts _ (List.mem_of_getElem? (i := 500) (by decide +kernel))) (hs (.exactly (.string "Hymnwright" 249) "java/lang/String") (by decide +kernel)), List.forall_mem_cons.mpr ⟨str9 (hts _ (List.mem_of_getElem? (i := 346) (by decide +kernel))) (hs (.exactly (.string "Hymnwright" 256) "java/lang/String") (by decide +kernel)), List.forall_mem_cons.mpr ⟨str9 (hts _ (List.mem_of_getElem? (i := 208) (by decide +kernel))) (hs (.exactly (.string "Hymnwright" 260) "java/lang/String") (by decide +kernel)), List.forall_mem_cons.mpr ⟨str9 (hts _ (List.mem_of_getElem? (i := 626) (by decide +kernel))) (hs (.exactly (.string "Hymnwright" 266) "java/lang/String") (by decide +kernel)), List.forall_mem_cons.mpr ⟨str9 (hts _ (List.mem_of_getElem? (i := 720) (by decide +kernel))) (hs (.exactly (.string "Hymnwright" 271) "java/lang/String") (by decide +kernel)), fun _ h9 => absurd h9 List.not_mem_nil⟩⟩⟩⟩⟩⟩⟩⟩⟩⟩⟩
  · exact va_AO.of (A := #[Value.ref b]) (hts _ (List.mem_of_getElem? (i := 611) (by decide +kernel)))
  · exact List.forall_mem_cons.mpr ⟨va_Nc.of (hs (.not (.castable "java/lang/IllegalArgumentException" "java/lang/IllegalStateException")) (by decide +kernel)), List.forall_mem_cons.mpr ⟨va_Nc.of (hs (.not (.castable "java/lang/IllegalArgumentException" "java/lang/IndexOutOfBoundsException")) (by decide +kernel)), List.forall_mem_cons.mpr ⟨va_Nc.of (hs (.not (.castable "java/lang/IllegalStateException" "java/lang/IllegalArgumentException")) (by decide +kernel)), List.forall_mem_cons.mpr ⟨va_Nc.of (hs (.not (.castable "java/lang/IllegalStateException" "java/lang/IndexOutOfBoundsException")) (by decide +kernel)), List.forall_mem_cons.mpr ⟨va_Nc.of (hs (.not (.castable "java/lang/IndexOutOfBoundsException" "java/lang/IllegalArgumentException")) (by decide +kernel)), List.forall_mem_cons.mpr ⟨va_Nc.of (hs (.not (.castable "java/lang/IndexOutOfBoundsException" "java/lang/IllegalStateException")) (by decide +kernel)), fun _ h9 => absurd h9 List.not_mem_nil⟩⟩⟩⟩⟩⟩
  · exact hMi
