/-! most -/
set_option maxRecDepth 20000 in
theorem mo_g81 {X : hX} (hX : Cok X mL_most) (hst : X.1.2.1.stackTraces = false) {M0 : hM} {sz0 : Nat} {K : hK} (hR : Ret X mL_most M0 sz0 K) (hK : ∀ (M' : hM) (s9 : Nat), K (.inl (some (.int (iZ 1)))) M' s9) {h : Nat} {A : Nat → Nat → Nat} {ow : Nat → Nat × Nat} {τ : Nat → Nat → Int} {M : hM} {sz cs ss : Nat} (hH : HX X.2.2.2.2.2.2.2.2.2 h A ow (ya_TB ymS136) τ M) (hV : SV (ya_TB ymS136)) (hc : cs + 2714 ≤ 5000) (hs : ss + 67774 ≤ 125000) : G X 465 [.ref h, .int (iZ 60), .int (iZ 60), .int (iZ 7), .int (iZ 3)] [.int (iZ 2200), .int (iZ 23), .ref h] M sz cs ss := by
  refine g_const hX dL_most_465 ?_
  refine g_iload hX dL_most_467 rfl ?_
  refine g_const hX dL_most_468 ?_
  refine l_act hX hst dL_most_469 hH hV (ya_in rfl) (ya_in rfl) (ya_in rfl) (ya_in rfl) (ya_in rfl) yme346 (show cs + 10 ≤ 5000 by omega) (show ss + 250 ≤ 125000 by omega) (by first | exact Nat.le_of_ble_eq_true rfl | simp [cat_rf, Value.category]) (fun A ow τ M sz hH hV => ?_)
  refine g_istore hX dL_most_472 ?_
  dsimp only [List.set]
  refine g_iload hX dL_most_474 rfl ?_
  refine g_iload hX dL_most_476 rfl ?_
  refine g_const hX dL_most_477 ?_
  refine yt_icmp_ge hX dL_most_479 (ya_in rfl) (ya_in rfl) (by decide) ?_
  refine g_const hX dL_most_486 ?_
  refine yt_icmp_eq hX dL_most_488 (ya_in rfl) (ya_in rfl) (by decide) ?_
  refine g_iload hX dL_most_493 rfl ?_
  refine g_iload hX dL_most_494 rfl ?_
  refine yf_if_ge hX dL_most_496 (ya_in rfl) (by decide) ?_
  refine g_const hX dL_most_499 ?_
  refine g_goto hX dL_most_500 ?_
  refine y_iadd (c := 60) hX dL_most_504 (by decide) ?_
  refine g_istore hX dL_most_505 ?_
  dsimp only [List.set]
  refine y_iinc (c := 61) hX dL_most_506 rfl (by decide) ?_
  dsimp only [List.set]
  refine g_goto hX dL_most_509 ?_
  refine g_iload hX dL_most_424 rfl ?_
  refine g_const hX dL_most_425 ?_
  refine yt_icmp_ge hX dL_most_427 (ya_in rfl) (ya_in rfl) (by decide) ?_
  refine g_iload hX dL_most_512 rfl ?_
  refine g_const hX dL_most_513 ?_
  refine yf_icmp_ne hX dL_most_515 (ya_in rfl) (ya_in rfl) (by decide) ?_
  refine g_aload hX dL_most_518 rfl rfl ?_
  refine g_const hX dL_most_519 ?_
  refine l_sung hX hst dL_most_520 hH hV (ya_in rfl) yme347 (show cs + 10 + 1 ≤ 5000 by omega) (show ss + 250 + 6 ≤ 125000 by omega) (by first | exact Nat.le_of_ble_eq_true rfl | simp [cat_rf, Value.category]) (fun A ow τ M sz hH hV => ?_)
  refine g_const hX dL_most_523 ?_
  refine yf_icmp_ne hX dL_most_525 (ya_in rfl) (ya_in rfl) (by decide) ?_
  refine g_aload hX dL_most_528 rfl rfl ?_
  refine g_const hX dL_most_529 ?_
  refine l_sung hX hst dL_most_531 hH hV (ya_in rfl) yme348 (show cs + 10 + 1 + 1 ≤ 5000 by omega) (show ss + 250 + 6 + 6 ≤ 125000 by omega) (by first | exact Nat.le_of_ble_eq_true rfl | simp [cat_rf, Value.category]) (fun A ow τ M sz hH hV => ?_)
  refine yf_if_ne hX dL_most_534 (ya_in rfl) (by decide) ?_
  refine g_aload hX dL_most_537 rfl rfl ?_
  refine g_const hX dL_most_538 ?_
  refine g_const hX dL_most_540 ?_
  refine l_service hX hst dL_most_541 hH hV (ya_in rfl) (ya_in rfl) yme349 (show cs + 10 + 1 + 1 + 2 ≤ 5000 by omega) (show ss + 250 + 6 + 6 + 12 ≤ 125000 by omega) (by first | exact Nat.le_of_ble_eq_true rfl | simp [cat_rf, Value.category]) (fun A ow τ M sz hH hV => ?_)
  refine g_const hX dL_most_544 ?_
  refine yf_icmp_ne hX dL_most_547 (ya_in rfl) (ya_in rfl) (by decide) ?_
  refine g_aload hX dL_most_550 rfl rfl ?_
  refine g_const hX dL_most_551 ?_
  refine g_const hX dL_most_553 ?_
  refine g_const hX dL_most_555 ?_
  refine g_const hX dL_most_557 ?_
  refine l_refuses hX hst dL_most_559 hH hV (by decide +kernel) (by decide +kernel) (by decide +kernel) (by decide +kernel) (show cs + 10 + 1 + 1 + 2 + 2700 ≤ 5000 by omega) (show ss + 250 + 6 + 6 + 12 + 67500 ≤ 125000 by omega) (by first | exact Nat.le_of_ble_eq_true rfl | simp [cat_rf, Value.category]) (fun A ow τ M sz hH hV => ?_)
  refine yf_if_eq hX dL_most_562 (ya_in rfl) (by decide) ?_
  refine g_const hX dL_most_565 ?_
  refine g_goto hX dL_most_566 ?_
  refine g_iret hX hR dL_most_570 rfl rfl (show cs + 10 + 1 + 1 + 2 + 2700 ≤ 5000 by omega) (show ss + 250 + 6 + 6 + 12 + 67500 ≤ 125000 by omega) ?_
  exact hK _ _

set_option maxRecDepth 20000 in
theorem mo_g80 {X : hX} (hX : Cok X mL_most) (hst : X.1.2.1.stackTraces = false) {M0 : hM} {sz0 : Nat} {K : hK} (hR : Ret X mL_most M0 sz0 K) (hK : ∀ (M' : hM) (s9 : Nat), K (.inl (some (.int (iZ 1)))) M' s9) {h : Nat} {A : Nat → Nat → Nat} {ow : Nat → Nat × Nat} {τ : Nat → Nat → Int} {M : hM} {sz cs ss : Nat} (hH : HX X.2.2.2.2.2.2.2.2.2 h A ow (ya_TB ymS135) τ M) (hV : SV (ya_TB ymS135)) (hc : cs + 2727 ≤ 5000) (hs : ss + 68042 ≤ 125000) : G X 451 [.ref h, .int (iZ 59), .int (iZ 59), .int (iZ 3), .int (iZ 3)] [.int (iZ 4)] M sz cs ss := by
  refine g_const hX dL_most_451 ?_
  refine y_iadd (c := 5) hX dL_most_452 (by decide) ?_
  refine g_istore hX dL_most_453 ?_
  dsimp only [List.set]
  refine g_aload hX dL_most_454 rfl rfl ?_
  refine g_const hX dL_most_455 ?_
  refine g_const hX dL_most_457 ?_
  refine g_const hX dL_most_460 ?_
  refine g_iload hX dL_most_462 rfl ?_
  refine y_imul (c := 590) hX dL_most_463 (by decide) ?_
  refine y_iadd (c := 2190) hX dL_most_464 (by decide) ?_
  refine g_const hX dL_most_465 ?_
  refine g_iload hX dL_most_467 rfl ?_
  refine g_const hX dL_most_468 ?_
  refine l_act hX hst dL_most_469 hH hV (ya_in rfl) (ya_in rfl) (ya_in rfl) (ya_in rfl) (ya_in rfl) yme343 (show cs + 10 ≤ 5000 by omega) (show ss + 250 ≤ 125000 by omega) (by first | exact Nat.le_of_ble_eq_true rfl | simp [cat_rf, Value.category]) (fun A ow τ M sz hH hV => ?_)
  refine g_istore hX dL_most_472 ?_
  dsimp only [List.set]
  refine g_iload hX dL_most_474 rfl ?_
  refine g_iload hX dL_most_476 rfl ?_
  refine g_const hX dL_most_477 ?_
  refine yf_icmp_ge hX dL_most_479 (ya_in rfl) (ya_in rfl) (by decide) ?_
  refine g_const hX dL_most_482 ?_
  refine g_goto hX dL_most_483 ?_
  refine yt_icmp_eq hX dL_most_488 (ya_in rfl) (ya_in rfl) (by decide) ?_
  refine g_iload hX dL_most_493 rfl ?_
  refine g_iload hX dL_most_494 rfl ?_
  refine yt_if_ge hX dL_most_496 (ya_in rfl) (by decide) ?_
  refine g_const hX dL_most_503 ?_
  refine y_iadd (c := 60) hX dL_most_504 (by decide) ?_
  refine g_istore hX dL_most_505 ?_
  dsimp only [List.set]
  refine y_iinc (c := 60) hX dL_most_506 rfl (by decide) ?_
  dsimp only [List.set]
  refine g_goto hX dL_most_509 ?_
  refine g_iload hX dL_most_424 rfl ?_
  refine g_const hX dL_most_425 ?_
  refine yf_icmp_ge hX dL_most_427 (ya_in rfl) (ya_in rfl) (by decide) ?_
  refine g_const hX dL_most_430 ?_
  refine g_aload hX dL_most_432 rfl rfl ?_
  refine g_const hX dL_most_433 ?_
  refine g_const hX dL_most_436 ?_
  refine g_iload hX dL_most_438 rfl ?_
  refine y_imul (c := 600) hX dL_most_439 (by decide) ?_
  refine y_iadd (c := 2200) hX dL_most_440 (by decide) ?_
  refine g_const hX dL_most_441 ?_
  refine g_const hX dL_most_443 ?_
  refine l_weekday hX hst dL_most_444 hH hV (ya_in rfl) (ya_in rfl) (ya_in rfl) yme344 (show cs + 10 + 3 ≤ 5000 by omega) (show ss + 250 + 18 ≤ 125000 by omega) (by first | exact Nat.le_of_ble_eq_true rfl | simp [cat_rf, Value.category]) (fun A ow τ M sz hH hV => ?_)
  refine y_isub (c := 6) hX dL_most_447 (by decide) ?_
  refine g_const hX dL_most_448 ?_
  refine y_irem (c := 6) hX dL_most_450 (ya_in rfl) (ya_in rfl) (by decide) (by decide) (by decide) ?_
  refine g_const hX dL_most_451 ?_
  refine y_iadd (c := 7) hX dL_most_452 (by decide) ?_
  refine g_istore hX dL_most_453 ?_
  dsimp only [List.set]
  refine g_aload hX dL_most_454 rfl rfl ?_
  refine g_const hX dL_most_455 ?_
  refine g_const hX dL_most_457 ?_
  refine g_const hX dL_most_460 ?_
  refine g_iload hX dL_most_462 rfl ?_
  refine y_imul (c := 600) hX dL_most_463 (by decide) ?_
  refine y_iadd (c := 2200) hX dL_most_464 (by decide) ?_
  exact mo_g81 hX hst hR hK hH hV (by omega) (by omega)

set_option maxRecDepth 20000 in
theorem mo_g79 {X : hX} (hX : Cok X mL_most) (hst : X.1.2.1.stackTraces = false) {M0 : hM} {sz0 : Nat} {K : hK} (hR : Ret X mL_most M0 sz0 K) (hK : ∀ (M' : hM) (s9 : Nat), K (.inl (some (.int (iZ 1)))) M' s9) {h : Nat} {A : Nat → Nat → Nat} {ow : Nat → Nat × Nat} {τ : Nat → Nat → Int} {M : hM} {sz cs ss : Nat} (hH : HX X.2.2.2.2.2.2.2.2.2 h A ow (ya_TB ymS134) τ M) (hV : SV (ya_TB ymS134)) (hc : cs + 2743 ≤ 5000) (hs : ss + 68328 ≤ 125000) : G X 433 [.ref h, .int (iZ 58), .int (iZ 58), .int (iZ 2), .int (iZ 3)] [.ref h, .int (iZ 7)] M sz cs ss := by
  refine g_const hX dL_most_433 ?_
  refine g_const hX dL_most_436 ?_
  refine g_iload hX dL_most_438 rfl ?_
  refine y_imul (c := 580) hX dL_most_439 (by decide) ?_
  refine y_iadd (c := 2180) hX dL_most_440 (by decide) ?_
  refine g_const hX dL_most_441 ?_
  refine g_const hX dL_most_443 ?_
  refine l_weekday hX hst dL_most_444 hH hV (ya_in rfl) (ya_in rfl) (ya_in rfl) yme338 (show cs + 3 ≤ 5000 by omega) (show ss + 18 ≤ 125000 by omega) (by first | exact Nat.le_of_ble_eq_true rfl | simp [cat_rf, Value.category]) (fun A ow τ M sz hH hV => ?_)
  refine y_isub (c := 2) hX dL_most_447 (by decide) ?_
  refine g_const hX dL_most_448 ?_
  refine y_irem (c := 2) hX dL_most_450 (ya_in rfl) (ya_in rfl) (by decide) (by decide) (by decide) ?_
  refine g_const hX dL_most_451 ?_
  refine y_iadd (c := 3) hX dL_most_452 (by decide) ?_
  refine g_istore hX dL_most_453 ?_
  dsimp only [List.set]
  refine g_aload hX dL_most_454 rfl rfl ?_
  refine g_const hX dL_most_455 ?_
  refine g_const hX dL_most_457 ?_
  refine g_const hX dL_most_460 ?_
  refine g_iload hX dL_most_462 rfl ?_
  refine y_imul (c := 580) hX dL_most_463 (by decide) ?_
  refine y_iadd (c := 2180) hX dL_most_464 (by decide) ?_
  refine g_const hX dL_most_465 ?_
  refine g_iload hX dL_most_467 rfl ?_
  refine g_const hX dL_most_468 ?_
  refine l_act hX hst dL_most_469 hH hV (ya_in rfl) (ya_in rfl) (ya_in rfl) (ya_in rfl) (ya_in rfl) yme340 (show cs + 3 + 10 ≤ 5000 by omega) (show ss + 18 + 250 ≤ 125000 by omega) (by first | exact Nat.le_of_ble_eq_true rfl | simp [cat_rf, Value.category]) (fun A ow τ M sz hH hV => ?_)
  refine g_istore hX dL_most_472 ?_
  dsimp only [List.set]
  refine g_iload hX dL_most_474 rfl ?_
  refine g_iload hX dL_most_476 rfl ?_
  refine g_const hX dL_most_477 ?_
  refine yf_icmp_ge hX dL_most_479 (ya_in rfl) (ya_in rfl) (by decide) ?_
  refine g_const hX dL_most_482 ?_
  refine g_goto hX dL_most_483 ?_
  refine yt_icmp_eq hX dL_most_488 (ya_in rfl) (ya_in rfl) (by decide) ?_
  refine g_iload hX dL_most_493 rfl ?_
  refine g_iload hX dL_most_494 rfl ?_
  refine yt_if_ge hX dL_most_496 (ya_in rfl) (by decide) ?_
  refine g_const hX dL_most_503 ?_
  refine y_iadd (c := 59) hX dL_most_504 (by decide) ?_
  refine g_istore hX dL_most_505 ?_
  dsimp only [List.set]
  refine y_iinc (c := 59) hX dL_most_506 rfl (by decide) ?_
  dsimp only [List.set]
  refine g_goto hX dL_most_509 ?_
  refine g_iload hX dL_most_424 rfl ?_
  refine g_const hX dL_most_425 ?_
  refine yf_icmp_ge hX dL_most_427 (ya_in rfl) (ya_in rfl) (by decide) ?_
  refine g_const hX dL_most_430 ?_
  refine g_aload hX dL_most_432 rfl rfl ?_
  refine g_const hX dL_most_433 ?_
  refine g_const hX dL_most_436 ?_
  refine g_iload hX dL_most_438 rfl ?_
  refine y_imul (c := 590) hX dL_most_439 (by decide) ?_
  refine y_iadd (c := 2190) hX dL_most_440 (by decide) ?_
  refine g_const hX dL_most_441 ?_
  refine g_const hX dL_most_443 ?_
  refine l_weekday hX hst dL_most_444 hH hV (ya_in rfl) (ya_in rfl) (ya_in rfl) yme341 (show cs + 3 + 10 + 3 ≤ 5000 by omega) (show ss + 18 + 250 + 18 ≤ 125000 by omega) (by first | exact Nat.le_of_ble_eq_true rfl | simp [cat_rf, Value.category]) (fun A ow τ M sz hH hV => ?_)
  refine y_isub (c := 4) hX dL_most_447 (by decide) ?_
  refine g_const hX dL_most_448 ?_
  refine y_irem (c := 4) hX dL_most_450 (ya_in rfl) (ya_in rfl) (by decide) (by decide) (by decide) ?_
  exact mo_g80 hX hst hR hK hH hV (by omega) (by omega)

set_option maxRecDepth 20000 in
theorem mo_g78 {X : hX} (hX : Cok X mL_most) (hst : X.1.2.1.stackTraces = false) {M0 : hM} {sz0 : Nat} {K : hK} (hR : Ret X mL_most M0 sz0 K) (hK : ∀ (M' : hM) (s9 : Nat), K (.inl (some (.int (iZ 1)))) M' s9) {h : Nat} {A : Nat → Nat → Nat} {ow : Nat → Nat × Nat} {τ : Nat → Nat → Int} {M : hM} {sz cs ss : Nat} (hH : HX X.2.2.2.2.2.2.2.2.2 h A ow (ya_TB ymS133) τ M) (hV : SV (ya_TB ymS133)) (hc : cs + 2756 ≤ 5000) (hs : ss + 68596 ≤ 125000) : G X 504 [.ref h, .int (iZ 56), .int (iZ 56), .int (iZ 7), .int (iZ 3)] [.int (iZ 1), .int (iZ 56)] M sz cs ss := by
  refine y_iadd (c := 57) hX dL_most_504 (by decide) ?_
  refine g_istore hX dL_most_505 ?_
  dsimp only [List.set]
  refine y_iinc (c := 57) hX dL_most_506 rfl (by decide) ?_
  dsimp only [List.set]
  refine g_goto hX dL_most_509 ?_
  refine g_iload hX dL_most_424 rfl ?_
  refine g_const hX dL_most_425 ?_
  refine yf_icmp_ge hX dL_most_427 (ya_in rfl) (ya_in rfl) (by decide) ?_
  refine g_const hX dL_most_430 ?_
  refine g_aload hX dL_most_432 rfl rfl ?_
  refine g_const hX dL_most_433 ?_
  refine g_const hX dL_most_436 ?_
  refine g_iload hX dL_most_438 rfl ?_
  refine y_imul (c := 570) hX dL_most_439 (by decide) ?_
  refine y_iadd (c := 2170) hX dL_most_440 (by decide) ?_
  refine g_const hX dL_most_441 ?_
  refine g_const hX dL_most_443 ?_
  refine l_weekday hX hst dL_most_444 hH hV (ya_in rfl) (ya_in rfl) (ya_in rfl) yme335 (show cs + 3 ≤ 5000 by omega) (show ss + 18 ≤ 125000 by omega) (by first | exact Nat.le_of_ble_eq_true rfl | simp [cat_rf, Value.category]) (fun A ow τ M sz hH hV => ?_)
  refine y_isub (c := 1) hX dL_most_447 (by decide) ?_
  refine g_const hX dL_most_448 ?_
  refine y_irem (c := 1) hX dL_most_450 (ya_in rfl) (ya_in rfl) (by decide) (by decide) (by decide) ?_
  refine g_const hX dL_most_451 ?_
  refine y_iadd (c := 2) hX dL_most_452 (by decide) ?_
  refine g_istore hX dL_most_453 ?_
  dsimp only [List.set]
  refine g_aload hX dL_most_454 rfl rfl ?_
  refine g_const hX dL_most_455 ?_
  refine g_const hX dL_most_457 ?_
  refine g_const hX dL_most_460 ?_
  refine g_iload hX dL_most_462 rfl ?_
  refine y_imul (c := 570) hX dL_most_463 (by decide) ?_
  refine y_iadd (c := 2170) hX dL_most_464 (by decide) ?_
  refine g_const hX dL_most_465 ?_
  refine g_iload hX dL_most_467 rfl ?_
  refine g_const hX dL_most_468 ?_
  refine l_act hX hst dL_most_469 hH hV (ya_in rfl) (ya_in rfl) (ya_in rfl) (ya_in rfl) (ya_in rfl) yme337 (show cs + 3 + 10 ≤ 5000 by omega) (show ss + 18 + 250 ≤ 125000 by omega) (by first | exact Nat.le_of_ble_eq_true rfl | simp [cat_rf, Value.category]) (fun A ow τ M sz hH hV => ?_)
  refine g_istore hX dL_most_472 ?_
  dsimp only [List.set]
  refine g_iload hX dL_most_474 rfl ?_
  refine g_iload hX dL_most_476 rfl ?_
  refine g_const hX dL_most_477 ?_
  refine yf_icmp_ge hX dL_most_479 (ya_in rfl) (ya_in rfl) (by decide) ?_
  refine g_const hX dL_most_482 ?_
  refine g_goto hX dL_most_483 ?_
  refine yt_icmp_eq hX dL_most_488 (ya_in rfl) (ya_in rfl) (by decide) ?_
  refine g_iload hX dL_most_493 rfl ?_
  refine g_iload hX dL_most_494 rfl ?_
  refine yt_if_ge hX dL_most_496 (ya_in rfl) (by decide) ?_
  refine g_const hX dL_most_503 ?_
  refine y_iadd (c := 58) hX dL_most_504 (by decide) ?_
  refine g_istore hX dL_most_505 ?_
  dsimp only [List.set]
  refine y_iinc (c := 58) hX dL_most_506 rfl (by decide) ?_
  dsimp only [List.set]
  refine g_goto hX dL_most_509 ?_
  refine g_iload hX dL_most_424 rfl ?_
  refine g_const hX dL_most_425 ?_
  refine yf_icmp_ge hX dL_most_427 (ya_in rfl) (ya_in rfl) (by decide) ?_
  refine g_const hX dL_most_430 ?_
  refine g_aload hX dL_most_432 rfl rfl ?_
  exact mo_g79 hX hst hR hK hH hV (by omega) (by omega)

set_option maxRecDepth 20000 in
theorem mo_g77 {X : hX} (hX : Cok X mL_most) (hst : X.1.2.1.stackTraces = false) {M0 : hM} {sz0 : Nat} {K : hK} (hR : Ret X mL_most M0 sz0 K) (hK : ∀ (M' : hM) (s9 : Nat), K (.inl (some (.int (iZ 1)))) M' s9) {h : Nat} {A : Nat → Nat → Nat} {ow : Nat → Nat × Nat} {τ : Nat → Nat → Int} {M : hM} {sz cs ss : Nat} (hH : HX X.2.2.2.2.2.2.2.2.2 h A ow (ya_TB ymS132) τ M) (hV : SV (ya_TB ymS132)) (hc : cs + 2769 ≤ 5000) (hs : ss + 68864 ≤ 125000) : G X 474 [.ref h, .int (iZ 55), .int (iZ 55), .int (iZ 6), .int (iZ 3)] [] M sz cs ss := by
  refine g_iload hX dL_most_474 rfl ?_
  refine g_iload hX dL_most_476 rfl ?_
  refine g_const hX dL_most_477 ?_
  refine yf_icmp_ge hX dL_most_479 (ya_in rfl) (ya_in rfl) (by decide) ?_
  refine g_const hX dL_most_482 ?_
  refine g_goto hX dL_most_483 ?_
  refine yt_icmp_eq hX dL_most_488 (ya_in rfl) (ya_in rfl) (by decide) ?_
  refine g_iload hX dL_most_493 rfl ?_
  refine g_iload hX dL_most_494 rfl ?_
  refine yt_if_ge hX dL_most_496 (ya_in rfl) (by decide) ?_
  refine g_const hX dL_most_503 ?_
  refine y_iadd (c := 56) hX dL_most_504 (by decide) ?_
  refine g_istore hX dL_most_505 ?_
  dsimp only [List.set]
  refine y_iinc (c := 56) hX dL_most_506 rfl (by decide) ?_
  dsimp only [List.set]
  refine g_goto hX dL_most_509 ?_
  refine g_iload hX dL_most_424 rfl ?_
  refine g_const hX dL_most_425 ?_
  refine yf_icmp_ge hX dL_most_427 (ya_in rfl) (ya_in rfl) (by decide) ?_
  refine g_const hX dL_most_430 ?_
  refine g_aload hX dL_most_432 rfl rfl ?_
  refine g_const hX dL_most_433 ?_
  refine g_const hX dL_most_436 ?_
  refine g_iload hX dL_most_438 rfl ?_
  refine y_imul (c := 560) hX dL_most_439 (by decide) ?_
  refine y_iadd (c := 2160) hX dL_most_440 (by decide) ?_
  refine g_const hX dL_most_441 ?_
  refine g_const hX dL_most_443 ?_
  refine l_weekday hX hst dL_most_444 hH hV (ya_in rfl) (ya_in rfl) (ya_in rfl) yme332 (show cs + 3 ≤ 5000 by omega) (show ss + 18 ≤ 125000 by omega) (by first | exact Nat.le_of_ble_eq_true rfl | simp [cat_rf, Value.category]) (fun A ow τ M sz hH hV => ?_)
  refine y_isub (c := 6) hX dL_most_447 (by decide) ?_
  refine g_const hX dL_most_448 ?_
  refine y_irem (c := 6) hX dL_most_450 (ya_in rfl) (ya_in rfl) (by decide) (by decide) (by decide) ?_
  refine g_const hX dL_most_451 ?_
  refine y_iadd (c := 7) hX dL_most_452 (by decide) ?_
  refine g_istore hX dL_most_453 ?_
  dsimp only [List.set]
  refine g_aload hX dL_most_454 rfl rfl ?_
  refine g_const hX dL_most_455 ?_
  refine g_const hX dL_most_457 ?_
  refine g_const hX dL_most_460 ?_
  refine g_iload hX dL_most_462 rfl ?_
  refine y_imul (c := 560) hX dL_most_463 (by decide) ?_
  refine y_iadd (c := 2160) hX dL_most_464 (by decide) ?_
  refine g_const hX dL_most_465 ?_
  refine g_iload hX dL_most_467 rfl ?_
  refine g_const hX dL_most_468 ?_
  refine l_act hX hst dL_most_469 hH hV (ya_in rfl) (ya_in rfl) (ya_in rfl) (ya_in rfl) (ya_in rfl) yme334 (show cs + 3 + 10 ≤ 5000 by omega) (show ss + 18 + 250 ≤ 125000 by omega) (by first | exact Nat.le_of_ble_eq_true rfl | simp [cat_rf, Value.category]) (fun A ow τ M sz hH hV => ?_)
  refine g_istore hX dL_most_472 ?_
  dsimp only [List.set]
  refine g_iload hX dL_most_474 rfl ?_
  refine g_iload hX dL_most_476 rfl ?_
  refine g_const hX dL_most_477 ?_
  refine yf_icmp_ge hX dL_most_479 (ya_in rfl) (ya_in rfl) (by decide) ?_
  refine g_const hX dL_most_482 ?_
  refine g_goto hX dL_most_483 ?_
  refine yt_icmp_eq hX dL_most_488 (ya_in rfl) (ya_in rfl) (by decide) ?_
  refine g_iload hX dL_most_493 rfl ?_
  refine g_iload hX dL_most_494 rfl ?_
  refine yt_if_ge hX dL_most_496 (ya_in rfl) (by decide) ?_
  refine g_const hX dL_most_503 ?_
  exact mo_g78 hX hst hR hK hH hV (by omega) (by omega)

set_option maxRecDepth 20000 in
theorem mo_g76 {X : hX} (hX : Cok X mL_most) (hst : X.1.2.1.stackTraces = false) {M0 : hM} {sz0 : Nat} {K : hK} (hR : Ret X mL_most M0 sz0 K) (hK : ∀ (M' : hM) (s9 : Nat), K (.inl (some (.int (iZ 1)))) M' s9) {h : Nat} {A : Nat → Nat → Nat} {ow : Nat → Nat × Nat} {τ : Nat → Nat → Int} {M : hM} {sz cs ss : Nat} (hH : HX X.2.2.2.2.2.2.2.2.2 h A ow (ya_TB ymS130) τ M) (hV : SV (ya_TB ymS130)) (hc : cs + 2792 ≤ 5000) (hs : ss + 69382 ≤ 125000) : G X 455 [.ref h, .int (iZ 54), .int (iZ 54), .int (iZ 4), .int (iZ 3)] [.ref h] M sz cs ss := by
  refine g_const hX dL_most_455 ?_
  refine g_const hX dL_most_457 ?_
  refine g_const hX dL_most_460 ?_
  refine g_iload hX dL_most_462 rfl ?_
  refine y_imul (c := 540) hX dL_most_463 (by decide) ?_
  refine y_iadd (c := 2140) hX dL_most_464 (by decide) ?_
  refine g_const hX dL_most_465 ?_
  refine g_iload hX dL_most_467 rfl ?_
  refine g_const hX dL_most_468 ?_
  refine l_act hX hst dL_most_469 hH hV (ya_in rfl) (ya_in rfl) (ya_in rfl) (ya_in rfl) (ya_in rfl) yme328 (show cs + 10 ≤ 5000 by omega) (show ss + 250 ≤ 125000 by omega) (by first | exact Nat.le_of_ble_eq_true rfl | simp [cat_rf, Value.category]) (fun A ow τ M sz hH hV => ?_)
  refine g_istore hX dL_most_472 ?_
  dsimp only [List.set]
  refine g_iload hX dL_most_474 rfl ?_
  refine g_iload hX dL_most_476 rfl ?_
  refine g_const hX dL_most_477 ?_
  refine yf_icmp_ge hX dL_most_479 (ya_in rfl) (ya_in rfl) (by decide) ?_
  refine g_const hX dL_most_482 ?_
  refine g_goto hX dL_most_483 ?_
  refine yt_icmp_eq hX dL_most_488 (ya_in rfl) (ya_in rfl) (by decide) ?_
  refine g_iload hX dL_most_493 rfl ?_
  refine g_iload hX dL_most_494 rfl ?_
  refine yt_if_ge hX dL_most_496 (ya_in rfl) (by decide) ?_
  refine g_const hX dL_most_503 ?_
  refine y_iadd (c := 55) hX dL_most_504 (by decide) ?_
  refine g_istore hX dL_most_505 ?_
  dsimp only [List.set]
  refine y_iinc (c := 55) hX dL_most_506 rfl (by decide) ?_
  dsimp only [List.set]
  refine g_goto hX dL_most_509 ?_
  refine g_iload hX dL_most_424 rfl ?_
  refine g_const hX dL_most_425 ?_
  refine yf_icmp_ge hX dL_most_427 (ya_in rfl) (ya_in rfl) (by decide) ?_
  refine g_const hX dL_most_430 ?_
  refine g_aload hX dL_most_432 rfl rfl ?_
  refine g_const hX dL_most_433 ?_
  refine g_const hX dL_most_436 ?_
  refine g_iload hX dL_most_438 rfl ?_
  refine y_imul (c := 550) hX dL_most_439 (by decide) ?_
  refine y_iadd (c := 2150) hX dL_most_440 (by decide) ?_
  refine g_const hX dL_most_441 ?_
  refine g_const hX dL_most_443 ?_
  refine l_weekday hX hst dL_most_444 hH hV (ya_in rfl) (ya_in rfl) (ya_in rfl) yme329 (show cs + 10 + 3 ≤ 5000 by omega) (show ss + 250 + 18 ≤ 125000 by omega) (by first | exact Nat.le_of_ble_eq_true rfl | simp [cat_rf, Value.category]) (fun A ow τ M sz hH hV => ?_)
  refine y_isub (c := 5) hX dL_most_447 (by decide) ?_
  refine g_const hX dL_most_448 ?_
  refine y_irem (c := 5) hX dL_most_450 (ya_in rfl) (ya_in rfl) (by decide) (by decide) (by decide) ?_
  refine g_const hX dL_most_451 ?_
  refine y_iadd (c := 6) hX dL_most_452 (by decide) ?_
  refine g_istore hX dL_most_453 ?_
  dsimp only [List.set]
  refine g_aload hX dL_most_454 rfl rfl ?_
  refine g_const hX dL_most_455 ?_
  refine g_const hX dL_most_457 ?_
  refine g_const hX dL_most_460 ?_
  refine g_iload hX dL_most_462 rfl ?_
  refine y_imul (c := 550) hX dL_most_463 (by decide) ?_
  refine y_iadd (c := 2150) hX dL_most_464 (by decide) ?_
  refine g_const hX dL_most_465 ?_
  refine g_iload hX dL_most_467 rfl ?_
  refine g_const hX dL_most_468 ?_
  refine l_act hX hst dL_most_469 hH hV (ya_in rfl) (ya_in rfl) (ya_in rfl) (ya_in rfl) (ya_in rfl) yme331 (show cs + 10 + 3 + 10 ≤ 5000 by omega) (show ss + 250 + 18 + 250 ≤ 125000 by omega) (by first | exact Nat.le_of_ble_eq_true rfl | simp [cat_rf, Value.category]) (fun A ow τ M sz hH hV => ?_)
  refine g_istore hX dL_most_472 ?_
  dsimp only [List.set]
  exact mo_g77 hX hst hR hK hH hV (by omega) (by omega)

set_option maxRecDepth 20000 in
theorem mo_g75 {X : hX} (hX : Cok X mL_most) (hst : X.1.2.1.stackTraces = false) {M0 : hM} {sz0 : Nat} {K : hK} (hR : Ret X mL_most M0 sz0 K) (hK : ∀ (M' : hM) (s9 : Nat), K (.inl (some (.int (iZ 1)))) M' s9) {h : Nat} {A : Nat → Nat → Nat} {ow : Nat → Nat × Nat} {τ : Nat → Nat → Int} {M : hM} {sz cs ss : Nat} (hH : HX X.2.2.2.2.2.2.2.2.2 h A ow (ya_TB ymS129) τ M) (hV : SV (ya_TB ymS129)) (hc : cs + 2808 ≤ 5000) (hs : ss + 69668 ≤ 125000) : G X 441 [.ref h, .int (iZ 53), .int (iZ 53), .int (iZ 1), .int (iZ 3)] [.int (iZ 2130), .ref h, .int (iZ 7)] M sz cs ss := by
  refine g_const hX dL_most_441 ?_
  refine g_const hX dL_most_443 ?_
  refine l_weekday hX hst dL_most_444 hH hV (ya_in rfl) (ya_in rfl) (ya_in rfl) yme323 (show cs + 3 ≤ 5000 by omega) (show ss + 18 ≤ 125000 by omega) (by first | exact Nat.le_of_ble_eq_true rfl | simp [cat_rf, Value.category]) (fun A ow τ M sz hH hV => ?_)
  refine y_isub (c := 2) hX dL_most_447 (by decide) ?_
  refine g_const hX dL_most_448 ?_
  refine y_irem (c := 2) hX dL_most_450 (ya_in rfl) (ya_in rfl) (by decide) (by decide) (by decide) ?_
  refine g_const hX dL_most_451 ?_
  refine y_iadd (c := 3) hX dL_most_452 (by decide) ?_
  refine g_istore hX dL_most_453 ?_
  dsimp only [List.set]
  refine g_aload hX dL_most_454 rfl rfl ?_
  refine g_const hX dL_most_455 ?_
  refine g_const hX dL_most_457 ?_
  refine g_const hX dL_most_460 ?_
  refine g_iload hX dL_most_462 rfl ?_
  refine y_imul (c := 530) hX dL_most_463 (by decide) ?_
  refine y_iadd (c := 2130) hX dL_most_464 (by decide) ?_
  refine g_const hX dL_most_465 ?_
  refine g_iload hX dL_most_467 rfl ?_
  refine g_const hX dL_most_468 ?_
  refine l_act hX hst dL_most_469 hH hV (ya_in rfl) (ya_in rfl) (ya_in rfl) (ya_in rfl) (ya_in rfl) yme325 (show cs + 3 + 10 ≤ 5000 by omega) (show ss + 18 + 250 ≤ 125000 by omega) (by first | exact Nat.le_of_ble_eq_true rfl | simp [cat_rf, Value.category]) (fun A ow τ M sz hH hV => ?_)
  refine g_istore hX dL_most_472 ?_
  dsimp only [List.set]
  refine g_iload hX dL_most_474 rfl ?_
  refine g_iload hX dL_most_476 rfl ?_
  refine g_const hX dL_most_477 ?_
  refine yf_icmp_ge hX dL_most_479 (ya_in rfl) (ya_in rfl) (by decide) ?_
  refine g_const hX dL_most_482 ?_
  refine g_goto hX dL_most_483 ?_
  refine yt_icmp_eq hX dL_most_488 (ya_in rfl) (ya_in rfl) (by decide) ?_
  refine g_iload hX dL_most_493 rfl ?_
  refine g_iload hX dL_most_494 rfl ?_
  refine yt_if_ge hX dL_most_496 (ya_in rfl) (by decide) ?_
  refine g_const hX dL_most_503 ?_
  refine y_iadd (c := 54) hX dL_most_504 (by decide) ?_
  refine g_istore hX dL_most_505 ?_
  dsimp only [List.set]
  refine y_iinc (c := 54) hX dL_most_506 rfl (by decide) ?_
  dsimp only [List.set]
  refine g_goto hX dL_most_509 ?_
  refine g_iload hX dL_most_424 rfl ?_
  refine g_const hX dL_most_425 ?_
  refine yf_icmp_ge hX dL_most_427 (ya_in rfl) (ya_in rfl) (by decide) ?_
  refine g_const hX dL_most_430 ?_
  refine g_aload hX dL_most_432 rfl rfl ?_
  refine g_const hX dL_most_433 ?_
  refine g_const hX dL_most_436 ?_
  refine g_iload hX dL_most_438 rfl ?_
  refine y_imul (c := 540) hX dL_most_439 (by decide) ?_
  refine y_iadd (c := 2140) hX dL_most_440 (by decide) ?_
  refine g_const hX dL_most_441 ?_
  refine g_const hX dL_most_443 ?_
  refine l_weekday hX hst dL_most_444 hH hV (ya_in rfl) (ya_in rfl) (ya_in rfl) yme326 (show cs + 3 + 10 + 3 ≤ 5000 by omega) (show ss + 18 + 250 + 18 ≤ 125000 by omega) (by first | exact Nat.le_of_ble_eq_true rfl | simp [cat_rf, Value.category]) (fun A ow τ M sz hH hV => ?_)
  refine y_isub (c := 3) hX dL_most_447 (by decide) ?_
  refine g_const hX dL_most_448 ?_
  refine y_irem (c := 3) hX dL_most_450 (ya_in rfl) (ya_in rfl) (by decide) (by decide) (by decide) ?_
  refine g_const hX dL_most_451 ?_
  refine y_iadd (c := 4) hX dL_most_452 (by decide) ?_
  refine g_istore hX dL_most_453 ?_
  dsimp only [List.set]
  refine g_aload hX dL_most_454 rfl rfl ?_
  exact mo_g76 hX hst hR hK hH hV (by omega) (by omega)

set_option maxRecDepth 20000 in
theorem mo_g74 {X : hX} (hX : Cok X mL_most) (hst : X.1.2.1.stackTraces = false) {M0 : hM} {sz0 : Nat} {K : hK} (hR : Ret X mL_most M0 sz0 K) (hK : ∀ (M' : hM) (s9 : Nat), K (.inl (some (.int (iZ 1)))) M' s9) {h : Nat} {A : Nat → Nat → Nat} {ow : Nat → Nat × Nat} {τ : Nat → Nat → Int} {M : hM} {sz cs ss : Nat} (hH : HX X.2.2.2.2.2.2.2.2.2 h A ow (ya_TB ymS128) τ M) (hV : SV (ya_TB ymS128)) (hc : cs + 2821 ≤ 5000) (hs : ss + 69936 ≤ 125000) : G X 509 [.ref h, .int (iZ 52), .int (iZ 52), .int (iZ 7), .int (iZ 3)] [] M sz cs ss := by
  refine g_goto hX dL_most_509 ?_
  refine g_iload hX dL_most_424 rfl ?_
  refine g_const hX dL_most_425 ?_
  refine yf_icmp_ge hX dL_most_427 (ya_in rfl) (ya_in rfl) (by decide) ?_
  refine g_const hX dL_most_430 ?_
  refine g_aload hX dL_most_432 rfl rfl ?_
  refine g_const hX dL_most_433 ?_
  refine g_const hX dL_most_436 ?_
  refine g_iload hX dL_most_438 rfl ?_
  refine y_imul (c := 520) hX dL_most_439 (by decide) ?_
  refine y_iadd (c := 2120) hX dL_most_440 (by decide) ?_
  refine g_const hX dL_most_441 ?_
  refine g_const hX dL_most_443 ?_
  refine l_weekday hX hst dL_most_444 hH hV (ya_in rfl) (ya_in rfl) (ya_in rfl) yme320 (show cs + 3 ≤ 5000 by omega) (show ss + 18 ≤ 125000 by omega) (by first | exact Nat.le_of_ble_eq_true rfl | simp [cat_rf, Value.category]) (fun A ow τ M sz hH hV => ?_)
  refine y_isub (c := 7) hX dL_most_447 (by decide) ?_
  refine g_const hX dL_most_448 ?_
  refine y_irem (c := 0) hX dL_most_450 (ya_in rfl) (ya_in rfl) (by decide) (by decide) (by decide) ?_
  refine g_const hX dL_most_451 ?_
  refine y_iadd (c := 1) hX dL_most_452 (by decide) ?_
  refine g_istore hX dL_most_453 ?_
  dsimp only [List.set]
  refine g_aload hX dL_most_454 rfl rfl ?_
  refine g_const hX dL_most_455 ?_
  refine g_const hX dL_most_457 ?_
  refine g_const hX dL_most_460 ?_
  refine g_iload hX dL_most_462 rfl ?_
  refine y_imul (c := 520) hX dL_most_463 (by decide) ?_
  refine y_iadd (c := 2120) hX dL_most_464 (by decide) ?_
  refine g_const hX dL_most_465 ?_
  refine g_iload hX dL_most_467 rfl ?_
  refine g_const hX dL_most_468 ?_
  refine l_act hX hst dL_most_469 hH hV (ya_in rfl) (ya_in rfl) (ya_in rfl) (ya_in rfl) (ya_in rfl) yme322 (show cs + 3 + 10 ≤ 5000 by omega) (show ss + 18 + 250 ≤ 125000 by omega) (by first | exact Nat.le_of_ble_eq_true rfl | simp [cat_rf, Value.category]) (fun A ow τ M sz hH hV => ?_)
  refine g_istore hX dL_most_472 ?_
  dsimp only [List.set]
  refine g_iload hX dL_most_474 rfl ?_
  refine g_iload hX dL_most_476 rfl ?_
  refine g_const hX dL_most_477 ?_
  refine yf_icmp_ge hX dL_most_479 (ya_in rfl) (ya_in rfl) (by decide) ?_
  refine g_const hX dL_most_482 ?_
  refine g_goto hX dL_most_483 ?_
  refine yt_icmp_eq hX dL_most_488 (ya_in rfl) (ya_in rfl) (by decide) ?_
  refine g_iload hX dL_most_493 rfl ?_
  refine g_iload hX dL_most_494 rfl ?_
  refine yt_if_ge hX dL_most_496 (ya_in rfl) (by decide) ?_
  refine g_const hX dL_most_503 ?_
  refine y_iadd (c := 53) hX dL_most_504 (by decide) ?_
  refine g_istore hX dL_most_505 ?_
  dsimp only [List.set]
  refine y_iinc (c := 53) hX dL_most_506 rfl (by decide) ?_
  dsimp only [List.set]
  refine g_goto hX dL_most_509 ?_
  refine g_iload hX dL_most_424 rfl ?_
  refine g_const hX dL_most_425 ?_
  refine yf_icmp_ge hX dL_most_427 (ya_in rfl) (ya_in rfl) (by decide) ?_
  refine g_const hX dL_most_430 ?_
  refine g_aload hX dL_most_432 rfl rfl ?_
  refine g_const hX dL_most_433 ?_
  refine g_const hX dL_most_436 ?_
  refine g_iload hX dL_most_438 rfl ?_
  refine y_imul (c := 530) hX dL_most_439 (by decide) ?_
  refine y_iadd (c := 2130) hX dL_most_440 (by decide) ?_
  exact mo_g75 hX hst hR hK hH hV (by omega) (by omega)

set_option maxRecDepth 20000 in
theorem mo_g73 {X : hX} (hX : Cok X mL_most) (hst : X.1.2.1.stackTraces = false) {M0 : hM} {sz0 : Nat} {K : hK} (hR : Ret X mL_most M0 sz0 K) (hK : ∀ (M' : hM) (s9 : Nat), K (.inl (some (.int (iZ 1)))) M' s9) {h : Nat} {A : Nat → Nat → Nat} {ow : Nat → Nat × Nat} {τ : Nat → Nat → Int} {M : hM} {sz cs ss : Nat} (hH : HX X.2.2.2.2.2.2.2.2.2 h A ow (ya_TB ymS127) τ M) (hV : SV (ya_TB ymS127)) (hc : cs + 2834 ≤ 5000) (hs : ss + 70204 ≤ 125000) : G X 483 [.ref h, .int (iZ 50), .int (iZ 50), .int (iZ 5), .int (iZ 3)] [.int (iZ 3), .int (iZ 3)] M sz cs ss := by
  refine g_goto hX dL_most_483 ?_
  refine yt_icmp_eq hX dL_most_488 (ya_in rfl) (ya_in rfl) (by decide) ?_
  refine g_iload hX dL_most_493 rfl ?_
  refine g_iload hX dL_most_494 rfl ?_
  refine yt_if_ge hX dL_most_496 (ya_in rfl) (by decide) ?_
  refine g_const hX dL_most_503 ?_
  refine y_iadd (c := 51) hX dL_most_504 (by decide) ?_
  refine g_istore hX dL_most_505 ?_
  dsimp only [List.set]
  refine y_iinc (c := 51) hX dL_most_506 rfl (by decide) ?_
  dsimp only [List.set]
  refine g_goto hX dL_most_509 ?_
  refine g_iload hX dL_most_424 rfl ?_
  refine g_const hX dL_most_425 ?_
  refine yf_icmp_ge hX dL_most_427 (ya_in rfl) (ya_in rfl) (by decide) ?_
  refine g_const hX dL_most_430 ?_
  refine g_aload hX dL_most_432 rfl rfl ?_
  refine g_const hX dL_most_433 ?_
  refine g_const hX dL_most_436 ?_
  refine g_iload hX dL_most_438 rfl ?_
  refine y_imul (c := 510) hX dL_most_439 (by decide) ?_
  refine y_iadd (c := 2110) hX dL_most_440 (by decide) ?_
  refine g_const hX dL_most_441 ?_
  refine g_const hX dL_most_443 ?_
  refine l_weekday hX hst dL_most_444 hH hV (ya_in rfl) (ya_in rfl) (ya_in rfl) yme317 (show cs + 3 ≤ 5000 by omega) (show ss + 18 ≤ 125000 by omega) (by first | exact Nat.le_of_ble_eq_true rfl | simp [cat_rf, Value.category]) (fun A ow τ M sz hH hV => ?_)
  refine y_isub (c := 6) hX dL_most_447 (by decide) ?_
  refine g_const hX dL_most_448 ?_
  refine y_irem (c := 6) hX dL_most_450 (ya_in rfl) (ya_in rfl) (by decide) (by decide) (by decide) ?_
  refine g_const hX dL_most_451 ?_
  refine y_iadd (c := 7) hX dL_most_452 (by decide) ?_
  refine g_istore hX dL_most_453 ?_
  dsimp only [List.set]
  refine g_aload hX dL_most_454 rfl rfl ?_
  refine g_const hX dL_most_455 ?_
  refine g_const hX dL_most_457 ?_
  refine g_const hX dL_most_460 ?_
  refine g_iload hX dL_most_462 rfl ?_
  refine y_imul (c := 510) hX dL_most_463 (by decide) ?_
  refine y_iadd (c := 2110) hX dL_most_464 (by decide) ?_
  refine g_const hX dL_most_465 ?_
  refine g_iload hX dL_most_467 rfl ?_
  refine g_const hX dL_most_468 ?_
  refine l_act hX hst dL_most_469 hH hV (ya_in rfl) (ya_in rfl) (ya_in rfl) (ya_in rfl) (ya_in rfl) yme319 (show cs + 3 + 10 ≤ 5000 by omega) (show ss + 18 + 250 ≤ 125000 by omega) (by first | exact Nat.le_of_ble_eq_true rfl | simp [cat_rf, Value.category]) (fun A ow τ M sz hH hV => ?_)
  refine g_istore hX dL_most_472 ?_
  dsimp only [List.set]
  refine g_iload hX dL_most_474 rfl ?_
  refine g_iload hX dL_most_476 rfl ?_
  refine g_const hX dL_most_477 ?_
  refine yf_icmp_ge hX dL_most_479 (ya_in rfl) (ya_in rfl) (by decide) ?_
  refine g_const hX dL_most_482 ?_
  refine g_goto hX dL_most_483 ?_
  refine yt_icmp_eq hX dL_most_488 (ya_in rfl) (ya_in rfl) (by decide) ?_
  refine g_iload hX dL_most_493 rfl ?_
  refine g_iload hX dL_most_494 rfl ?_
  refine yt_if_ge hX dL_most_496 (ya_in rfl) (by decide) ?_
  refine g_const hX dL_most_503 ?_
  refine y_iadd (c := 52) hX dL_most_504 (by decide) ?_
  refine g_istore hX dL_most_505 ?_
  dsimp only [List.set]
  refine y_iinc (c := 52) hX dL_most_506 rfl (by decide) ?_
  dsimp only [List.set]
  exact mo_g74 hX hst hR hK hH hV (by omega) (by omega)

set_option maxRecDepth 20000 in
theorem mo_g72 {X : hX} (hX : Cok X mL_most) (hst : X.1.2.1.stackTraces = false) {M0 : hM} {sz0 : Nat} {K : hK} (hR : Ret X mL_most M0 sz0 K) (hK : ∀ (M' : hM) (s9 : Nat), K (.inl (some (.int (iZ 1)))) M' s9) {h : Nat} {A : Nat → Nat → Nat} {ow : Nat → Nat × Nat} {τ : Nat → Nat → Int} {M : hM} {sz cs ss : Nat} (hH : HX X.2.2.2.2.2.2.2.2.2 h A ow (ya_TB ymS125) τ M) (hV : SV (ya_TB ymS125)) (hc : cs + 2857 ≤ 5000) (hs : ss + 70722 ≤ 125000) : G X 465 [.ref h, .int (iZ 49), .int (iZ 49), .int (iZ 3), .int (iZ 3)] [.int (iZ 2090), .int (iZ 23), .ref h] M sz cs ss := by
  refine g_const hX dL_most_465 ?_
  refine g_iload hX dL_most_467 rfl ?_
  refine g_const hX dL_most_468 ?_
  refine l_act hX hst dL_most_469 hH hV (ya_in rfl) (ya_in rfl) (ya_in rfl) (ya_in rfl) (ya_in rfl) yme313 (show cs + 10 ≤ 5000 by omega) (show ss + 250 ≤ 125000 by omega) (by first | exact Nat.le_of_ble_eq_true rfl | simp [cat_rf, Value.category]) (fun A ow τ M sz hH hV => ?_)
  refine g_istore hX dL_most_472 ?_
  dsimp only [List.set]
  refine g_iload hX dL_most_474 rfl ?_
  refine g_iload hX dL_most_476 rfl ?_
  refine g_const hX dL_most_477 ?_
  refine yf_icmp_ge hX dL_most_479 (ya_in rfl) (ya_in rfl) (by decide) ?_
  refine g_const hX dL_most_482 ?_
  refine g_goto hX dL_most_483 ?_
  refine yt_icmp_eq hX dL_most_488 (ya_in rfl) (ya_in rfl) (by decide) ?_
  refine g_iload hX dL_most_493 rfl ?_
  refine g_iload hX dL_most_494 rfl ?_
  refine yt_if_ge hX dL_most_496 (ya_in rfl) (by decide) ?_
  refine g_const hX dL_most_503 ?_
  refine y_iadd (c := 50) hX dL_most_504 (by decide) ?_
  refine g_istore hX dL_most_505 ?_
  dsimp only [List.set]
  refine y_iinc (c := 50) hX dL_most_506 rfl (by decide) ?_
  dsimp only [List.set]
  refine g_goto hX dL_most_509 ?_
  refine g_iload hX dL_most_424 rfl ?_
  refine g_const hX dL_most_425 ?_
  refine yf_icmp_ge hX dL_most_427 (ya_in rfl) (ya_in rfl) (by decide) ?_
  refine g_const hX dL_most_430 ?_
  refine g_aload hX dL_most_432 rfl rfl ?_
  refine g_const hX dL_most_433 ?_
  refine g_const hX dL_most_436 ?_
  refine g_iload hX dL_most_438 rfl ?_
  refine y_imul (c := 500) hX dL_most_439 (by decide) ?_
  refine y_iadd (c := 2100) hX dL_most_440 (by decide) ?_
  refine g_const hX dL_most_441 ?_
  refine g_const hX dL_most_443 ?_
  refine l_weekday hX hst dL_most_444 hH hV (ya_in rfl) (ya_in rfl) (ya_in rfl) yme314 (show cs + 10 + 3 ≤ 5000 by omega) (show ss + 250 + 18 ≤ 125000 by omega) (by first | exact Nat.le_of_ble_eq_true rfl | simp [cat_rf, Value.category]) (fun A ow τ M sz hH hV => ?_)
  refine y_isub (c := 4) hX dL_most_447 (by decide) ?_
  refine g_const hX dL_most_448 ?_
  refine y_irem (c := 4) hX dL_most_450 (ya_in rfl) (ya_in rfl) (by decide) (by decide) (by decide) ?_
  refine g_const hX dL_most_451 ?_
  refine y_iadd (c := 5) hX dL_most_452 (by decide) ?_
  refine g_istore hX dL_most_453 ?_
  dsimp only [List.set]
  refine g_aload hX dL_most_454 rfl rfl ?_
  refine g_const hX dL_most_455 ?_
  refine g_const hX dL_most_457 ?_
  refine g_const hX dL_most_460 ?_
  refine g_iload hX dL_most_462 rfl ?_
  refine y_imul (c := 500) hX dL_most_463 (by decide) ?_
  refine y_iadd (c := 2100) hX dL_most_464 (by decide) ?_
  refine g_const hX dL_most_465 ?_
  refine g_iload hX dL_most_467 rfl ?_
  refine g_const hX dL_most_468 ?_
  refine l_act hX hst dL_most_469 hH hV (ya_in rfl) (ya_in rfl) (ya_in rfl) (ya_in rfl) (ya_in rfl) yme316 (show cs + 10 + 3 + 10 ≤ 5000 by omega) (show ss + 250 + 18 + 250 ≤ 125000 by omega) (by first | exact Nat.le_of_ble_eq_true rfl | simp [cat_rf, Value.category]) (fun A ow τ M sz hH hV => ?_)
  refine g_istore hX dL_most_472 ?_
  dsimp only [List.set]
  refine g_iload hX dL_most_474 rfl ?_
  refine g_iload hX dL_most_476 rfl ?_
  refine g_const hX dL_most_477 ?_
  refine yf_icmp_ge hX dL_most_479 (ya_in rfl) (ya_in rfl) (by decide) ?_
  refine g_const hX dL_most_482 ?_
  exact mo_g73 hX hst hR hK hH hV (by omega) (by omega)

set_option maxRecDepth 20000 in
theorem mo_g71 {X : hX} (hX : Cok X mL_most) (hst : X.1.2.1.stackTraces = false) {M0 : hM} {sz0 : Nat} {K : hK} (hR : Ret X mL_most M0 sz0 K) (hK : ∀ (M' : hM) (s9 : Nat), K (.inl (some (.int (iZ 1)))) M' s9) {h : Nat} {A : Nat → Nat → Nat} {ow : Nat → Nat × Nat} {τ : Nat → Nat → Int} {M : hM} {sz cs ss : Nat} (hH : HX X.2.2.2.2.2.2.2.2.2 h A ow (ya_TB ymS124) τ M) (hV : SV (ya_TB ymS124)) (hc : cs + 2870 ≤ 5000) (hs : ss + 70990 ≤ 125000) : G X 451 [.ref h, .int (iZ 48), .int (iZ 48), .int (iZ 7), .int (iZ 3)] [.int (iZ 0)] M sz cs ss := by
  refine g_const hX dL_most_451 ?_
  refine y_iadd (c := 1) hX dL_most_452 (by decide) ?_
  refine g_istore hX dL_most_453 ?_
  dsimp only [List.set]
  refine g_aload hX dL_most_454 rfl rfl ?_
  refine g_const hX dL_most_455 ?_
  refine g_const hX dL_most_457 ?_
  refine g_const hX dL_most_460 ?_
  refine g_iload hX dL_most_462 rfl ?_
  refine y_imul (c := 480) hX dL_most_463 (by decide) ?_
  refine y_iadd (c := 2080) hX dL_most_464 (by decide) ?_
  refine g_const hX dL_most_465 ?_
  refine g_iload hX dL_most_467 rfl ?_
  refine g_const hX dL_most_468 ?_
  refine l_act hX hst dL_most_469 hH hV (ya_in rfl) (ya_in rfl) (ya_in rfl) (ya_in rfl) (ya_in rfl) yme310 (show cs + 10 ≤ 5000 by omega) (show ss + 250 ≤ 125000 by omega) (by first | exact Nat.le_of_ble_eq_true rfl | simp [cat_rf, Value.category]) (fun A ow τ M sz hH hV => ?_)
  refine g_istore hX dL_most_472 ?_
  dsimp only [List.set]
  refine g_iload hX dL_most_474 rfl ?_
  refine g_iload hX dL_most_476 rfl ?_
  refine g_const hX dL_most_477 ?_
  refine yf_icmp_ge hX dL_most_479 (ya_in rfl) (ya_in rfl) (by decide) ?_
  refine g_const hX dL_most_482 ?_
  refine g_goto hX dL_most_483 ?_
  refine yt_icmp_eq hX dL_most_488 (ya_in rfl) (ya_in rfl) (by decide) ?_
  refine g_iload hX dL_most_493 rfl ?_
  refine g_iload hX dL_most_494 rfl ?_
  refine yt_if_ge hX dL_most_496 (ya_in rfl) (by decide) ?_
  refine g_const hX dL_most_503 ?_
  refine y_iadd (c := 49) hX dL_most_504 (by decide) ?_
  refine g_istore hX dL_most_505 ?_
  dsimp only [List.set]
  refine y_iinc (c := 49) hX dL_most_506 rfl (by decide) ?_
  dsimp only [List.set]
  refine g_goto hX dL_most_509 ?_
  refine g_iload hX dL_most_424 rfl ?_
  refine g_const hX dL_most_425 ?_
  refine yf_icmp_ge hX dL_most_427 (ya_in rfl) (ya_in rfl) (by decide) ?_
  refine g_const hX dL_most_430 ?_
  refine g_aload hX dL_most_432 rfl rfl ?_
  refine g_const hX dL_most_433 ?_
  refine g_const hX dL_most_436 ?_
  refine g_iload hX dL_most_438 rfl ?_
  refine y_imul (c := 490) hX dL_most_439 (by decide) ?_
  refine y_iadd (c := 2090) hX dL_most_440 (by decide) ?_
  refine g_const hX dL_most_441 ?_
  refine g_const hX dL_most_443 ?_
  refine l_weekday hX hst dL_most_444 hH hV (ya_in rfl) (ya_in rfl) (ya_in rfl) yme311 (show cs + 10 + 3 ≤ 5000 by omega) (show ss + 250 + 18 ≤ 125000 by omega) (by first | exact Nat.le_of_ble_eq_true rfl | simp [cat_rf, Value.category]) (fun A ow τ M sz hH hV => ?_)
  refine y_isub (c := 2) hX dL_most_447 (by decide) ?_
  refine g_const hX dL_most_448 ?_
  refine y_irem (c := 2) hX dL_most_450 (ya_in rfl) (ya_in rfl) (by decide) (by decide) (by decide) ?_
  refine g_const hX dL_most_451 ?_
  refine y_iadd (c := 3) hX dL_most_452 (by decide) ?_
  refine g_istore hX dL_most_453 ?_
  dsimp only [List.set]
  refine g_aload hX dL_most_454 rfl rfl ?_
  refine g_const hX dL_most_455 ?_
  refine g_const hX dL_most_457 ?_
  refine g_const hX dL_most_460 ?_
  refine g_iload hX dL_most_462 rfl ?_
  refine y_imul (c := 490) hX dL_most_463 (by decide) ?_
  refine y_iadd (c := 2090) hX dL_most_464 (by decide) ?_
  exact mo_g72 hX hst hR hK hH hV (by omega) (by omega)

set_option maxRecDepth 20000 in
theorem mo_g70 {X : hX} (hX : Cok X mL_most) (hst : X.1.2.1.stackTraces = false) {M0 : hM} {sz0 : Nat} {K : hK} (hR : Ret X mL_most M0 sz0 K) (hK : ∀ (M' : hM) (s9 : Nat), K (.inl (some (.int (iZ 1)))) M' s9) {h : Nat} {A : Nat → Nat → Nat} {ow : Nat → Nat × Nat} {τ : Nat → Nat → Int} {M : hM} {sz cs ss : Nat} (hH : HX X.2.2.2.2.2.2.2.2.2 h A ow (ya_TB ymS123) τ M) (hV : SV (ya_TB ymS123)) (hc : cs + 2886 ≤ 5000) (hs : ss + 71276 ≤ 125000) : G X 433 [.ref h, .int (iZ 47), .int (iZ 47), .int (iZ 5), .int (iZ 3)] [.ref h, .int (iZ 7)] M sz cs ss := by
  refine g_const hX dL_most_433 ?_
  refine g_const hX dL_most_436 ?_
  refine g_iload hX dL_most_438 rfl ?_
  refine y_imul (c := 470) hX dL_most_439 (by decide) ?_
  refine y_iadd (c := 2070) hX dL_most_440 (by decide) ?_
  refine g_const hX dL_most_441 ?_
  refine g_const hX dL_most_443 ?_
  refine l_weekday hX hst dL_most_444 hH hV (ya_in rfl) (ya_in rfl) (ya_in rfl) yme305 (show cs + 3 ≤ 5000 by omega) (show ss + 18 ≤ 125000 by omega) (by first | exact Nat.le_of_ble_eq_true rfl | simp [cat_rf, Value.category]) (fun A ow τ M sz hH hV => ?_)
  refine y_isub (c := 6) hX dL_most_447 (by decide) ?_
  refine g_const hX dL_most_448 ?_
  refine y_irem (c := 6) hX dL_most_450 (ya_in rfl) (ya_in rfl) (by decide) (by decide) (by decide) ?_
  refine g_const hX dL_most_451 ?_
  refine y_iadd (c := 7) hX dL_most_452 (by decide) ?_
  refine g_istore hX dL_most_453 ?_
  dsimp only [List.set]
  refine g_aload hX dL_most_454 rfl rfl ?_
  refine g_const hX dL_most_455 ?_
  refine g_const hX dL_most_457 ?_
  refine g_const hX dL_most_460 ?_
  refine g_iload hX dL_most_462 rfl ?_
  refine y_imul (c := 470) hX dL_most_463 (by decide) ?_
  refine y_iadd (c := 2070) hX dL_most_464 (by decide) ?_
  refine g_const hX dL_most_465 ?_
  refine g_iload hX dL_most_467 rfl ?_
  refine g_const hX dL_most_468 ?_
  refine l_act hX hst dL_most_469 hH hV (ya_in rfl) (ya_in rfl) (ya_in rfl) (ya_in rfl) (ya_in rfl) yme307 (show cs + 3 + 10 ≤ 5000 by omega) (show ss + 18 + 250 ≤ 125000 by omega) (by first | exact Nat.le_of_ble_eq_true rfl | simp [cat_rf, Value.category]) (fun A ow τ M sz hH hV => ?_)
  refine g_istore hX dL_most_472 ?_
  dsimp only [List.set]
  refine g_iload hX dL_most_474 rfl ?_
  refine g_iload hX dL_most_476 rfl ?_
  refine g_const hX dL_most_477 ?_
  refine yf_icmp_ge hX dL_most_479 (ya_in rfl) (ya_in rfl) (by decide) ?_
  refine g_const hX dL_most_482 ?_
  refine g_goto hX dL_most_483 ?_
  refine yt_icmp_eq hX dL_most_488 (ya_in rfl) (ya_in rfl) (by decide) ?_
  refine g_iload hX dL_most_493 rfl ?_
  refine g_iload hX dL_most_494 rfl ?_
  refine yt_if_ge hX dL_most_496 (ya_in rfl) (by decide) ?_
  refine g_const hX dL_most_503 ?_
  refine y_iadd (c := 48) hX dL_most_504 (by decide) ?_
  refine g_istore hX dL_most_505 ?_
  dsimp only [List.set]
  refine y_iinc (c := 48) hX dL_most_506 rfl (by decide) ?_
  dsimp only [List.set]
  refine g_goto hX dL_most_509 ?_
  refine g_iload hX dL_most_424 rfl ?_
  refine g_const hX dL_most_425 ?_
  refine yf_icmp_ge hX dL_most_427 (ya_in rfl) (ya_in rfl) (by decide) ?_
  refine g_const hX dL_most_430 ?_
  refine g_aload hX dL_most_432 rfl rfl ?_
  refine g_const hX dL_most_433 ?_
  refine g_const hX dL_most_436 ?_
  refine g_iload hX dL_most_438 rfl ?_
  refine y_imul (c := 480) hX dL_most_439 (by decide) ?_
  refine y_iadd (c := 2080) hX dL_most_440 (by decide) ?_
  refine g_const hX dL_most_441 ?_
  refine g_const hX dL_most_443 ?_
  refine l_weekday hX hst dL_most_444 hH hV (ya_in rfl) (ya_in rfl) (ya_in rfl) yme308 (show cs + 3 + 10 + 3 ≤ 5000 by omega) (show ss + 18 + 250 + 18 ≤ 125000 by omega) (by first | exact Nat.le_of_ble_eq_true rfl | simp [cat_rf, Value.category]) (fun A ow τ M sz hH hV => ?_)
  refine y_isub (c := 7) hX dL_most_447 (by decide) ?_
  refine g_const hX dL_most_448 ?_
  refine y_irem (c := 0) hX dL_most_450 (ya_in rfl) (ya_in rfl) (by decide) (by decide) (by decide) ?_
  exact mo_g71 hX hst hR hK hH hV (by omega) (by omega)

set_option maxRecDepth 20000 in
theorem mo_g69 {X : hX} (hX : Cok X mL_most) (hst : X.1.2.1.stackTraces = false) {M0 : hM} {sz0 : Nat} {K : hK} (hR : Ret X mL_most M0 sz0 K) (hK : ∀ (M' : hM) (s9 : Nat), K (.inl (some (.int (iZ 1)))) M' s9) {h : Nat} {A : Nat → Nat → Nat} {ow : Nat → Nat × Nat} {τ : Nat → Nat → Int} {M : hM} {sz cs ss : Nat} (hH : HX X.2.2.2.2.2.2.2.2.2 h A ow (ya_TB ymS122) τ M) (hV : SV (ya_TB ymS122)) (hc : cs + 2899 ≤ 5000) (hs : ss + 71544 ≤ 125000) : G X 504 [.ref h, .int (iZ 45), .int (iZ 45), .int (iZ 4), .int (iZ 3)] [.int (iZ 1), .int (iZ 45)] M sz cs ss := by
  refine y_iadd (c := 46) hX dL_most_504 (by decide) ?_
  refine g_istore hX dL_most_505 ?_
  dsimp only [List.set]
  refine y_iinc (c := 46) hX dL_most_506 rfl (by decide) ?_
  dsimp only [List.set]
  refine g_goto hX dL_most_509 ?_
  refine g_iload hX dL_most_424 rfl ?_
  refine g_const hX dL_most_425 ?_
  refine yf_icmp_ge hX dL_most_427 (ya_in rfl) (ya_in rfl) (by decide) ?_
  refine g_const hX dL_most_430 ?_
  refine g_aload hX dL_most_432 rfl rfl ?_
  refine g_const hX dL_most_433 ?_
  refine g_const hX dL_most_436 ?_
  refine g_iload hX dL_most_438 rfl ?_
  refine y_imul (c := 460) hX dL_most_439 (by decide) ?_
  refine y_iadd (c := 2060) hX dL_most_440 (by decide) ?_
  refine g_const hX dL_most_441 ?_
  refine g_const hX dL_most_443 ?_
  refine l_weekday hX hst dL_most_444 hH hV (ya_in rfl) (ya_in rfl) (ya_in rfl) yme302 (show cs + 3 ≤ 5000 by omega) (show ss + 18 ≤ 125000 by omega) (by first | exact Nat.le_of_ble_eq_true rfl | simp [cat_rf, Value.category]) (fun A ow τ M sz hH hV => ?_)
  refine y_isub (c := 4) hX dL_most_447 (by decide) ?_
  refine g_const hX dL_most_448 ?_
  refine y_irem (c := 4) hX dL_most_450 (ya_in rfl) (ya_in rfl) (by decide) (by decide) (by decide) ?_
  refine g_const hX dL_most_451 ?_
  refine y_iadd (c := 5) hX dL_most_452 (by decide) ?_
  refine g_istore hX dL_most_453 ?_
  dsimp only [List.set]
  refine g_aload hX dL_most_454 rfl rfl ?_
  refine g_const hX dL_most_455 ?_
  refine g_const hX dL_most_457 ?_
  refine g_const hX dL_most_460 ?_
  refine g_iload hX dL_most_462 rfl ?_
  refine y_imul (c := 460) hX dL_most_463 (by decide) ?_
  refine y_iadd (c := 2060) hX dL_most_464 (by decide) ?_
  refine g_const hX dL_most_465 ?_
  refine g_iload hX dL_most_467 rfl ?_
  refine g_const hX dL_most_468 ?_
  refine l_act hX hst dL_most_469 hH hV (ya_in rfl) (ya_in rfl) (ya_in rfl) (ya_in rfl) (ya_in rfl) yme304 (show cs + 3 + 10 ≤ 5000 by omega) (show ss + 18 + 250 ≤ 125000 by omega) (by first | exact Nat.le_of_ble_eq_true rfl | simp [cat_rf, Value.category]) (fun A ow τ M sz hH hV => ?_)
  refine g_istore hX dL_most_472 ?_
  dsimp only [List.set]
  refine g_iload hX dL_most_474 rfl ?_
  refine g_iload hX dL_most_476 rfl ?_
  refine g_const hX dL_most_477 ?_
  refine yf_icmp_ge hX dL_most_479 (ya_in rfl) (ya_in rfl) (by decide) ?_
  refine g_const hX dL_most_482 ?_
  refine g_goto hX dL_most_483 ?_
  refine yt_icmp_eq hX dL_most_488 (ya_in rfl) (ya_in rfl) (by decide) ?_
  refine g_iload hX dL_most_493 rfl ?_
  refine g_iload hX dL_most_494 rfl ?_
  refine yt_if_ge hX dL_most_496 (ya_in rfl) (by decide) ?_
  refine g_const hX dL_most_503 ?_
  refine y_iadd (c := 47) hX dL_most_504 (by decide) ?_
  refine g_istore hX dL_most_505 ?_
  dsimp only [List.set]
  refine y_iinc (c := 47) hX dL_most_506 rfl (by decide) ?_
  dsimp only [List.set]
  refine g_goto hX dL_most_509 ?_
  refine g_iload hX dL_most_424 rfl ?_
  refine g_const hX dL_most_425 ?_
  refine yf_icmp_ge hX dL_most_427 (ya_in rfl) (ya_in rfl) (by decide) ?_
  refine g_const hX dL_most_430 ?_
  refine g_aload hX dL_most_432 rfl rfl ?_
  exact mo_g70 hX hst hR hK hH hV (by omega) (by omega)

set_option maxRecDepth 20000 in
theorem mo_g68 {X : hX} (hX : Cok X mL_most) (hst : X.1.2.1.stackTraces = false) {M0 : hM} {sz0 : Nat} {K : hK} (hR : Ret X mL_most M0 sz0 K) (hK : ∀ (M' : hM) (s9 : Nat), K (.inl (some (.int (iZ 1)))) M' s9) {h : Nat} {A : Nat → Nat → Nat} {ow : Nat → Nat × Nat} {τ : Nat → Nat → Int} {M : hM} {sz cs ss : Nat} (hH : HX X.2.2.2.2.2.2.2.2.2 h A ow (ya_TB ymS121) τ M) (hV : SV (ya_TB ymS121)) (hc : cs + 2912 ≤ 5000) (hs : ss + 71812 ≤ 125000) : G X 474 [.ref h, .int (iZ 44), .int (iZ 44), .int (iZ 2), .int (iZ 3)] [] M sz cs ss := by
  refine g_iload hX dL_most_474 rfl ?_
  refine g_iload hX dL_most_476 rfl ?_
  refine g_const hX dL_most_477 ?_
  refine yf_icmp_ge hX dL_most_479 (ya_in rfl) (ya_in rfl) (by decide) ?_
  refine g_const hX dL_most_482 ?_
  refine g_goto hX dL_most_483 ?_
  refine yt_icmp_eq hX dL_most_488 (ya_in rfl) (ya_in rfl) (by decide) ?_
  refine g_iload hX dL_most_493 rfl ?_
  refine g_iload hX dL_most_494 rfl ?_
  refine yt_if_ge hX dL_most_496 (ya_in rfl) (by decide) ?_
  refine g_const hX dL_most_503 ?_
  refine y_iadd (c := 45) hX dL_most_504 (by decide) ?_
  refine g_istore hX dL_most_505 ?_
  dsimp only [List.set]
  refine y_iinc (c := 45) hX dL_most_506 rfl (by decide) ?_
  dsimp only [List.set]
  refine g_goto hX dL_most_509 ?_
  refine g_iload hX dL_most_424 rfl ?_
  refine g_const hX dL_most_425 ?_
  refine yf_icmp_ge hX dL_most_427 (ya_in rfl) (ya_in rfl) (by decide) ?_
  refine g_const hX dL_most_430 ?_
  refine g_aload hX dL_most_432 rfl rfl ?_
  refine g_const hX dL_most_433 ?_
  refine g_const hX dL_most_436 ?_
  refine g_iload hX dL_most_438 rfl ?_
  refine y_imul (c := 450) hX dL_most_439 (by decide) ?_
  refine y_iadd (c := 2050) hX dL_most_440 (by decide) ?_
  refine g_const hX dL_most_441 ?_
  refine g_const hX dL_most_443 ?_
  refine l_weekday hX hst dL_most_444 hH hV (ya_in rfl) (ya_in rfl) (ya_in rfl) yme299 (show cs + 3 ≤ 5000 by omega) (show ss + 18 ≤ 125000 by omega) (by first | exact Nat.le_of_ble_eq_true rfl | simp [cat_rf, Value.category]) (fun A ow τ M sz hH hV => ?_)
  refine y_isub (c := 3) hX dL_most_447 (by decide) ?_
  refine g_const hX dL_most_448 ?_
  refine y_irem (c := 3) hX dL_most_450 (ya_in rfl) (ya_in rfl) (by decide) (by decide) (by decide) ?_
  refine g_const hX dL_most_451 ?_
  refine y_iadd (c := 4) hX dL_most_452 (by decide) ?_
  refine g_istore hX dL_most_453 ?_
  dsimp only [List.set]
  refine g_aload hX dL_most_454 rfl rfl ?_
  refine g_const hX dL_most_455 ?_
  refine g_const hX dL_most_457 ?_
  refine g_const hX dL_most_460 ?_
  refine g_iload hX dL_most_462 rfl ?_
  refine y_imul (c := 450) hX dL_most_463 (by decide) ?_
  refine y_iadd (c := 2050) hX dL_most_464 (by decide) ?_
  refine g_const hX dL_most_465 ?_
  refine g_iload hX dL_most_467 rfl ?_
  refine g_const hX dL_most_468 ?_
  refine l_act hX hst dL_most_469 hH hV (ya_in rfl) (ya_in rfl) (ya_in rfl) (ya_in rfl) (ya_in rfl) yme301 (show cs + 3 + 10 ≤ 5000 by omega) (show ss + 18 + 250 ≤ 125000 by omega) (by first | exact Nat.le_of_ble_eq_true rfl | simp [cat_rf, Value.category]) (fun A ow τ M sz hH hV => ?_)
  refine g_istore hX dL_most_472 ?_
  dsimp only [List.set]
  refine g_iload hX dL_most_474 rfl ?_
  refine g_iload hX dL_most_476 rfl ?_
  refine g_const hX dL_most_477 ?_
  refine yf_icmp_ge hX dL_most_479 (ya_in rfl) (ya_in rfl) (by decide) ?_
  refine g_const hX dL_most_482 ?_
  refine g_goto hX dL_most_483 ?_
  refine yt_icmp_eq hX dL_most_488 (ya_in rfl) (ya_in rfl) (by decide) ?_
  refine g_iload hX dL_most_493 rfl ?_
  refine g_iload hX dL_most_494 rfl ?_
  refine yt_if_ge hX dL_most_496 (ya_in rfl) (by decide) ?_
  refine g_const hX dL_most_503 ?_
  exact mo_g69 hX hst hR hK hH hV (by omega) (by omega)

set_option maxRecDepth 20000 in
theorem mo_g67 {X : hX} (hX : Cok X mL_most) (hst : X.1.2.1.stackTraces = false) {M0 : hM} {sz0 : Nat} {K : hK} (hR : Ret X mL_most M0 sz0 K) (hK : ∀ (M' : hM) (s9 : Nat), K (.inl (some (.int (iZ 1)))) M' s9) {h : Nat} {A : Nat → Nat → Nat} {ow : Nat → Nat × Nat} {τ : Nat → Nat → Int} {M : hM} {sz cs ss : Nat} (hH : HX X.2.2.2.2.2.2.2.2.2 h A ow (ya_TB ymS119) τ M) (hV : SV (ya_TB ymS119)) (hc : cs + 2935 ≤ 5000) (hs : ss + 72330 ≤ 125000) : G X 455 [.ref h, .int (iZ 43), .int (iZ 43), .int (iZ 1), .int (iZ 3)] [.ref h] M sz cs ss := by
  refine g_const hX dL_most_455 ?_
  refine g_const hX dL_most_457 ?_
  refine g_const hX dL_most_460 ?_
  refine g_iload hX dL_most_462 rfl ?_
  refine y_imul (c := 430) hX dL_most_463 (by decide) ?_
  refine y_iadd (c := 2030) hX dL_most_464 (by decide) ?_
  refine g_const hX dL_most_465 ?_
  refine g_iload hX dL_most_467 rfl ?_
  refine g_const hX dL_most_468 ?_
  refine l_act hX hst dL_most_469 hH hV (ya_in rfl) (ya_in rfl) (ya_in rfl) (ya_in rfl) (ya_in rfl) yme295 (show cs + 10 ≤ 5000 by omega) (show ss + 250 ≤ 125000 by omega) (by first | exact Nat.le_of_ble_eq_true rfl | simp [cat_rf, Value.category]) (fun A ow τ M sz hH hV => ?_)
  refine g_istore hX dL_most_472 ?_
  dsimp only [List.set]
  refine g_iload hX dL_most_474 rfl ?_
  refine g_iload hX dL_most_476 rfl ?_
  refine g_const hX dL_most_477 ?_
  refine yf_icmp_ge hX dL_most_479 (ya_in rfl) (ya_in rfl) (by decide) ?_
  refine g_const hX dL_most_482 ?_
  refine g_goto hX dL_most_483 ?_
  refine yt_icmp_eq hX dL_most_488 (ya_in rfl) (ya_in rfl) (by decide) ?_
  refine g_iload hX dL_most_493 rfl ?_
  refine g_iload hX dL_most_494 rfl ?_
  refine yt_if_ge hX dL_most_496 (ya_in rfl) (by decide) ?_
  refine g_const hX dL_most_503 ?_
  refine y_iadd (c := 44) hX dL_most_504 (by decide) ?_
  refine g_istore hX dL_most_505 ?_
  dsimp only [List.set]
  refine y_iinc (c := 44) hX dL_most_506 rfl (by decide) ?_
  dsimp only [List.set]
  refine g_goto hX dL_most_509 ?_
  refine g_iload hX dL_most_424 rfl ?_
  refine g_const hX dL_most_425 ?_
  refine yf_icmp_ge hX dL_most_427 (ya_in rfl) (ya_in rfl) (by decide) ?_
  refine g_const hX dL_most_430 ?_
  refine g_aload hX dL_most_432 rfl rfl ?_
  refine g_const hX dL_most_433 ?_
  refine g_const hX dL_most_436 ?_
  refine g_iload hX dL_most_438 rfl ?_
  refine y_imul (c := 440) hX dL_most_439 (by decide) ?_
  refine y_iadd (c := 2040) hX dL_most_440 (by decide) ?_
  refine g_const hX dL_most_441 ?_
  refine g_const hX dL_most_443 ?_
  refine l_weekday hX hst dL_most_444 hH hV (ya_in rfl) (ya_in rfl) (ya_in rfl) yme296 (show cs + 10 + 3 ≤ 5000 by omega) (show ss + 250 + 18 ≤ 125000 by omega) (by first | exact Nat.le_of_ble_eq_true rfl | simp [cat_rf, Value.category]) (fun A ow τ M sz hH hV => ?_)
  refine y_isub (c := 1) hX dL_most_447 (by decide) ?_
  refine g_const hX dL_most_448 ?_
  refine y_irem (c := 1) hX dL_most_450 (ya_in rfl) (ya_in rfl) (by decide) (by decide) (by decide) ?_
  refine g_const hX dL_most_451 ?_
  refine y_iadd (c := 2) hX dL_most_452 (by decide) ?_
  refine g_istore hX dL_most_453 ?_
  dsimp only [List.set]
  refine g_aload hX dL_most_454 rfl rfl ?_
  refine g_const hX dL_most_455 ?_
  refine g_const hX dL_most_457 ?_
  refine g_const hX dL_most_460 ?_
  refine g_iload hX dL_most_462 rfl ?_
  refine y_imul (c := 440) hX dL_most_463 (by decide) ?_
  refine y_iadd (c := 2040) hX dL_most_464 (by decide) ?_
  refine g_const hX dL_most_465 ?_
  refine g_iload hX dL_most_467 rfl ?_
  refine g_const hX dL_most_468 ?_
  refine l_act hX hst dL_most_469 hH hV (ya_in rfl) (ya_in rfl) (ya_in rfl) (ya_in rfl) (ya_in rfl) yme298 (show cs + 10 + 3 + 10 ≤ 5000 by omega) (show ss + 250 + 18 + 250 ≤ 125000 by omega) (by first | exact Nat.le_of_ble_eq_true rfl | simp [cat_rf, Value.category]) (fun A ow τ M sz hH hV => ?_)
  refine g_istore hX dL_most_472 ?_
  dsimp only [List.set]
  exact mo_g68 hX hst hR hK hH hV (by omega) (by omega)

set_option maxRecDepth 20000 in
theorem mo_g66 {X : hX} (hX : Cok X mL_most) (hst : X.1.2.1.stackTraces = false) {M0 : hM} {sz0 : Nat} {K : hK} (hR : Ret X mL_most M0 sz0 K) (hK : ∀ (M' : hM) (s9 : Nat), K (.inl (some (.int (iZ 1)))) M' s9) {h : Nat} {A : Nat → Nat → Nat} {ow : Nat → Nat × Nat} {τ : Nat → Nat → Int} {M : hM} {sz cs ss : Nat} (hH : HX X.2.2.2.2.2.2.2.2.2 h A ow (ya_TB ymS118) τ M) (hV : SV (ya_TB ymS118)) (hc : cs + 2951 ≤ 5000) (hs : ss + 72616 ≤ 125000) : G X 441 [.ref h, .int (iZ 42), .int (iZ 42), .int (iZ 5), .int (iZ 3)] [.int (iZ 2020), .ref h, .int (iZ 7)] M sz cs ss := by
  refine g_const hX dL_most_441 ?_
  refine g_const hX dL_most_443 ?_
  refine l_weekday hX hst dL_most_444 hH hV (ya_in rfl) (ya_in rfl) (ya_in rfl) yme290 (show cs + 3 ≤ 5000 by omega) (show ss + 18 ≤ 125000 by omega) (by first | exact Nat.le_of_ble_eq_true rfl | simp [cat_rf, Value.category]) (fun A ow τ M sz hH hV => ?_)
  refine y_isub (c := 5) hX dL_most_447 (by decide) ?_
  refine g_const hX dL_most_448 ?_
  refine y_irem (c := 5) hX dL_most_450 (ya_in rfl) (ya_in rfl) (by decide) (by decide) (by decide) ?_
  refine g_const hX dL_most_451 ?_
  refine y_iadd (c := 6) hX dL_most_452 (by decide) ?_
  refine g_istore hX dL_most_453 ?_
  dsimp only [List.set]
  refine g_aload hX dL_most_454 rfl rfl ?_
  refine g_const hX dL_most_455 ?_
  refine g_const hX dL_most_457 ?_
  refine g_const hX dL_most_460 ?_
  refine g_iload hX dL_most_462 rfl ?_
  refine y_imul (c := 420) hX dL_most_463 (by decide) ?_
  refine y_iadd (c := 2020) hX dL_most_464 (by decide) ?_
  refine g_const hX dL_most_465 ?_
  refine g_iload hX dL_most_467 rfl ?_
  refine g_const hX dL_most_468 ?_
  refine l_act hX hst dL_most_469 hH hV (ya_in rfl) (ya_in rfl) (ya_in rfl) (ya_in rfl) (ya_in rfl) yme292 (show cs + 3 + 10 ≤ 5000 by omega) (show ss + 18 + 250 ≤ 125000 by omega) (by first | exact Nat.le_of_ble_eq_true rfl | simp [cat_rf, Value.category]) (fun A ow τ M sz hH hV => ?_)
  refine g_istore hX dL_most_472 ?_
  dsimp only [List.set]
  refine g_iload hX dL_most_474 rfl ?_
  refine g_iload hX dL_most_476 rfl ?_
  refine g_const hX dL_most_477 ?_
  refine yf_icmp_ge hX dL_most_479 (ya_in rfl) (ya_in rfl) (by decide) ?_
  refine g_const hX dL_most_482 ?_
  refine g_goto hX dL_most_483 ?_
  refine yt_icmp_eq hX dL_most_488 (ya_in rfl) (ya_in rfl) (by decide) ?_
  refine g_iload hX dL_most_493 rfl ?_
  refine g_iload hX dL_most_494 rfl ?_
  refine yt_if_ge hX dL_most_496 (ya_in rfl) (by decide) ?_
  refine g_const hX dL_most_503 ?_
  refine y_iadd (c := 43) hX dL_most_504 (by decide) ?_
  refine g_istore hX dL_most_505 ?_
  dsimp only [List.set]
  refine y_iinc (c := 43) hX dL_most_506 rfl (by decide) ?_
  dsimp only [List.set]
  refine g_goto hX dL_most_509 ?_
  refine g_iload hX dL_most_424 rfl ?_
  refine g_const hX dL_most_425 ?_
  refine yf_icmp_ge hX dL_most_427 (ya_in rfl) (ya_in rfl) (by decide) ?_
  refine g_const hX dL_most_430 ?_
  refine g_aload hX dL_most_432 rfl rfl ?_
  refine g_const hX dL_most_433 ?_
  refine g_const hX dL_most_436 ?_
  refine g_iload hX dL_most_438 rfl ?_
  refine y_imul (c := 430) hX dL_most_439 (by decide) ?_
  refine y_iadd (c := 2030) hX dL_most_440 (by decide) ?_
  refine g_const hX dL_most_441 ?_
  refine g_const hX dL_most_443 ?_
  refine l_weekday hX hst dL_most_444 hH hV (ya_in rfl) (ya_in rfl) (ya_in rfl) yme293 (show cs + 3 + 10 + 3 ≤ 5000 by omega) (show ss + 18 + 250 + 18 ≤ 125000 by omega) (by first | exact Nat.le_of_ble_eq_true rfl | simp [cat_rf, Value.category]) (fun A ow τ M sz hH hV => ?_)
  refine y_isub (c := 7) hX dL_most_447 (by decide) ?_
  refine g_const hX dL_most_448 ?_
  refine y_irem (c := 0) hX dL_most_450 (ya_in rfl) (ya_in rfl) (by decide) (by decide) (by decide) ?_
  refine g_const hX dL_most_451 ?_
  refine y_iadd (c := 1) hX dL_most_452 (by decide) ?_
  refine g_istore hX dL_most_453 ?_
  dsimp only [List.set]
  refine g_aload hX dL_most_454 rfl rfl ?_
  exact mo_g67 hX hst hR hK hH hV (by omega) (by omega)

set_option maxRecDepth 20000 in
theorem mo_g65 {X : hX} (hX : Cok X mL_most) (hst : X.1.2.1.stackTraces = false) {M0 : hM} {sz0 : Nat} {K : hK} (hR : Ret X mL_most M0 sz0 K) (hK : ∀ (M' : hM) (s9 : Nat), K (.inl (some (.int (iZ 1)))) M' s9) {h : Nat} {A : Nat → Nat → Nat} {ow : Nat → Nat × Nat} {τ : Nat → Nat → Int} {M : hM} {sz cs ss : Nat} (hH : HX X.2.2.2.2.2.2.2.2.2 h A ow (ya_TB ymS117) τ M) (hV : SV (ya_TB ymS117)) (hc : cs + 2964 ≤ 5000) (hs : ss + 72884 ≤ 125000) : G X 509 [.ref h, .int (iZ 41), .int (iZ 41), .int (iZ 3), .int (iZ 3)] [] M sz cs ss := by
  refine g_goto hX dL_most_509 ?_
  refine g_iload hX dL_most_424 rfl ?_
  refine g_const hX dL_most_425 ?_
  refine yf_icmp_ge hX dL_most_427 (ya_in rfl) (ya_in rfl) (by decide) ?_
  refine g_const hX dL_most_430 ?_
  refine g_aload hX dL_most_432 rfl rfl ?_
  refine g_const hX dL_most_433 ?_
  refine g_const hX dL_most_436 ?_
  refine g_iload hX dL_most_438 rfl ?_
  refine y_imul (c := 410) hX dL_most_439 (by decide) ?_
  refine y_iadd (c := 2010) hX dL_most_440 (by decide) ?_
  refine g_const hX dL_most_441 ?_
  refine g_const hX dL_most_443 ?_
  refine l_weekday hX hst dL_most_444 hH hV (ya_in rfl) (ya_in rfl) (ya_in rfl) yme287 (show cs + 3 ≤ 5000 by omega) (show ss + 18 ≤ 125000 by omega) (by first | exact Nat.le_of_ble_eq_true rfl | simp [cat_rf, Value.category]) (fun A ow τ M sz hH hV => ?_)
  refine y_isub (c := 4) hX dL_most_447 (by decide) ?_
  refine g_const hX dL_most_448 ?_
  refine y_irem (c := 4) hX dL_most_450 (ya_in rfl) (ya_in rfl) (by decide) (by decide) (by decide) ?_
  refine g_const hX dL_most_451 ?_
  refine y_iadd (c := 5) hX dL_most_452 (by decide) ?_
  refine g_istore hX dL_most_453 ?_
  dsimp only [List.set]
  refine g_aload hX dL_most_454 rfl rfl ?_
  refine g_const hX dL_most_455 ?_
  refine g_const hX dL_most_457 ?_
  refine g_const hX dL_most_460 ?_
  refine g_iload hX dL_most_462 rfl ?_
  refine y_imul (c := 410) hX dL_most_463 (by decide) ?_
  refine y_iadd (c := 2010) hX dL_most_464 (by decide) ?_
  refine g_const hX dL_most_465 ?_
  refine g_iload hX dL_most_467 rfl ?_
  refine g_const hX dL_most_468 ?_
  refine l_act hX hst dL_most_469 hH hV (ya_in rfl) (ya_in rfl) (ya_in rfl) (ya_in rfl) (ya_in rfl) yme289 (show cs + 3 + 10 ≤ 5000 by omega) (show ss + 18 + 250 ≤ 125000 by omega) (by first | exact Nat.le_of_ble_eq_true rfl | simp [cat_rf, Value.category]) (fun A ow τ M sz hH hV => ?_)
  refine g_istore hX dL_most_472 ?_
  dsimp only [List.set]
  refine g_iload hX dL_most_474 rfl ?_
  refine g_iload hX dL_most_476 rfl ?_
  refine g_const hX dL_most_477 ?_
  refine yf_icmp_ge hX dL_most_479 (ya_in rfl) (ya_in rfl) (by decide) ?_
  refine g_const hX dL_most_482 ?_
  refine g_goto hX dL_most_483 ?_
  refine yt_icmp_eq hX dL_most_488 (ya_in rfl) (ya_in rfl) (by decide) ?_
  refine g_iload hX dL_most_493 rfl ?_
  refine g_iload hX dL_most_494 rfl ?_
  refine yt_if_ge hX dL_most_496 (ya_in rfl) (by decide) ?_
  refine g_const hX dL_most_503 ?_
  refine y_iadd (c := 42) hX dL_most_504 (by decide) ?_
  refine g_istore hX dL_most_505 ?_
  dsimp only [List.set]
  refine y_iinc (c := 42) hX dL_most_506 rfl (by decide) ?_
  dsimp only [List.set]
  refine g_goto hX dL_most_509 ?_
  refine g_iload hX dL_most_424 rfl ?_
  refine g_const hX dL_most_425 ?_
  refine yf_icmp_ge hX dL_most_427 (ya_in rfl) (ya_in rfl) (by decide) ?_
  refine g_const hX dL_most_430 ?_
  refine g_aload hX dL_most_432 rfl rfl ?_
  refine g_const hX dL_most_433 ?_
  refine g_const hX dL_most_436 ?_
  refine g_iload hX dL_most_438 rfl ?_
  refine y_imul (c := 420) hX dL_most_439 (by decide) ?_
  refine y_iadd (c := 2020) hX dL_most_440 (by decide) ?_
  exact mo_g66 hX hst hR hK hH hV (by omega) (by omega)

set_option maxRecDepth 20000 in
theorem mo_g64 {X : hX} (hX : Cok X mL_most) (hst : X.1.2.1.stackTraces = false) {M0 : hM} {sz0 : Nat} {K : hK} (hR : Ret X mL_most M0 sz0 K) (hK : ∀ (M' : hM) (s9 : Nat), K (.inl (some (.int (iZ 1)))) M' s9) {h : Nat} {A : Nat → Nat → Nat} {ow : Nat → Nat × Nat} {τ : Nat → Nat → Int} {M : hM} {sz cs ss : Nat} (hH : HX X.2.2.2.2.2.2.2.2.2 h A ow (ya_TB ymS116) τ M) (hV : SV (ya_TB ymS116)) (hc : cs + 2977 ≤ 5000) (hs : ss + 73152 ≤ 125000) : G X 483 [.ref h, .int (iZ 39), .int (iZ 39), .int (iZ 2), .int (iZ 3)] [.int (iZ 3), .int (iZ 3)] M sz cs ss := by
  refine g_goto hX dL_most_483 ?_
  refine yt_icmp_eq hX dL_most_488 (ya_in rfl) (ya_in rfl) (by decide) ?_
  refine g_iload hX dL_most_493 rfl ?_
  refine g_iload hX dL_most_494 rfl ?_
  refine yt_if_ge hX dL_most_496 (ya_in rfl) (by decide) ?_
  refine g_const hX dL_most_503 ?_
  refine y_iadd (c := 40) hX dL_most_504 (by decide) ?_
  refine g_istore hX dL_most_505 ?_
  dsimp only [List.set]
  refine y_iinc (c := 40) hX dL_most_506 rfl (by decide) ?_
  dsimp only [List.set]
  refine g_goto hX dL_most_509 ?_
  refine g_iload hX dL_most_424 rfl ?_
  refine g_const hX dL_most_425 ?_
  refine yf_icmp_ge hX dL_most_427 (ya_in rfl) (ya_in rfl) (by decide) ?_
  refine g_const hX dL_most_430 ?_
  refine g_aload hX dL_most_432 rfl rfl ?_
  refine g_const hX dL_most_433 ?_
  refine g_const hX dL_most_436 ?_
  refine g_iload hX dL_most_438 rfl ?_
  refine y_imul (c := 400) hX dL_most_439 (by decide) ?_
  refine y_iadd (c := 2000) hX dL_most_440 (by decide) ?_
  refine g_const hX dL_most_441 ?_
  refine g_const hX dL_most_443 ?_
  refine l_weekday hX hst dL_most_444 hH hV (ya_in rfl) (ya_in rfl) (ya_in rfl) yme284 (show cs + 3 ≤ 5000 by omega) (show ss + 18 ≤ 125000 by omega) (by first | exact Nat.le_of_ble_eq_true rfl | simp [cat_rf, Value.category]) (fun A ow τ M sz hH hV => ?_)
  refine y_isub (c := 2) hX dL_most_447 (by decide) ?_
  refine g_const hX dL_most_448 ?_
  refine y_irem (c := 2) hX dL_most_450 (ya_in rfl) (ya_in rfl) (by decide) (by decide) (by decide) ?_
  refine g_const hX dL_most_451 ?_
  refine y_iadd (c := 3) hX dL_most_452 (by decide) ?_
  refine g_istore hX dL_most_453 ?_
  dsimp only [List.set]
  refine g_aload hX dL_most_454 rfl rfl ?_
  refine g_const hX dL_most_455 ?_
  refine g_const hX dL_most_457 ?_
  refine g_const hX dL_most_460 ?_
  refine g_iload hX dL_most_462 rfl ?_
  refine y_imul (c := 400) hX dL_most_463 (by decide) ?_
  refine y_iadd (c := 2000) hX dL_most_464 (by decide) ?_
  refine g_const hX dL_most_465 ?_
  refine g_iload hX dL_most_467 rfl ?_
  refine g_const hX dL_most_468 ?_
  refine l_act hX hst dL_most_469 hH hV (ya_in rfl) (ya_in rfl) (ya_in rfl) (ya_in rfl) (ya_in rfl) yme286 (show cs + 3 + 10 ≤ 5000 by omega) (show ss + 18 + 250 ≤ 125000 by omega) (by first | exact Nat.le_of_ble_eq_true rfl | simp [cat_rf, Value.category]) (fun A ow τ M sz hH hV => ?_)
  refine g_istore hX dL_most_472 ?_
  dsimp only [List.set]
  refine g_iload hX dL_most_474 rfl ?_
  refine g_iload hX dL_most_476 rfl ?_
  refine g_const hX dL_most_477 ?_
  refine yf_icmp_ge hX dL_most_479 (ya_in rfl) (ya_in rfl) (by decide) ?_
  refine g_const hX dL_most_482 ?_
  refine g_goto hX dL_most_483 ?_
  refine yt_icmp_eq hX dL_most_488 (ya_in rfl) (ya_in rfl) (by decide) ?_
  refine g_iload hX dL_most_493 rfl ?_
  refine g_iload hX dL_most_494 rfl ?_
  refine yt_if_ge hX dL_most_496 (ya_in rfl) (by decide) ?_
  refine g_const hX dL_most_503 ?_
  refine y_iadd (c := 41) hX dL_most_504 (by decide) ?_
  refine g_istore hX dL_most_505 ?_
  dsimp only [List.set]
  refine y_iinc (c := 41) hX dL_most_506 rfl (by decide) ?_
  dsimp only [List.set]
  exact mo_g65 hX hst hR hK hH hV (by omega) (by omega)

set_option maxRecDepth 20000 in
theorem mo_g63 {X : hX} (hX : Cok X mL_most) (hst : X.1.2.1.stackTraces = false) {M0 : hM} {sz0 : Nat} {K : hK} (hR : Ret X mL_most M0 sz0 K) (hK : ∀ (M' : hM) (s9 : Nat), K (.inl (some (.int (iZ 1)))) M' s9) {h : Nat} {A : Nat → Nat → Nat} {ow : Nat → Nat × Nat} {τ : Nat → Nat → Int} {M : hM} {sz cs ss : Nat} (hH : HX X.2.2.2.2.2.2.2.2.2 h A ow (ya_TB ymS114) τ M) (hV : SV (ya_TB ymS114)) (hc : cs + 3000 ≤ 5000) (hs : ss + 73670 ≤ 125000) : G X 465 [.ref h, .int (iZ 38), .int (iZ 38), .int (iZ 7), .int (iZ 3)] [.int (iZ 1980), .int (iZ 23), .ref h] M sz cs ss := by
  refine g_const hX dL_most_465 ?_
  refine g_iload hX dL_most_467 rfl ?_
  refine g_const hX dL_most_468 ?_
  refine l_act hX hst dL_most_469 hH hV (ya_in rfl) (ya_in rfl) (ya_in rfl) (ya_in rfl) (ya_in rfl) yme280 (show cs + 10 ≤ 5000 by omega) (show ss + 250 ≤ 125000 by omega) (by first | exact Nat.le_of_ble_eq_true rfl | simp [cat_rf, Value.category]) (fun A ow τ M sz hH hV => ?_)
  refine g_istore hX dL_most_472 ?_
  dsimp only [List.set]
  refine g_iload hX dL_most_474 rfl ?_
  refine g_iload hX dL_most_476 rfl ?_
  refine g_const hX dL_most_477 ?_
  refine yf_icmp_ge hX dL_most_479 (ya_in rfl) (ya_in rfl) (by decide) ?_
  refine g_const hX dL_most_482 ?_
  refine g_goto hX dL_most_483 ?_
  refine yt_icmp_eq hX dL_most_488 (ya_in rfl) (ya_in rfl) (by decide) ?_
  refine g_iload hX dL_most_493 rfl ?_
  refine g_iload hX dL_most_494 rfl ?_
  refine yt_if_ge hX dL_most_496 (ya_in rfl) (by decide) ?_
  refine g_const hX dL_most_503 ?_
  refine y_iadd (c := 39) hX dL_most_504 (by decide) ?_
  refine g_istore hX dL_most_505 ?_
  dsimp only [List.set]
  refine y_iinc (c := 39) hX dL_most_506 rfl (by decide) ?_
  dsimp only [List.set]
  refine g_goto hX dL_most_509 ?_
  refine g_iload hX dL_most_424 rfl ?_
  refine g_const hX dL_most_425 ?_
  refine yf_icmp_ge hX dL_most_427 (ya_in rfl) (ya_in rfl) (by decide) ?_
  refine g_const hX dL_most_430 ?_
  refine g_aload hX dL_most_432 rfl rfl ?_
  refine g_const hX dL_most_433 ?_
  refine g_const hX dL_most_436 ?_
  refine g_iload hX dL_most_438 rfl ?_
  refine y_imul (c := 390) hX dL_most_439 (by decide) ?_
  refine y_iadd (c := 1990) hX dL_most_440 (by decide) ?_
  refine g_const hX dL_most_441 ?_
  refine g_const hX dL_most_443 ?_
  refine l_weekday hX hst dL_most_444 hH hV (ya_in rfl) (ya_in rfl) (ya_in rfl) yme281 (show cs + 10 + 3 ≤ 5000 by omega) (show ss + 250 + 18 ≤ 125000 by omega) (by first | exact Nat.le_of_ble_eq_true rfl | simp [cat_rf, Value.category]) (fun A ow τ M sz hH hV => ?_)
  refine y_isub (c := 1) hX dL_most_447 (by decide) ?_
  refine g_const hX dL_most_448 ?_
  refine y_irem (c := 1) hX dL_most_450 (ya_in rfl) (ya_in rfl) (by decide) (by decide) (by decide) ?_
  refine g_const hX dL_most_451 ?_
  refine y_iadd (c := 2) hX dL_most_452 (by decide) ?_
  refine g_istore hX dL_most_453 ?_
  dsimp only [List.set]
  refine g_aload hX dL_most_454 rfl rfl ?_
  refine g_const hX dL_most_455 ?_
  refine g_const hX dL_most_457 ?_
  refine g_const hX dL_most_460 ?_
  refine g_iload hX dL_most_462 rfl ?_
  refine y_imul (c := 390) hX dL_most_463 (by decide) ?_
  refine y_iadd (c := 1990) hX dL_most_464 (by decide) ?_
  refine g_const hX dL_most_465 ?_
  refine g_iload hX dL_most_467 rfl ?_
  refine g_const hX dL_most_468 ?_
  refine l_act hX hst dL_most_469 hH hV (ya_in rfl) (ya_in rfl) (ya_in rfl) (ya_in rfl) (ya_in rfl) yme283 (show cs + 10 + 3 + 10 ≤ 5000 by omega) (show ss + 250 + 18 + 250 ≤ 125000 by omega) (by first | exact Nat.le_of_ble_eq_true rfl | simp [cat_rf, Value.category]) (fun A ow τ M sz hH hV => ?_)
  refine g_istore hX dL_most_472 ?_
  dsimp only [List.set]
  refine g_iload hX dL_most_474 rfl ?_
  refine g_iload hX dL_most_476 rfl ?_
  refine g_const hX dL_most_477 ?_
  refine yf_icmp_ge hX dL_most_479 (ya_in rfl) (ya_in rfl) (by decide) ?_
  refine g_const hX dL_most_482 ?_
  exact mo_g64 hX hst hR hK hH hV (by omega) (by omega)

set_option maxRecDepth 20000 in
theorem mo_g62 {X : hX} (hX : Cok X mL_most) (hst : X.1.2.1.stackTraces = false) {M0 : hM} {sz0 : Nat} {K : hK} (hR : Ret X mL_most M0 sz0 K) (hK : ∀ (M' : hM) (s9 : Nat), K (.inl (some (.int (iZ 1)))) M' s9) {h : Nat} {A : Nat → Nat → Nat} {ow : Nat → Nat × Nat} {τ : Nat → Nat → Int} {M : hM} {sz cs ss : Nat} (hH : HX X.2.2.2.2.2.2.2.2.2 h A ow (ya_TB ymS113) τ M) (hV : SV (ya_TB ymS113)) (hc : cs + 3013 ≤ 5000) (hs : ss + 73938 ≤ 125000) : G X 451 [.ref h, .int (iZ 37), .int (iZ 37), .int (iZ 4), .int (iZ 3)] [.int (iZ 5)] M sz cs ss := by
  refine g_const hX dL_most_451 ?_
  refine y_iadd (c := 6) hX dL_most_452 (by decide) ?_
  refine g_istore hX dL_most_453 ?_
  dsimp only [List.set]
  refine g_aload hX dL_most_454 rfl rfl ?_
  refine g_const hX dL_most_455 ?_
  refine g_const hX dL_most_457 ?_
  refine g_const hX dL_most_460 ?_
  refine g_iload hX dL_most_462 rfl ?_
  refine y_imul (c := 370) hX dL_most_463 (by decide) ?_
  refine y_iadd (c := 1970) hX dL_most_464 (by decide) ?_
  refine g_const hX dL_most_465 ?_
  refine g_iload hX dL_most_467 rfl ?_
  refine g_const hX dL_most_468 ?_
  refine l_act hX hst dL_most_469 hH hV (ya_in rfl) (ya_in rfl) (ya_in rfl) (ya_in rfl) (ya_in rfl) yme277 (show cs + 10 ≤ 5000 by omega) (show ss + 250 ≤ 125000 by omega) (by first | exact Nat.le_of_ble_eq_true rfl | simp [cat_rf, Value.category]) (fun A ow τ M sz hH hV => ?_)
  refine g_istore hX dL_most_472 ?_
  dsimp only [List.set]
  refine g_iload hX dL_most_474 rfl ?_
  refine g_iload hX dL_most_476 rfl ?_
  refine g_const hX dL_most_477 ?_
  refine yf_icmp_ge hX dL_most_479 (ya_in rfl) (ya_in rfl) (by decide) ?_
  refine g_const hX dL_most_482 ?_
  refine g_goto hX dL_most_483 ?_
  refine yt_icmp_eq hX dL_most_488 (ya_in rfl) (ya_in rfl) (by decide) ?_
  refine g_iload hX dL_most_493 rfl ?_
  refine g_iload hX dL_most_494 rfl ?_
  refine yt_if_ge hX dL_most_496 (ya_in rfl) (by decide) ?_
  refine g_const hX dL_most_503 ?_
  refine y_iadd (c := 38) hX dL_most_504 (by decide) ?_
  refine g_istore hX dL_most_505 ?_
  dsimp only [List.set]
  refine y_iinc (c := 38) hX dL_most_506 rfl (by decide) ?_
  dsimp only [List.set]
  refine g_goto hX dL_most_509 ?_
  refine g_iload hX dL_most_424 rfl ?_
  refine g_const hX dL_most_425 ?_
  refine yf_icmp_ge hX dL_most_427 (ya_in rfl) (ya_in rfl) (by decide) ?_
  refine g_const hX dL_most_430 ?_
  refine g_aload hX dL_most_432 rfl rfl ?_
  refine g_const hX dL_most_433 ?_
  refine g_const hX dL_most_436 ?_
  refine g_iload hX dL_most_438 rfl ?_
  refine y_imul (c := 380) hX dL_most_439 (by decide) ?_
  refine y_iadd (c := 1980) hX dL_most_440 (by decide) ?_
  refine g_const hX dL_most_441 ?_
  refine g_const hX dL_most_443 ?_
  refine l_weekday hX hst dL_most_444 hH hV (ya_in rfl) (ya_in rfl) (ya_in rfl) yme278 (show cs + 10 + 3 ≤ 5000 by omega) (show ss + 250 + 18 ≤ 125000 by omega) (by first | exact Nat.le_of_ble_eq_true rfl | simp [cat_rf, Value.category]) (fun A ow τ M sz hH hV => ?_)
  refine y_isub (c := 6) hX dL_most_447 (by decide) ?_
  refine g_const hX dL_most_448 ?_
  refine y_irem (c := 6) hX dL_most_450 (ya_in rfl) (ya_in rfl) (by decide) (by decide) (by decide) ?_
  refine g_const hX dL_most_451 ?_
  refine y_iadd (c := 7) hX dL_most_452 (by decide) ?_
  refine g_istore hX dL_most_453 ?_
  dsimp only [List.set]
  refine g_aload hX dL_most_454 rfl rfl ?_
  refine g_const hX dL_most_455 ?_
  refine g_const hX dL_most_457 ?_
  refine g_const hX dL_most_460 ?_
  refine g_iload hX dL_most_462 rfl ?_
  refine y_imul (c := 380) hX dL_most_463 (by decide) ?_
  refine y_iadd (c := 1980) hX dL_most_464 (by decide) ?_
  exact mo_g63 hX hst hR hK hH hV (by omega) (by omega)

set_option maxRecDepth 20000 in
theorem mo_g61 {X : hX} (hX : Cok X mL_most) (hst : X.1.2.1.stackTraces = false) {M0 : hM} {sz0 : Nat} {K : hK} (hR : Ret X mL_most M0 sz0 K) (hK : ∀ (M' : hM) (s9 : Nat), K (.inl (some (.int (iZ 1)))) M' s9) {h : Nat} {A : Nat → Nat → Nat} {ow : Nat → Nat × Nat} {τ : Nat → Nat → Int} {M : hM} {sz cs ss : Nat} (hH : HX X.2.2.2.2.2.2.2.2.2 h A ow (ya_TB ymS112) τ M) (hV : SV (ya_TB ymS112)) (hc : cs + 3029 ≤ 5000) (hs : ss + 74224 ≤ 125000) : G X 433 [.ref h, .int (iZ 36), .int (iZ 36), .int (iZ 3), .int (iZ 3)] [.ref h, .int (iZ 7)] M sz cs ss := by
  refine g_const hX dL_most_433 ?_
  refine g_const hX dL_most_436 ?_
  refine g_iload hX dL_most_438 rfl ?_
  refine y_imul (c := 360) hX dL_most_439 (by decide) ?_
  refine y_iadd (c := 1960) hX dL_most_440 (by decide) ?_
  refine g_const hX dL_most_441 ?_
  refine g_const hX dL_most_443 ?_
  refine l_weekday hX hst dL_most_444 hH hV (ya_in rfl) (ya_in rfl) (ya_in rfl) yme272 (show cs + 3 ≤ 5000 by omega) (show ss + 18 ≤ 125000 by omega) (by first | exact Nat.le_of_ble_eq_true rfl | simp [cat_rf, Value.category]) (fun A ow τ M sz hH hV => ?_)
  refine y_isub (c := 3) hX dL_most_447 (by decide) ?_
  refine g_const hX dL_most_448 ?_
  refine y_irem (c := 3) hX dL_most_450 (ya_in rfl) (ya_in rfl) (by decide) (by decide) (by decide) ?_
  refine g_const hX dL_most_451 ?_
  refine y_iadd (c := 4) hX dL_most_452 (by decide) ?_
  refine g_istore hX dL_most_453 ?_
  dsimp only [List.set]
  refine g_aload hX dL_most_454 rfl rfl ?_
  refine g_const hX dL_most_455 ?_
  refine g_const hX dL_most_457 ?_
  refine g_const hX dL_most_460 ?_
  refine g_iload hX dL_most_462 rfl ?_
  refine y_imul (c := 360) hX dL_most_463 (by decide) ?_
  refine y_iadd (c := 1960) hX dL_most_464 (by decide) ?_
  refine g_const hX dL_most_465 ?_
  refine g_iload hX dL_most_467 rfl ?_
  refine g_const hX dL_most_468 ?_
  refine l_act hX hst dL_most_469 hH hV (ya_in rfl) (ya_in rfl) (ya_in rfl) (ya_in rfl) (ya_in rfl) yme274 (show cs + 3 + 10 ≤ 5000 by omega) (show ss + 18 + 250 ≤ 125000 by omega) (by first | exact Nat.le_of_ble_eq_true rfl | simp [cat_rf, Value.category]) (fun A ow τ M sz hH hV => ?_)
  refine g_istore hX dL_most_472 ?_
  dsimp only [List.set]
  refine g_iload hX dL_most_474 rfl ?_
  refine g_iload hX dL_most_476 rfl ?_
  refine g_const hX dL_most_477 ?_
  refine yf_icmp_ge hX dL_most_479 (ya_in rfl) (ya_in rfl) (by decide) ?_
  refine g_const hX dL_most_482 ?_
  refine g_goto hX dL_most_483 ?_
  refine yt_icmp_eq hX dL_most_488 (ya_in rfl) (ya_in rfl) (by decide) ?_
  refine g_iload hX dL_most_493 rfl ?_
  refine g_iload hX dL_most_494 rfl ?_
  refine yt_if_ge hX dL_most_496 (ya_in rfl) (by decide) ?_
  refine g_const hX dL_most_503 ?_
  refine y_iadd (c := 37) hX dL_most_504 (by decide) ?_
  refine g_istore hX dL_most_505 ?_
  dsimp only [List.set]
  refine y_iinc (c := 37) hX dL_most_506 rfl (by decide) ?_
  dsimp only [List.set]
  refine g_goto hX dL_most_509 ?_
  refine g_iload hX dL_most_424 rfl ?_
  refine g_const hX dL_most_425 ?_
  refine yf_icmp_ge hX dL_most_427 (ya_in rfl) (ya_in rfl) (by decide) ?_
  refine g_const hX dL_most_430 ?_
  refine g_aload hX dL_most_432 rfl rfl ?_
  refine g_const hX dL_most_433 ?_
  refine g_const hX dL_most_436 ?_
  refine g_iload hX dL_most_438 rfl ?_
  refine y_imul (c := 370) hX dL_most_439 (by decide) ?_
  refine y_iadd (c := 1970) hX dL_most_440 (by decide) ?_
  refine g_const hX dL_most_441 ?_
  refine g_const hX dL_most_443 ?_
  refine l_weekday hX hst dL_most_444 hH hV (ya_in rfl) (ya_in rfl) (ya_in rfl) yme275 (show cs + 3 + 10 + 3 ≤ 5000 by omega) (show ss + 18 + 250 + 18 ≤ 125000 by omega) (by first | exact Nat.le_of_ble_eq_true rfl | simp [cat_rf, Value.category]) (fun A ow τ M sz hH hV => ?_)
  refine y_isub (c := 5) hX dL_most_447 (by decide) ?_
  refine g_const hX dL_most_448 ?_
  refine y_irem (c := 5) hX dL_most_450 (ya_in rfl) (ya_in rfl) (by decide) (by decide) (by decide) ?_
  exact mo_g62 hX hst hR hK hH hV (by omega) (by omega)

set_option maxRecDepth 20000 in
theorem mo_g60 {X : hX} (hX : Cok X mL_most) (hst : X.1.2.1.stackTraces = false) {M0 : hM} {sz0 : Nat} {K : hK} (hR : Ret X mL_most M0 sz0 K) (hK : ∀ (M' : hM) (s9 : Nat), K (.inl (some (.int (iZ 1)))) M' s9) {h : Nat} {A : Nat → Nat → Nat} {ow : Nat → Nat × Nat} {τ : Nat → Nat → Int} {M : hM} {sz cs ss : Nat} (hH : HX X.2.2.2.2.2.2.2.2.2 h A ow (ya_TB ymS111) τ M) (hV : SV (ya_TB ymS111)) (hc : cs + 3042 ≤ 5000) (hs : ss + 74492 ≤ 125000) : G X 504 [.ref h, .int (iZ 34), .int (iZ 34), .int (iZ 1), .int (iZ 3)] [.int (iZ 1), .int (iZ 34)] M sz cs ss := by
  refine y_iadd (c := 35) hX dL_most_504 (by decide) ?_
  refine g_istore hX dL_most_505 ?_
  dsimp only [List.set]
  refine y_iinc (c := 35) hX dL_most_506 rfl (by decide) ?_
  dsimp only [List.set]
  refine g_goto hX dL_most_509 ?_
  refine g_iload hX dL_most_424 rfl ?_
  refine g_const hX dL_most_425 ?_
  refine yf_icmp_ge hX dL_most_427 (ya_in rfl) (ya_in rfl) (by decide) ?_
  refine g_const hX dL_most_430 ?_
  refine g_aload hX dL_most_432 rfl rfl ?_
  refine g_const hX dL_most_433 ?_
  refine g_const hX dL_most_436 ?_
  refine g_iload hX dL_most_438 rfl ?_
  refine y_imul (c := 350) hX dL_most_439 (by decide) ?_
  refine y_iadd (c := 1950) hX dL_most_440 (by decide) ?_
  refine g_const hX dL_most_441 ?_
  refine g_const hX dL_most_443 ?_
  refine l_weekday hX hst dL_most_444 hH hV (ya_in rfl) (ya_in rfl) (ya_in rfl) yme269 (show cs + 3 ≤ 5000 by omega) (show ss + 18 ≤ 125000 by omega) (by first | exact Nat.le_of_ble_eq_true rfl | simp [cat_rf, Value.category]) (fun A ow τ M sz hH hV => ?_)
  refine y_isub (c := 2) hX dL_most_447 (by decide) ?_
  refine g_const hX dL_most_448 ?_
  refine y_irem (c := 2) hX dL_most_450 (ya_in rfl) (ya_in rfl) (by decide) (by decide) (by decide) ?_
  refine g_const hX dL_most_451 ?_
  refine y_iadd (c := 3) hX dL_most_452 (by decide) ?_
  refine g_istore hX dL_most_453 ?_
  dsimp only [List.set]
  refine g_aload hX dL_most_454 rfl rfl ?_
  refine g_const hX dL_most_455 ?_
  refine g_const hX dL_most_457 ?_
  refine g_const hX dL_most_460 ?_
  refine g_iload hX dL_most_462 rfl ?_
  refine y_imul (c := 350) hX dL_most_463 (by decide) ?_
  refine y_iadd (c := 1950) hX dL_most_464 (by decide) ?_
  refine g_const hX dL_most_465 ?_
  refine g_iload hX dL_most_467 rfl ?_
  refine g_const hX dL_most_468 ?_
  refine l_act hX hst dL_most_469 hH hV (ya_in rfl) (ya_in rfl) (ya_in rfl) (ya_in rfl) (ya_in rfl) yme271 (show cs + 3 + 10 ≤ 5000 by omega) (show ss + 18 + 250 ≤ 125000 by omega) (by first | exact Nat.le_of_ble_eq_true rfl | simp [cat_rf, Value.category]) (fun A ow τ M sz hH hV => ?_)
  refine g_istore hX dL_most_472 ?_
  dsimp only [List.set]
  refine g_iload hX dL_most_474 rfl ?_
  refine g_iload hX dL_most_476 rfl ?_
  refine g_const hX dL_most_477 ?_
  refine yf_icmp_ge hX dL_most_479 (ya_in rfl) (ya_in rfl) (by decide) ?_
  refine g_const hX dL_most_482 ?_
  refine g_goto hX dL_most_483 ?_
  refine yt_icmp_eq hX dL_most_488 (ya_in rfl) (ya_in rfl) (by decide) ?_
  refine g_iload hX dL_most_493 rfl ?_
  refine g_iload hX dL_most_494 rfl ?_
  refine yt_if_ge hX dL_most_496 (ya_in rfl) (by decide) ?_
  refine g_const hX dL_most_503 ?_
  refine y_iadd (c := 36) hX dL_most_504 (by decide) ?_
  refine g_istore hX dL_most_505 ?_
  dsimp only [List.set]
  refine y_iinc (c := 36) hX dL_most_506 rfl (by decide) ?_
  dsimp only [List.set]
  refine g_goto hX dL_most_509 ?_
  refine g_iload hX dL_most_424 rfl ?_
  refine g_const hX dL_most_425 ?_
  refine yf_icmp_ge hX dL_most_427 (ya_in rfl) (ya_in rfl) (by decide) ?_
  refine g_const hX dL_most_430 ?_
  refine g_aload hX dL_most_432 rfl rfl ?_
  exact mo_g61 hX hst hR hK hH hV (by omega) (by omega)

set_option maxRecDepth 20000 in
theorem mo_g59 {X : hX} (hX : Cok X mL_most) (hst : X.1.2.1.stackTraces = false) {M0 : hM} {sz0 : Nat} {K : hK} (hR : Ret X mL_most M0 sz0 K) (hK : ∀ (M' : hM) (s9 : Nat), K (.inl (some (.int (iZ 1)))) M' s9) {h : Nat} {A : Nat → Nat → Nat} {ow : Nat → Nat × Nat} {τ : Nat → Nat → Int} {M : hM} {sz cs ss : Nat} (hH : HX X.2.2.2.2.2.2.2.2.2 h A ow (ya_TB ymS110) τ M) (hV : SV (ya_TB ymS110)) (hc : cs + 3055 ≤ 5000) (hs : ss + 74760 ≤ 125000) : G X 474 [.ref h, .int (iZ 33), .int (iZ 33), .int (iZ 7), .int (iZ 3)] [] M sz cs ss := by
  refine g_iload hX dL_most_474 rfl ?_
  refine g_iload hX dL_most_476 rfl ?_
  refine g_const hX dL_most_477 ?_
  refine yf_icmp_ge hX dL_most_479 (ya_in rfl) (ya_in rfl) (by decide) ?_
  refine g_const hX dL_most_482 ?_
  refine g_goto hX dL_most_483 ?_
  refine yt_icmp_eq hX dL_most_488 (ya_in rfl) (ya_in rfl) (by decide) ?_
  refine g_iload hX dL_most_493 rfl ?_
  refine g_iload hX dL_most_494 rfl ?_
  refine yt_if_ge hX dL_most_496 (ya_in rfl) (by decide) ?_
  refine g_const hX dL_most_503 ?_
  refine y_iadd (c := 34) hX dL_most_504 (by decide) ?_
  refine g_istore hX dL_most_505 ?_
  dsimp only [List.set]
  refine y_iinc (c := 34) hX dL_most_506 rfl (by decide) ?_
  dsimp only [List.set]
  refine g_goto hX dL_most_509 ?_
  refine g_iload hX dL_most_424 rfl ?_
  refine g_const hX dL_most_425 ?_
  refine yf_icmp_ge hX dL_most_427 (ya_in rfl) (ya_in rfl) (by decide) ?_
  refine g_const hX dL_most_430 ?_
  refine g_aload hX dL_most_432 rfl rfl ?_
  refine g_const hX dL_most_433 ?_
  refine g_const hX dL_most_436 ?_
  refine g_iload hX dL_most_438 rfl ?_
  refine y_imul (c := 340) hX dL_most_439 (by decide) ?_
  refine y_iadd (c := 1940) hX dL_most_440 (by decide) ?_
  refine g_const hX dL_most_441 ?_
  refine g_const hX dL_most_443 ?_
  refine l_weekday hX hst dL_most_444 hH hV (ya_in rfl) (ya_in rfl) (ya_in rfl) yme266 (show cs + 3 ≤ 5000 by omega) (show ss + 18 ≤ 125000 by omega) (by first | exact Nat.le_of_ble_eq_true rfl | simp [cat_rf, Value.category]) (fun A ow τ M sz hH hV => ?_)
  refine y_isub (c := 7) hX dL_most_447 (by decide) ?_
  refine g_const hX dL_most_448 ?_
  refine y_irem (c := 0) hX dL_most_450 (ya_in rfl) (ya_in rfl) (by decide) (by decide) (by decide) ?_
  refine g_const hX dL_most_451 ?_
  refine y_iadd (c := 1) hX dL_most_452 (by decide) ?_
  refine g_istore hX dL_most_453 ?_
  dsimp only [List.set]
  refine g_aload hX dL_most_454 rfl rfl ?_
  refine g_const hX dL_most_455 ?_
  refine g_const hX dL_most_457 ?_
  refine g_const hX dL_most_460 ?_
  refine g_iload hX dL_most_462 rfl ?_
  refine y_imul (c := 340) hX dL_most_463 (by decide) ?_
  refine y_iadd (c := 1940) hX dL_most_464 (by decide) ?_
  refine g_const hX dL_most_465 ?_
  refine g_iload hX dL_most_467 rfl ?_
  refine g_const hX dL_most_468 ?_
  refine l_act hX hst dL_most_469 hH hV (ya_in rfl) (ya_in rfl) (ya_in rfl) (ya_in rfl) (ya_in rfl) yme268 (show cs + 3 + 10 ≤ 5000 by omega) (show ss + 18 + 250 ≤ 125000 by omega) (by first | exact Nat.le_of_ble_eq_true rfl | simp [cat_rf, Value.category]) (fun A ow τ M sz hH hV => ?_)
  refine g_istore hX dL_most_472 ?_
  dsimp only [List.set]
  refine g_iload hX dL_most_474 rfl ?_
  refine g_iload hX dL_most_476 rfl ?_
  refine g_const hX dL_most_477 ?_
  refine yf_icmp_ge hX dL_most_479 (ya_in rfl) (ya_in rfl) (by decide) ?_
  refine g_const hX dL_most_482 ?_
  refine g_goto hX dL_most_483 ?_
  refine yt_icmp_eq hX dL_most_488 (ya_in rfl) (ya_in rfl) (by decide) ?_
  refine g_iload hX dL_most_493 rfl ?_
  refine g_iload hX dL_most_494 rfl ?_
  refine yt_if_ge hX dL_most_496 (ya_in rfl) (by decide) ?_
  refine g_const hX dL_most_503 ?_
  exact mo_g60 hX hst hR hK hH hV (by omega) (by omega)

set_option maxRecDepth 20000 in
theorem mo_g58 {X : hX} (hX : Cok X mL_most) (hst : X.1.2.1.stackTraces = false) {M0 : hM} {sz0 : Nat} {K : hK} (hR : Ret X mL_most M0 sz0 K) (hK : ∀ (M' : hM) (s9 : Nat), K (.inl (some (.int (iZ 1)))) M' s9) {h : Nat} {A : Nat → Nat → Nat} {ow : Nat → Nat × Nat} {τ : Nat → Nat → Int} {M : hM} {sz cs ss : Nat} (hH : HX X.2.2.2.2.2.2.2.2.2 h A ow (ya_TB ymS108) τ M) (hV : SV (ya_TB ymS108)) (hc : cs + 3078 ≤ 5000) (hs : ss + 75278 ≤ 125000) : G X 455 [.ref h, .int (iZ 32), .int (iZ 32), .int (iZ 5), .int (iZ 3)] [.ref h] M sz cs ss := by
  refine g_const hX dL_most_455 ?_
  refine g_const hX dL_most_457 ?_
  refine g_const hX dL_most_460 ?_
  refine g_iload hX dL_most_462 rfl ?_
  refine y_imul (c := 320) hX dL_most_463 (by decide) ?_
  refine y_iadd (c := 1920) hX dL_most_464 (by decide) ?_
  refine g_const hX dL_most_465 ?_
  refine g_iload hX dL_most_467 rfl ?_
  refine g_const hX dL_most_468 ?_
  refine l_act hX hst dL_most_469 hH hV (ya_in rfl) (ya_in rfl) (ya_in rfl) (ya_in rfl) (ya_in rfl) yme262 (show cs + 10 ≤ 5000 by omega) (show ss + 250 ≤ 125000 by omega) (by first | exact Nat.le_of_ble_eq_true rfl | simp [cat_rf, Value.category]) (fun A ow τ M sz hH hV => ?_)
  refine g_istore hX dL_most_472 ?_
  dsimp only [List.set]
  refine g_iload hX dL_most_474 rfl ?_
  refine g_iload hX dL_most_476 rfl ?_
  refine g_const hX dL_most_477 ?_
  refine yf_icmp_ge hX dL_most_479 (ya_in rfl) (ya_in rfl) (by decide) ?_
  refine g_const hX dL_most_482 ?_
  refine g_goto hX dL_most_483 ?_
  refine yt_icmp_eq hX dL_most_488 (ya_in rfl) (ya_in rfl) (by decide) ?_
  refine g_iload hX dL_most_493 rfl ?_
  refine g_iload hX dL_most_494 rfl ?_
  refine yt_if_ge hX dL_most_496 (ya_in rfl) (by decide) ?_
  refine g_const hX dL_most_503 ?_
  refine y_iadd (c := 33) hX dL_most_504 (by decide) ?_
  refine g_istore hX dL_most_505 ?_
  dsimp only [List.set]
  refine y_iinc (c := 33) hX dL_most_506 rfl (by decide) ?_
  dsimp only [List.set]
  refine g_goto hX dL_most_509 ?_
  refine g_iload hX dL_most_424 rfl ?_
  refine g_const hX dL_most_425 ?_
  refine yf_icmp_ge hX dL_most_427 (ya_in rfl) (ya_in rfl) (by decide) ?_
  refine g_const hX dL_most_430 ?_
  refine g_aload hX dL_most_432 rfl rfl ?_
  refine g_const hX dL_most_433 ?_
  refine g_const hX dL_most_436 ?_
  refine g_iload hX dL_most_438 rfl ?_
  refine y_imul (c := 330) hX dL_most_439 (by decide) ?_
  refine y_iadd (c := 1930) hX dL_most_440 (by decide) ?_
  refine g_const hX dL_most_441 ?_
  refine g_const hX dL_most_443 ?_
  refine l_weekday hX hst dL_most_444 hH hV (ya_in rfl) (ya_in rfl) (ya_in rfl) yme263 (show cs + 10 + 3 ≤ 5000 by omega) (show ss + 250 + 18 ≤ 125000 by omega) (by first | exact Nat.le_of_ble_eq_true rfl | simp [cat_rf, Value.category]) (fun A ow τ M sz hH hV => ?_)
  refine y_isub (c := 6) hX dL_most_447 (by decide) ?_
  refine g_const hX dL_most_448 ?_
  refine y_irem (c := 6) hX dL_most_450 (ya_in rfl) (ya_in rfl) (by decide) (by decide) (by decide) ?_
  refine g_const hX dL_most_451 ?_
  refine y_iadd (c := 7) hX dL_most_452 (by decide) ?_
  refine g_istore hX dL_most_453 ?_
  dsimp only [List.set]
  refine g_aload hX dL_most_454 rfl rfl ?_
  refine g_const hX dL_most_455 ?_
  refine g_const hX dL_most_457 ?_
  refine g_const hX dL_most_460 ?_
  refine g_iload hX dL_most_462 rfl ?_
  refine y_imul (c := 330) hX dL_most_463 (by decide) ?_
  refine y_iadd (c := 1930) hX dL_most_464 (by decide) ?_
  refine g_const hX dL_most_465 ?_
  refine g_iload hX dL_most_467 rfl ?_
  refine g_const hX dL_most_468 ?_
  refine l_act hX hst dL_most_469 hH hV (ya_in rfl) (ya_in rfl) (ya_in rfl) (ya_in rfl) (ya_in rfl) yme265 (show cs + 10 + 3 + 10 ≤ 5000 by omega) (show ss + 250 + 18 + 250 ≤ 125000 by omega) (by first | exact Nat.le_of_ble_eq_true rfl | simp [cat_rf, Value.category]) (fun A ow τ M sz hH hV => ?_)
  refine g_istore hX dL_most_472 ?_
  dsimp only [List.set]
  exact mo_g59 hX hst hR hK hH hV (by omega) (by omega)

set_option maxRecDepth 20000 in
theorem mo_g57 {X : hX} (hX : Cok X mL_most) (hst : X.1.2.1.stackTraces = false) {M0 : hM} {sz0 : Nat} {K : hK} (hR : Ret X mL_most M0 sz0 K) (hK : ∀ (M' : hM) (s9 : Nat), K (.inl (some (.int (iZ 1)))) M' s9) {h : Nat} {A : Nat → Nat → Nat} {ow : Nat → Nat × Nat} {τ : Nat → Nat → Int} {M : hM} {sz cs ss : Nat} (hH : HX X.2.2.2.2.2.2.2.2.2 h A ow (ya_TB ymS107) τ M) (hV : SV (ya_TB ymS107)) (hc : cs + 3094 ≤ 5000) (hs : ss + 75564 ≤ 125000) : G X 441 [.ref h, .int (iZ 31), .int (iZ 31), .int (iZ 2), .int (iZ 3)] [.int (iZ 1910), .ref h, .int (iZ 7)] M sz cs ss := by
  refine g_const hX dL_most_441 ?_
  refine g_const hX dL_most_443 ?_
  refine l_weekday hX hst dL_most_444 hH hV (ya_in rfl) (ya_in rfl) (ya_in rfl) yme257 (show cs + 3 ≤ 5000 by omega) (show ss + 18 ≤ 125000 by omega) (by first | exact Nat.le_of_ble_eq_true rfl | simp [cat_rf, Value.category]) (fun A ow τ M sz hH hV => ?_)
  refine y_isub (c := 3) hX dL_most_447 (by decide) ?_
  refine g_const hX dL_most_448 ?_
  refine y_irem (c := 3) hX dL_most_450 (ya_in rfl) (ya_in rfl) (by decide) (by decide) (by decide) ?_
  refine g_const hX dL_most_451 ?_
  refine y_iadd (c := 4) hX dL_most_452 (by decide) ?_
  refine g_istore hX dL_most_453 ?_
  dsimp only [List.set]
  refine g_aload hX dL_most_454 rfl rfl ?_
  refine g_const hX dL_most_455 ?_
  refine g_const hX dL_most_457 ?_
  refine g_const hX dL_most_460 ?_
  refine g_iload hX dL_most_462 rfl ?_
  refine y_imul (c := 310) hX dL_most_463 (by decide) ?_
  refine y_iadd (c := 1910) hX dL_most_464 (by decide) ?_
  refine g_const hX dL_most_465 ?_
  refine g_iload hX dL_most_467 rfl ?_
  refine g_const hX dL_most_468 ?_
  refine l_act hX hst dL_most_469 hH hV (ya_in rfl) (ya_in rfl) (ya_in rfl) (ya_in rfl) (ya_in rfl) yme259 (show cs + 3 + 10 ≤ 5000 by omega) (show ss + 18 + 250 ≤ 125000 by omega) (by first | exact Nat.le_of_ble_eq_true rfl | simp [cat_rf, Value.category]) (fun A ow τ M sz hH hV => ?_)
  refine g_istore hX dL_most_472 ?_
  dsimp only [List.set]
  refine g_iload hX dL_most_474 rfl ?_
  refine g_iload hX dL_most_476 rfl ?_
  refine g_const hX dL_most_477 ?_
  refine yf_icmp_ge hX dL_most_479 (ya_in rfl) (ya_in rfl) (by decide) ?_
  refine g_const hX dL_most_482 ?_
  refine g_goto hX dL_most_483 ?_
  refine yt_icmp_eq hX dL_most_488 (ya_in rfl) (ya_in rfl) (by decide) ?_
  refine g_iload hX dL_most_493 rfl ?_
  refine g_iload hX dL_most_494 rfl ?_
  refine yt_if_ge hX dL_most_496 (ya_in rfl) (by decide) ?_
  refine g_const hX dL_most_503 ?_
  refine y_iadd (c := 32) hX dL_most_504 (by decide) ?_
  refine g_istore hX dL_most_505 ?_
  dsimp only [List.set]
  refine y_iinc (c := 32) hX dL_most_506 rfl (by decide) ?_
  dsimp only [List.set]
  refine g_goto hX dL_most_509 ?_
  refine g_iload hX dL_most_424 rfl ?_
  refine g_const hX dL_most_425 ?_
  refine yf_icmp_ge hX dL_most_427 (ya_in rfl) (ya_in rfl) (by decide) ?_
  refine g_const hX dL_most_430 ?_
  refine g_aload hX dL_most_432 rfl rfl ?_
  refine g_const hX dL_most_433 ?_
  refine g_const hX dL_most_436 ?_
  refine g_iload hX dL_most_438 rfl ?_
  refine y_imul (c := 320) hX dL_most_439 (by decide) ?_
  refine y_iadd (c := 1920) hX dL_most_440 (by decide) ?_
  refine g_const hX dL_most_441 ?_
  refine g_const hX dL_most_443 ?_
  refine l_weekday hX hst dL_most_444 hH hV (ya_in rfl) (ya_in rfl) (ya_in rfl) yme260 (show cs + 3 + 10 + 3 ≤ 5000 by omega) (show ss + 18 + 250 + 18 ≤ 125000 by omega) (by first | exact Nat.le_of_ble_eq_true rfl | simp [cat_rf, Value.category]) (fun A ow τ M sz hH hV => ?_)
  refine y_isub (c := 4) hX dL_most_447 (by decide) ?_
  refine g_const hX dL_most_448 ?_
  refine y_irem (c := 4) hX dL_most_450 (ya_in rfl) (ya_in rfl) (by decide) (by decide) (by decide) ?_
  refine g_const hX dL_most_451 ?_
  refine y_iadd (c := 5) hX dL_most_452 (by decide) ?_
  refine g_istore hX dL_most_453 ?_
  dsimp only [List.set]
  refine g_aload hX dL_most_454 rfl rfl ?_
  exact mo_g58 hX hst hR hK hH hV (by omega) (by omega)

set_option maxRecDepth 20000 in
theorem mo_g56 {X : hX} (hX : Cok X mL_most) (hst : X.1.2.1.stackTraces = false) {M0 : hM} {sz0 : Nat} {K : hK} (hR : Ret X mL_most M0 sz0 K) (hK : ∀ (M' : hM) (s9 : Nat), K (.inl (some (.int (iZ 1)))) M' s9) {h : Nat} {A : Nat → Nat → Nat} {ow : Nat → Nat × Nat} {τ : Nat → Nat → Int} {M : hM} {sz cs ss : Nat} (hH : HX X.2.2.2.2.2.2.2.2.2 h A ow (ya_TB ymS106) τ M) (hV : SV (ya_TB ymS106)) (hc : cs + 3107 ≤ 5000) (hs : ss + 75832 ≤ 125000) : G X 509 [.ref h, .int (iZ 30), .int (iZ 30), .int (iZ 7), .int (iZ 3)] [] M sz cs ss := by
  refine g_goto hX dL_most_509 ?_
  refine g_iload hX dL_most_424 rfl ?_
  refine g_const hX dL_most_425 ?_
  refine yf_icmp_ge hX dL_most_427 (ya_in rfl) (ya_in rfl) (by decide) ?_
  refine g_const hX dL_most_430 ?_
  refine g_aload hX dL_most_432 rfl rfl ?_
  refine g_const hX dL_most_433 ?_
  refine g_const hX dL_most_436 ?_
  refine g_iload hX dL_most_438 rfl ?_
  refine y_imul (c := 300) hX dL_most_439 (by decide) ?_
  refine y_iadd (c := 1900) hX dL_most_440 (by decide) ?_
  refine g_const hX dL_most_441 ?_
  refine g_const hX dL_most_443 ?_
  refine l_weekday hX hst dL_most_444 hH hV (ya_in rfl) (ya_in rfl) (ya_in rfl) yme254 (show cs + 3 ≤ 5000 by omega) (show ss + 18 ≤ 125000 by omega) (by first | exact Nat.le_of_ble_eq_true rfl | simp [cat_rf, Value.category]) (fun A ow τ M sz hH hV => ?_)
  refine y_isub (c := 1) hX dL_most_447 (by decide) ?_
  refine g_const hX dL_most_448 ?_
  refine y_irem (c := 1) hX dL_most_450 (ya_in rfl) (ya_in rfl) (by decide) (by decide) (by decide) ?_
  refine g_const hX dL_most_451 ?_
  refine y_iadd (c := 2) hX dL_most_452 (by decide) ?_
  refine g_istore hX dL_most_453 ?_
  dsimp only [List.set]
  refine g_aload hX dL_most_454 rfl rfl ?_
  refine g_const hX dL_most_455 ?_
  refine g_const hX dL_most_457 ?_
  refine g_const hX dL_most_460 ?_
  refine g_iload hX dL_most_462 rfl ?_
  refine y_imul (c := 300) hX dL_most_463 (by decide) ?_
  refine y_iadd (c := 1900) hX dL_most_464 (by decide) ?_
  refine g_const hX dL_most_465 ?_
  refine g_iload hX dL_most_467 rfl ?_
  refine g_const hX dL_most_468 ?_
  refine l_act hX hst dL_most_469 hH hV (ya_in rfl) (ya_in rfl) (ya_in rfl) (ya_in rfl) (ya_in rfl) yme256 (show cs + 3 + 10 ≤ 5000 by omega) (show ss + 18 + 250 ≤ 125000 by omega) (by first | exact Nat.le_of_ble_eq_true rfl | simp [cat_rf, Value.category]) (fun A ow τ M sz hH hV => ?_)
  refine g_istore hX dL_most_472 ?_
  dsimp only [List.set]
  refine g_iload hX dL_most_474 rfl ?_
  refine g_iload hX dL_most_476 rfl ?_
  refine g_const hX dL_most_477 ?_
  refine yf_icmp_ge hX dL_most_479 (ya_in rfl) (ya_in rfl) (by decide) ?_
  refine g_const hX dL_most_482 ?_
  refine g_goto hX dL_most_483 ?_
  refine yt_icmp_eq hX dL_most_488 (ya_in rfl) (ya_in rfl) (by decide) ?_
  refine g_iload hX dL_most_493 rfl ?_
  refine g_iload hX dL_most_494 rfl ?_
  refine yt_if_ge hX dL_most_496 (ya_in rfl) (by decide) ?_
  refine g_const hX dL_most_503 ?_
  refine y_iadd (c := 31) hX dL_most_504 (by decide) ?_
  refine g_istore hX dL_most_505 ?_
  dsimp only [List.set]
  refine y_iinc (c := 31) hX dL_most_506 rfl (by decide) ?_
  dsimp only [List.set]
  refine g_goto hX dL_most_509 ?_
  refine g_iload hX dL_most_424 rfl ?_
  refine g_const hX dL_most_425 ?_
  refine yf_icmp_ge hX dL_most_427 (ya_in rfl) (ya_in rfl) (by decide) ?_
  refine g_const hX dL_most_430 ?_
  refine g_aload hX dL_most_432 rfl rfl ?_
  refine g_const hX dL_most_433 ?_
  refine g_const hX dL_most_436 ?_
  refine g_iload hX dL_most_438 rfl ?_
  refine y_imul (c := 310) hX dL_most_439 (by decide) ?_
  refine y_iadd (c := 1910) hX dL_most_440 (by decide) ?_
  exact mo_g57 hX hst hR hK hH hV (by omega) (by omega)

set_option maxRecDepth 20000 in
theorem mo_g55 {X : hX} (hX : Cok X mL_most) (hst : X.1.2.1.stackTraces = false) {M0 : hM} {sz0 : Nat} {K : hK} (hR : Ret X mL_most M0 sz0 K) (hK : ∀ (M' : hM) (s9 : Nat), K (.inl (some (.int (iZ 1)))) M' s9) {h : Nat} {A : Nat → Nat → Nat} {ow : Nat → Nat × Nat} {τ : Nat → Nat → Int} {M : hM} {sz cs ss : Nat} (hH : HX X.2.2.2.2.2.2.2.2.2 h A ow (ya_TB ymS105) τ M) (hV : SV (ya_TB ymS105)) (hc : cs + 3120 ≤ 5000) (hs : ss + 76100 ≤ 125000) : G X 483 [.ref h, .int (iZ 28), .int (iZ 28), .int (iZ 5), .int (iZ 3)] [.int (iZ 3), .int (iZ 3)] M sz cs ss := by
  refine g_goto hX dL_most_483 ?_
  refine yt_icmp_eq hX dL_most_488 (ya_in rfl) (ya_in rfl) (by decide) ?_
  refine g_iload hX dL_most_493 rfl ?_
  refine g_iload hX dL_most_494 rfl ?_
  refine yt_if_ge hX dL_most_496 (ya_in rfl) (by decide) ?_
  refine g_const hX dL_most_503 ?_
  refine y_iadd (c := 29) hX dL_most_504 (by decide) ?_
  refine g_istore hX dL_most_505 ?_
  dsimp only [List.set]
  refine y_iinc (c := 29) hX dL_most_506 rfl (by decide) ?_
  dsimp only [List.set]
  refine g_goto hX dL_most_509 ?_
  refine g_iload hX dL_most_424 rfl ?_
  refine g_const hX dL_most_425 ?_
  refine yf_icmp_ge hX dL_most_427 (ya_in rfl) (ya_in rfl) (by decide) ?_
  refine g_const hX dL_most_430 ?_
  refine g_aload hX dL_most_432 rfl rfl ?_
  refine g_const hX dL_most_433 ?_
  refine g_const hX dL_most_436 ?_
  refine g_iload hX dL_most_438 rfl ?_
  refine y_imul (c := 290) hX dL_most_439 (by decide) ?_
  refine y_iadd (c := 1890) hX dL_most_440 (by decide) ?_
  refine g_const hX dL_most_441 ?_
  refine g_const hX dL_most_443 ?_
  refine l_weekday hX hst dL_most_444 hH hV (ya_in rfl) (ya_in rfl) (ya_in rfl) yme251 (show cs + 3 ≤ 5000 by omega) (show ss + 18 ≤ 125000 by omega) (by first | exact Nat.le_of_ble_eq_true rfl | simp [cat_rf, Value.category]) (fun A ow τ M sz hH hV => ?_)
  refine y_isub (c := 6) hX dL_most_447 (by decide) ?_
  refine g_const hX dL_most_448 ?_
  refine y_irem (c := 6) hX dL_most_450 (ya_in rfl) (ya_in rfl) (by decide) (by decide) (by decide) ?_
  refine g_const hX dL_most_451 ?_
  refine y_iadd (c := 7) hX dL_most_452 (by decide) ?_
  refine g_istore hX dL_most_453 ?_
  dsimp only [List.set]
  refine g_aload hX dL_most_454 rfl rfl ?_
  refine g_const hX dL_most_455 ?_
  refine g_const hX dL_most_457 ?_
  refine g_const hX dL_most_460 ?_
  refine g_iload hX dL_most_462 rfl ?_
  refine y_imul (c := 290) hX dL_most_463 (by decide) ?_
  refine y_iadd (c := 1890) hX dL_most_464 (by decide) ?_
  refine g_const hX dL_most_465 ?_
  refine g_iload hX dL_most_467 rfl ?_
  refine g_const hX dL_most_468 ?_
  refine l_act hX hst dL_most_469 hH hV (ya_in rfl) (ya_in rfl) (ya_in rfl) (ya_in rfl) (ya_in rfl) yme253 (show cs + 3 + 10 ≤ 5000 by omega) (show ss + 18 + 250 ≤ 125000 by omega) (by first | exact Nat.le_of_ble_eq_true rfl | simp [cat_rf, Value.category]) (fun A ow τ M sz hH hV => ?_)
  refine g_istore hX dL_most_472 ?_
  dsimp only [List.set]
  refine g_iload hX dL_most_474 rfl ?_
  refine g_iload hX dL_most_476 rfl ?_
  refine g_const hX dL_most_477 ?_
  refine yf_icmp_ge hX dL_most_479 (ya_in rfl) (ya_in rfl) (by decide) ?_
  refine g_const hX dL_most_482 ?_
  refine g_goto hX dL_most_483 ?_
  refine yt_icmp_eq hX dL_most_488 (ya_in rfl) (ya_in rfl) (by decide) ?_
  refine g_iload hX dL_most_493 rfl ?_
  refine g_iload hX dL_most_494 rfl ?_
  refine yt_if_ge hX dL_most_496 (ya_in rfl) (by decide) ?_
  refine g_const hX dL_most_503 ?_
  refine y_iadd (c := 30) hX dL_most_504 (by decide) ?_
  refine g_istore hX dL_most_505 ?_
  dsimp only [List.set]
  refine y_iinc (c := 30) hX dL_most_506 rfl (by decide) ?_
  dsimp only [List.set]
  exact mo_g56 hX hst hR hK hH hV (by omega) (by omega)

set_option maxRecDepth 20000 in
theorem mo_g54 {X : hX} (hX : Cok X mL_most) (hst : X.1.2.1.stackTraces = false) {M0 : hM} {sz0 : Nat} {K : hK} (hR : Ret X mL_most M0 sz0 K) (hK : ∀ (M' : hM) (s9 : Nat), K (.inl (some (.int (iZ 1)))) M' s9) {h : Nat} {A : Nat → Nat → Nat} {ow : Nat → Nat × Nat} {τ : Nat → Nat → Int} {M : hM} {sz cs ss : Nat} (hH : HX X.2.2.2.2.2.2.2.2.2 h A ow (ya_TB ymS103) τ M) (hV : SV (ya_TB ymS103)) (hc : cs + 3143 ≤ 5000) (hs : ss + 76618 ≤ 125000) : G X 465 [.ref h, .int (iZ 27), .int (iZ 27), .int (iZ 4), .int (iZ 3)] [.int (iZ 1870), .int (iZ 23), .ref h] M sz cs ss := by
  refine g_const hX dL_most_465 ?_
  refine g_iload hX dL_most_467 rfl ?_
  refine g_const hX dL_most_468 ?_
  refine l_act hX hst dL_most_469 hH hV (ya_in rfl) (ya_in rfl) (ya_in rfl) (ya_in rfl) (ya_in rfl) yme247 (show cs + 10 ≤ 5000 by omega) (show ss + 250 ≤ 125000 by omega) (by first | exact Nat.le_of_ble_eq_true rfl | simp [cat_rf, Value.category]) (fun A ow τ M sz hH hV => ?_)
  refine g_istore hX dL_most_472 ?_
  dsimp only [List.set]
  refine g_iload hX dL_most_474 rfl ?_
  refine g_iload hX dL_most_476 rfl ?_
  refine g_const hX dL_most_477 ?_
  refine yf_icmp_ge hX dL_most_479 (ya_in rfl) (ya_in rfl) (by decide) ?_
  refine g_const hX dL_most_482 ?_
  refine g_goto hX dL_most_483 ?_
  refine yt_icmp_eq hX dL_most_488 (ya_in rfl) (ya_in rfl) (by decide) ?_
  refine g_iload hX dL_most_493 rfl ?_
  refine g_iload hX dL_most_494 rfl ?_
  refine yt_if_ge hX dL_most_496 (ya_in rfl) (by decide) ?_
  refine g_const hX dL_most_503 ?_
  refine y_iadd (c := 28) hX dL_most_504 (by decide) ?_
  refine g_istore hX dL_most_505 ?_
  dsimp only [List.set]
  refine y_iinc (c := 28) hX dL_most_506 rfl (by decide) ?_
  dsimp only [List.set]
  refine g_goto hX dL_most_509 ?_
  refine g_iload hX dL_most_424 rfl ?_
  refine g_const hX dL_most_425 ?_
  refine yf_icmp_ge hX dL_most_427 (ya_in rfl) (ya_in rfl) (by decide) ?_
  refine g_const hX dL_most_430 ?_
  refine g_aload hX dL_most_432 rfl rfl ?_
  refine g_const hX dL_most_433 ?_
  refine g_const hX dL_most_436 ?_
  refine g_iload hX dL_most_438 rfl ?_
  refine y_imul (c := 280) hX dL_most_439 (by decide) ?_
  refine y_iadd (c := 1880) hX dL_most_440 (by decide) ?_
  refine g_const hX dL_most_441 ?_
  refine g_const hX dL_most_443 ?_
  refine l_weekday hX hst dL_most_444 hH hV (ya_in rfl) (ya_in rfl) (ya_in rfl) yme248 (show cs + 10 + 3 ≤ 5000 by omega) (show ss + 250 + 18 ≤ 125000 by omega) (by first | exact Nat.le_of_ble_eq_true rfl | simp [cat_rf, Value.category]) (fun A ow τ M sz hH hV => ?_)
  refine y_isub (c := 4) hX dL_most_447 (by decide) ?_
  refine g_const hX dL_most_448 ?_
  refine y_irem (c := 4) hX dL_most_450 (ya_in rfl) (ya_in rfl) (by decide) (by decide) (by decide) ?_
  refine g_const hX dL_most_451 ?_
  refine y_iadd (c := 5) hX dL_most_452 (by decide) ?_
  refine g_istore hX dL_most_453 ?_
  dsimp only [List.set]
  refine g_aload hX dL_most_454 rfl rfl ?_
  refine g_const hX dL_most_455 ?_
  refine g_const hX dL_most_457 ?_
  refine g_const hX dL_most_460 ?_
  refine g_iload hX dL_most_462 rfl ?_
  refine y_imul (c := 280) hX dL_most_463 (by decide) ?_
  refine y_iadd (c := 1880) hX dL_most_464 (by decide) ?_
  refine g_const hX dL_most_465 ?_
  refine g_iload hX dL_most_467 rfl ?_
  refine g_const hX dL_most_468 ?_
  refine l_act hX hst dL_most_469 hH hV (ya_in rfl) (ya_in rfl) (ya_in rfl) (ya_in rfl) (ya_in rfl) yme250 (show cs + 10 + 3 + 10 ≤ 5000 by omega) (show ss + 250 + 18 + 250 ≤ 125000 by omega) (by first | exact Nat.le_of_ble_eq_true rfl | simp [cat_rf, Value.category]) (fun A ow τ M sz hH hV => ?_)
  refine g_istore hX dL_most_472 ?_
  dsimp only [List.set]
  refine g_iload hX dL_most_474 rfl ?_
  refine g_iload hX dL_most_476 rfl ?_
  refine g_const hX dL_most_477 ?_
  refine yf_icmp_ge hX dL_most_479 (ya_in rfl) (ya_in rfl) (by decide) ?_
  refine g_const hX dL_most_482 ?_
  exact mo_g55 hX hst hR hK hH hV (by omega) (by omega)

set_option maxRecDepth 20000 in
theorem mo_g53 {X : hX} (hX : Cok X mL_most) (hst : X.1.2.1.stackTraces = false) {M0 : hM} {sz0 : Nat} {K : hK} (hR : Ret X mL_most M0 sz0 K) (hK : ∀ (M' : hM) (s9 : Nat), K (.inl (some (.int (iZ 1)))) M' s9) {h : Nat} {A : Nat → Nat → Nat} {ow : Nat → Nat × Nat} {τ : Nat → Nat → Int} {M : hM} {sz cs ss : Nat} (hH : HX X.2.2.2.2.2.2.2.2.2 h A ow (ya_TB ymS102) τ M) (hV : SV (ya_TB ymS102)) (hc : cs + 3156 ≤ 5000) (hs : ss + 76886 ≤ 125000) : G X 451 [.ref h, .int (iZ 26), .int (iZ 26), .int (iZ 1), .int (iZ 3)] [.int (iZ 1)] M sz cs ss := by
  refine g_const hX dL_most_451 ?_
  refine y_iadd (c := 2) hX dL_most_452 (by decide) ?_
  refine g_istore hX dL_most_453 ?_
  dsimp only [List.set]
  refine g_aload hX dL_most_454 rfl rfl ?_
  refine g_const hX dL_most_455 ?_
  refine g_const hX dL_most_457 ?_
  refine g_const hX dL_most_460 ?_
  refine g_iload hX dL_most_462 rfl ?_
  refine y_imul (c := 260) hX dL_most_463 (by decide) ?_
  refine y_iadd (c := 1860) hX dL_most_464 (by decide) ?_
  refine g_const hX dL_most_465 ?_
  refine g_iload hX dL_most_467 rfl ?_
  refine g_const hX dL_most_468 ?_
  refine l_act hX hst dL_most_469 hH hV (ya_in rfl) (ya_in rfl) (ya_in rfl) (ya_in rfl) (ya_in rfl) yme244 (show cs + 10 ≤ 5000 by omega) (show ss + 250 ≤ 125000 by omega) (by first | exact Nat.le_of_ble_eq_true rfl | simp [cat_rf, Value.category]) (fun A ow τ M sz hH hV => ?_)
  refine g_istore hX dL_most_472 ?_
  dsimp only [List.set]
  refine g_iload hX dL_most_474 rfl ?_
  refine g_iload hX dL_most_476 rfl ?_
  refine g_const hX dL_most_477 ?_
  refine yf_icmp_ge hX dL_most_479 (ya_in rfl) (ya_in rfl) (by decide) ?_
  refine g_const hX dL_most_482 ?_
  refine g_goto hX dL_most_483 ?_
  refine yt_icmp_eq hX dL_most_488 (ya_in rfl) (ya_in rfl) (by decide) ?_
  refine g_iload hX dL_most_493 rfl ?_
  refine g_iload hX dL_most_494 rfl ?_
  refine yt_if_ge hX dL_most_496 (ya_in rfl) (by decide) ?_
  refine g_const hX dL_most_503 ?_
  refine y_iadd (c := 27) hX dL_most_504 (by decide) ?_
  refine g_istore hX dL_most_505 ?_
  dsimp only [List.set]
  refine y_iinc (c := 27) hX dL_most_506 rfl (by decide) ?_
  dsimp only [List.set]
  refine g_goto hX dL_most_509 ?_
  refine g_iload hX dL_most_424 rfl ?_
  refine g_const hX dL_most_425 ?_
  refine yf_icmp_ge hX dL_most_427 (ya_in rfl) (ya_in rfl) (by decide) ?_
  refine g_const hX dL_most_430 ?_
  refine g_aload hX dL_most_432 rfl rfl ?_
  refine g_const hX dL_most_433 ?_
  refine g_const hX dL_most_436 ?_
  refine g_iload hX dL_most_438 rfl ?_
  refine y_imul (c := 270) hX dL_most_439 (by decide) ?_
  refine y_iadd (c := 1870) hX dL_most_440 (by decide) ?_
  refine g_const hX dL_most_441 ?_
  refine g_const hX dL_most_443 ?_
  refine l_weekday hX hst dL_most_444 hH hV (ya_in rfl) (ya_in rfl) (ya_in rfl) yme245 (show cs + 10 + 3 ≤ 5000 by omega) (show ss + 250 + 18 ≤ 125000 by omega) (by first | exact Nat.le_of_ble_eq_true rfl | simp [cat_rf, Value.category]) (fun A ow τ M sz hH hV => ?_)
  refine y_isub (c := 3) hX dL_most_447 (by decide) ?_
  refine g_const hX dL_most_448 ?_
  refine y_irem (c := 3) hX dL_most_450 (ya_in rfl) (ya_in rfl) (by decide) (by decide) (by decide) ?_
  refine g_const hX dL_most_451 ?_
  refine y_iadd (c := 4) hX dL_most_452 (by decide) ?_
  refine g_istore hX dL_most_453 ?_
  dsimp only [List.set]
  refine g_aload hX dL_most_454 rfl rfl ?_
  refine g_const hX dL_most_455 ?_
  refine g_const hX dL_most_457 ?_
  refine g_const hX dL_most_460 ?_
  refine g_iload hX dL_most_462 rfl ?_
  refine y_imul (c := 270) hX dL_most_463 (by decide) ?_
  refine y_iadd (c := 1870) hX dL_most_464 (by decide) ?_
  exact mo_g54 hX hst hR hK hH hV (by omega) (by omega)

set_option maxRecDepth 20000 in
theorem mo_g52 {X : hX} (hX : Cok X mL_most) (hst : X.1.2.1.stackTraces = false) {M0 : hM} {sz0 : Nat} {K : hK} (hR : Ret X mL_most M0 sz0 K) (hK : ∀ (M' : hM) (s9 : Nat), K (.inl (some (.int (iZ 1)))) M' s9) {h : Nat} {A : Nat → Nat → Nat} {ow : Nat → Nat × Nat} {τ : Nat → Nat → Int} {M : hM} {sz cs ss : Nat} (hH : HX X.2.2.2.2.2.2.2.2.2 h A ow (ya_TB ymS101) τ M) (hV : SV (ya_TB ymS101)) (hc : cs + 3172 ≤ 5000) (hs : ss + 77172 ≤ 125000) : G X 433 [.ref h, .int (iZ 25), .int (iZ 25), .int (iZ 6), .int (iZ 3)] [.ref h, .int (iZ 7)] M sz cs ss := by
  refine g_const hX dL_most_433 ?_
  refine g_const hX dL_most_436 ?_
  refine g_iload hX dL_most_438 rfl ?_
  refine y_imul (c := 250) hX dL_most_439 (by decide) ?_
  refine y_iadd (c := 1850) hX dL_most_440 (by decide) ?_
  refine g_const hX dL_most_441 ?_
  refine g_const hX dL_most_443 ?_
  refine l_weekday hX hst dL_most_444 hH hV (ya_in rfl) (ya_in rfl) (ya_in rfl) yme239 (show cs + 3 ≤ 5000 by omega) (show ss + 18 ≤ 125000 by omega) (by first | exact Nat.le_of_ble_eq_true rfl | simp [cat_rf, Value.category]) (fun A ow τ M sz hH hV => ?_)
  refine y_isub (c := 7) hX dL_most_447 (by decide) ?_
  refine g_const hX dL_most_448 ?_
  refine y_irem (c := 0) hX dL_most_450 (ya_in rfl) (ya_in rfl) (by decide) (by decide) (by decide) ?_
  refine g_const hX dL_most_451 ?_
  refine y_iadd (c := 1) hX dL_most_452 (by decide) ?_
  refine g_istore hX dL_most_453 ?_
  dsimp only [List.set]
  refine g_aload hX dL_most_454 rfl rfl ?_
  refine g_const hX dL_most_455 ?_
  refine g_const hX dL_most_457 ?_
  refine g_const hX dL_most_460 ?_
  refine g_iload hX dL_most_462 rfl ?_
  refine y_imul (c := 250) hX dL_most_463 (by decide) ?_
  refine y_iadd (c := 1850) hX dL_most_464 (by decide) ?_
  refine g_const hX dL_most_465 ?_
  refine g_iload hX dL_most_467 rfl ?_
  refine g_const hX dL_most_468 ?_
  refine l_act hX hst dL_most_469 hH hV (ya_in rfl) (ya_in rfl) (ya_in rfl) (ya_in rfl) (ya_in rfl) yme241 (show cs + 3 + 10 ≤ 5000 by omega) (show ss + 18 + 250 ≤ 125000 by omega) (by first | exact Nat.le_of_ble_eq_true rfl | simp [cat_rf, Value.category]) (fun A ow τ M sz hH hV => ?_)
  refine g_istore hX dL_most_472 ?_
  dsimp only [List.set]
  refine g_iload hX dL_most_474 rfl ?_
  refine g_iload hX dL_most_476 rfl ?_
  refine g_const hX dL_most_477 ?_
  refine yf_icmp_ge hX dL_most_479 (ya_in rfl) (ya_in rfl) (by decide) ?_
  refine g_const hX dL_most_482 ?_
  refine g_goto hX dL_most_483 ?_
  refine yt_icmp_eq hX dL_most_488 (ya_in rfl) (ya_in rfl) (by decide) ?_
  refine g_iload hX dL_most_493 rfl ?_
  refine g_iload hX dL_most_494 rfl ?_
  refine yt_if_ge hX dL_most_496 (ya_in rfl) (by decide) ?_
  refine g_const hX dL_most_503 ?_
  refine y_iadd (c := 26) hX dL_most_504 (by decide) ?_
  refine g_istore hX dL_most_505 ?_
  dsimp only [List.set]
  refine y_iinc (c := 26) hX dL_most_506 rfl (by decide) ?_
  dsimp only [List.set]
  refine g_goto hX dL_most_509 ?_
  refine g_iload hX dL_most_424 rfl ?_
  refine g_const hX dL_most_425 ?_
  refine yf_icmp_ge hX dL_most_427 (ya_in rfl) (ya_in rfl) (by decide) ?_
  refine g_const hX dL_most_430 ?_
  refine g_aload hX dL_most_432 rfl rfl ?_
  refine g_const hX dL_most_433 ?_
  refine g_const hX dL_most_436 ?_
  refine g_iload hX dL_most_438 rfl ?_
  refine y_imul (c := 260) hX dL_most_439 (by decide) ?_
  refine y_iadd (c := 1860) hX dL_most_440 (by decide) ?_
  refine g_const hX dL_most_441 ?_
  refine g_const hX dL_most_443 ?_
  refine l_weekday hX hst dL_most_444 hH hV (ya_in rfl) (ya_in rfl) (ya_in rfl) yme242 (show cs + 3 + 10 + 3 ≤ 5000 by omega) (show ss + 18 + 250 + 18 ≤ 125000 by omega) (by first | exact Nat.le_of_ble_eq_true rfl | simp [cat_rf, Value.category]) (fun A ow τ M sz hH hV => ?_)
  refine y_isub (c := 1) hX dL_most_447 (by decide) ?_
  refine g_const hX dL_most_448 ?_
  refine y_irem (c := 1) hX dL_most_450 (ya_in rfl) (ya_in rfl) (by decide) (by decide) (by decide) ?_
  exact mo_g53 hX hst hR hK hH hV (by omega) (by omega)

set_option maxRecDepth 20000 in
theorem mo_g51 {X : hX} (hX : Cok X mL_most) (hst : X.1.2.1.stackTraces = false) {M0 : hM} {sz0 : Nat} {K : hK} (hR : Ret X mL_most M0 sz0 K) (hK : ∀ (M' : hM) (s9 : Nat), K (.inl (some (.int (iZ 1)))) M' s9) {h : Nat} {A : Nat → Nat → Nat} {ow : Nat → Nat × Nat} {τ : Nat → Nat → Int} {M : hM} {sz cs ss : Nat} (hH : HX X.2.2.2.2.2.2.2.2.2 h A ow (ya_TB ymS100) τ M) (hV : SV (ya_TB ymS100)) (hc : cs + 3185 ≤ 5000) (hs : ss + 77440 ≤ 125000) : G X 504 [.ref h, .int (iZ 23), .int (iZ 23), .int (iZ 5), .int (iZ 3)] [.int (iZ 1), .int (iZ 23)] M sz cs ss := by
  refine y_iadd (c := 24) hX dL_most_504 (by decide) ?_
  refine g_istore hX dL_most_505 ?_
  dsimp only [List.set]
  refine y_iinc (c := 24) hX dL_most_506 rfl (by decide) ?_
  dsimp only [List.set]
  refine g_goto hX dL_most_509 ?_
  refine g_iload hX dL_most_424 rfl ?_
  refine g_const hX dL_most_425 ?_
  refine yf_icmp_ge hX dL_most_427 (ya_in rfl) (ya_in rfl) (by decide) ?_
  refine g_const hX dL_most_430 ?_
  refine g_aload hX dL_most_432 rfl rfl ?_
  refine g_const hX dL_most_433 ?_
  refine g_const hX dL_most_436 ?_
  refine g_iload hX dL_most_438 rfl ?_
  refine y_imul (c := 240) hX dL_most_439 (by decide) ?_
  refine y_iadd (c := 1840) hX dL_most_440 (by decide) ?_
  refine g_const hX dL_most_441 ?_
  refine g_const hX dL_most_443 ?_
  refine l_weekday hX hst dL_most_444 hH hV (ya_in rfl) (ya_in rfl) (ya_in rfl) yme236 (show cs + 3 ≤ 5000 by omega) (show ss + 18 ≤ 125000 by omega) (by first | exact Nat.le_of_ble_eq_true rfl | simp [cat_rf, Value.category]) (fun A ow τ M sz hH hV => ?_)
  refine y_isub (c := 5) hX dL_most_447 (by decide) ?_
  refine g_const hX dL_most_448 ?_
  refine y_irem (c := 5) hX dL_most_450 (ya_in rfl) (ya_in rfl) (by decide) (by decide) (by decide) ?_
  refine g_const hX dL_most_451 ?_
  refine y_iadd (c := 6) hX dL_most_452 (by decide) ?_
  refine g_istore hX dL_most_453 ?_
  dsimp only [List.set]
  refine g_aload hX dL_most_454 rfl rfl ?_
  refine g_const hX dL_most_455 ?_
  refine g_const hX dL_most_457 ?_
  refine g_const hX dL_most_460 ?_
  refine g_iload hX dL_most_462 rfl ?_
  refine y_imul (c := 240) hX dL_most_463 (by decide) ?_
  refine y_iadd (c := 1840) hX dL_most_464 (by decide) ?_
  refine g_const hX dL_most_465 ?_
  refine g_iload hX dL_most_467 rfl ?_
  refine g_const hX dL_most_468 ?_
  refine l_act hX hst dL_most_469 hH hV (ya_in rfl) (ya_in rfl) (ya_in rfl) (ya_in rfl) (ya_in rfl) yme238 (show cs + 3 + 10 ≤ 5000 by omega) (show ss + 18 + 250 ≤ 125000 by omega) (by first | exact Nat.le_of_ble_eq_true rfl | simp [cat_rf, Value.category]) (fun A ow τ M sz hH hV => ?_)
  refine g_istore hX dL_most_472 ?_
  dsimp only [List.set]
  refine g_iload hX dL_most_474 rfl ?_
  refine g_iload hX dL_most_476 rfl ?_
  refine g_const hX dL_most_477 ?_
  refine yf_icmp_ge hX dL_most_479 (ya_in rfl) (ya_in rfl) (by decide) ?_
  refine g_const hX dL_most_482 ?_
  refine g_goto hX dL_most_483 ?_
  refine yt_icmp_eq hX dL_most_488 (ya_in rfl) (ya_in rfl) (by decide) ?_
  refine g_iload hX dL_most_493 rfl ?_
  refine g_iload hX dL_most_494 rfl ?_
  refine yt_if_ge hX dL_most_496 (ya_in rfl) (by decide) ?_
  refine g_const hX dL_most_503 ?_
  refine y_iadd (c := 25) hX dL_most_504 (by decide) ?_
  refine g_istore hX dL_most_505 ?_
  dsimp only [List.set]
  refine y_iinc (c := 25) hX dL_most_506 rfl (by decide) ?_
  dsimp only [List.set]
  refine g_goto hX dL_most_509 ?_
  refine g_iload hX dL_most_424 rfl ?_
  refine g_const hX dL_most_425 ?_
  refine yf_icmp_ge hX dL_most_427 (ya_in rfl) (ya_in rfl) (by decide) ?_
  refine g_const hX dL_most_430 ?_
  refine g_aload hX dL_most_432 rfl rfl ?_
  exact mo_g52 hX hst hR hK hH hV (by omega) (by omega)

set_option maxRecDepth 20000 in
theorem mo_g50 {X : hX} (hX : Cok X mL_most) (hst : X.1.2.1.stackTraces = false) {M0 : hM} {sz0 : Nat} {K : hK} (hR : Ret X mL_most M0 sz0 K) (hK : ∀ (M' : hM) (s9 : Nat), K (.inl (some (.int (iZ 1)))) M' s9) {h : Nat} {A : Nat → Nat → Nat} {ow : Nat → Nat × Nat} {τ : Nat → Nat → Int} {M : hM} {sz cs ss : Nat} (hH : HX X.2.2.2.2.2.2.2.2.2 h A ow (ya_TB ymS99) τ M) (hV : SV (ya_TB ymS99)) (hc : cs + 3198 ≤ 5000) (hs : ss + 77708 ≤ 125000) : G X 474 [.ref h, .int (iZ 22), .int (iZ 22), .int (iZ 3), .int (iZ 3)] [] M sz cs ss := by
  refine g_iload hX dL_most_474 rfl ?_
  refine g_iload hX dL_most_476 rfl ?_
  refine g_const hX dL_most_477 ?_
  refine yf_icmp_ge hX dL_most_479 (ya_in rfl) (ya_in rfl) (by decide) ?_
  refine g_const hX dL_most_482 ?_
  refine g_goto hX dL_most_483 ?_
  refine yt_icmp_eq hX dL_most_488 (ya_in rfl) (ya_in rfl) (by decide) ?_
  refine g_iload hX dL_most_493 rfl ?_
  refine g_iload hX dL_most_494 rfl ?_
  refine yt_if_ge hX dL_most_496 (ya_in rfl) (by decide) ?_
  refine g_const hX dL_most_503 ?_
  refine y_iadd (c := 23) hX dL_most_504 (by decide) ?_
  refine g_istore hX dL_most_505 ?_
  dsimp only [List.set]
  refine y_iinc (c := 23) hX dL_most_506 rfl (by decide) ?_
  dsimp only [List.set]
  refine g_goto hX dL_most_509 ?_
  refine g_iload hX dL_most_424 rfl ?_
  refine g_const hX dL_most_425 ?_
  refine yf_icmp_ge hX dL_most_427 (ya_in rfl) (ya_in rfl) (by decide) ?_
  refine g_const hX dL_most_430 ?_
  refine g_aload hX dL_most_432 rfl rfl ?_
  refine g_const hX dL_most_433 ?_
  refine g_const hX dL_most_436 ?_
  refine g_iload hX dL_most_438 rfl ?_
  refine y_imul (c := 230) hX dL_most_439 (by decide) ?_
  refine y_iadd (c := 1830) hX dL_most_440 (by decide) ?_
  refine g_const hX dL_most_441 ?_
  refine g_const hX dL_most_443 ?_
  refine l_weekday hX hst dL_most_444 hH hV (ya_in rfl) (ya_in rfl) (ya_in rfl) yme233 (show cs + 3 ≤ 5000 by omega) (show ss + 18 ≤ 125000 by omega) (by first | exact Nat.le_of_ble_eq_true rfl | simp [cat_rf, Value.category]) (fun A ow τ M sz hH hV => ?_)
  refine y_isub (c := 4) hX dL_most_447 (by decide) ?_
  refine g_const hX dL_most_448 ?_
  refine y_irem (c := 4) hX dL_most_450 (ya_in rfl) (ya_in rfl) (by decide) (by decide) (by decide) ?_
  refine g_const hX dL_most_451 ?_
  refine y_iadd (c := 5) hX dL_most_452 (by decide) ?_
  refine g_istore hX dL_most_453 ?_
  dsimp only [List.set]
  refine g_aload hX dL_most_454 rfl rfl ?_
  refine g_const hX dL_most_455 ?_
  refine g_const hX dL_most_457 ?_
  refine g_const hX dL_most_460 ?_
  refine g_iload hX dL_most_462 rfl ?_
  refine y_imul (c := 230) hX dL_most_463 (by decide) ?_
  refine y_iadd (c := 1830) hX dL_most_464 (by decide) ?_
  refine g_const hX dL_most_465 ?_
  refine g_iload hX dL_most_467 rfl ?_
  refine g_const hX dL_most_468 ?_
  refine l_act hX hst dL_most_469 hH hV (ya_in rfl) (ya_in rfl) (ya_in rfl) (ya_in rfl) (ya_in rfl) yme235 (show cs + 3 + 10 ≤ 5000 by omega) (show ss + 18 + 250 ≤ 125000 by omega) (by first | exact Nat.le_of_ble_eq_true rfl | simp [cat_rf, Value.category]) (fun A ow τ M sz hH hV => ?_)
  refine g_istore hX dL_most_472 ?_
  dsimp only [List.set]
  refine g_iload hX dL_most_474 rfl ?_
  refine g_iload hX dL_most_476 rfl ?_
  refine g_const hX dL_most_477 ?_
  refine yf_icmp_ge hX dL_most_479 (ya_in rfl) (ya_in rfl) (by decide) ?_
  refine g_const hX dL_most_482 ?_
  refine g_goto hX dL_most_483 ?_
  refine yt_icmp_eq hX dL_most_488 (ya_in rfl) (ya_in rfl) (by decide) ?_
  refine g_iload hX dL_most_493 rfl ?_
  refine g_iload hX dL_most_494 rfl ?_
  refine yt_if_ge hX dL_most_496 (ya_in rfl) (by decide) ?_
  refine g_const hX dL_most_503 ?_
  exact mo_g51 hX hst hR hK hH hV (by omega) (by omega)

set_option maxRecDepth 20000 in
theorem mo_g49 {X : hX} (hX : Cok X mL_most) (hst : X.1.2.1.stackTraces = false) {M0 : hM} {sz0 : Nat} {K : hK} (hR : Ret X mL_most M0 sz0 K) (hK : ∀ (M' : hM) (s9 : Nat), K (.inl (some (.int (iZ 1)))) M' s9) {h : Nat} {A : Nat → Nat → Nat} {ow : Nat → Nat × Nat} {τ : Nat → Nat → Int} {M : hM} {sz cs ss : Nat} (hH : HX X.2.2.2.2.2.2.2.2.2 h A ow (ya_TB ymS97) τ M) (hV : SV (ya_TB ymS97)) (hc : cs + 3221 ≤ 5000) (hs : ss + 78226 ≤ 125000) : G X 455 [.ref h, .int (iZ 21), .int (iZ 21), .int (iZ 2), .int (iZ 3)] [.ref h] M sz cs ss := by
  refine g_const hX dL_most_455 ?_
  refine g_const hX dL_most_457 ?_
  refine g_const hX dL_most_460 ?_
  refine g_iload hX dL_most_462 rfl ?_
  refine y_imul (c := 210) hX dL_most_463 (by decide) ?_
  refine y_iadd (c := 1810) hX dL_most_464 (by decide) ?_
  refine g_const hX dL_most_465 ?_
  refine g_iload hX dL_most_467 rfl ?_
  refine g_const hX dL_most_468 ?_
  refine l_act hX hst dL_most_469 hH hV (ya_in rfl) (ya_in rfl) (ya_in rfl) (ya_in rfl) (ya_in rfl) yme229 (show cs + 10 ≤ 5000 by omega) (show ss + 250 ≤ 125000 by omega) (by first | exact Nat.le_of_ble_eq_true rfl | simp [cat_rf, Value.category]) (fun A ow τ M sz hH hV => ?_)
  refine g_istore hX dL_most_472 ?_
  dsimp only [List.set]
  refine g_iload hX dL_most_474 rfl ?_
  refine g_iload hX dL_most_476 rfl ?_
  refine g_const hX dL_most_477 ?_
  refine yf_icmp_ge hX dL_most_479 (ya_in rfl) (ya_in rfl) (by decide) ?_
  refine g_const hX dL_most_482 ?_
  refine g_goto hX dL_most_483 ?_
  refine yt_icmp_eq hX dL_most_488 (ya_in rfl) (ya_in rfl) (by decide) ?_
  refine g_iload hX dL_most_493 rfl ?_
  refine g_iload hX dL_most_494 rfl ?_
  refine yt_if_ge hX dL_most_496 (ya_in rfl) (by decide) ?_
  refine g_const hX dL_most_503 ?_
  refine y_iadd (c := 22) hX dL_most_504 (by decide) ?_
  refine g_istore hX dL_most_505 ?_
  dsimp only [List.set]
  refine y_iinc (c := 22) hX dL_most_506 rfl (by decide) ?_
  dsimp only [List.set]
  refine g_goto hX dL_most_509 ?_
  refine g_iload hX dL_most_424 rfl ?_
  refine g_const hX dL_most_425 ?_
  refine yf_icmp_ge hX dL_most_427 (ya_in rfl) (ya_in rfl) (by decide) ?_
  refine g_const hX dL_most_430 ?_
  refine g_aload hX dL_most_432 rfl rfl ?_
  refine g_const hX dL_most_433 ?_
  refine g_const hX dL_most_436 ?_
  refine g_iload hX dL_most_438 rfl ?_
  refine y_imul (c := 220) hX dL_most_439 (by decide) ?_
  refine y_iadd (c := 1820) hX dL_most_440 (by decide) ?_
  refine g_const hX dL_most_441 ?_
  refine g_const hX dL_most_443 ?_
  refine l_weekday hX hst dL_most_444 hH hV (ya_in rfl) (ya_in rfl) (ya_in rfl) yme230 (show cs + 10 + 3 ≤ 5000 by omega) (show ss + 250 + 18 ≤ 125000 by omega) (by first | exact Nat.le_of_ble_eq_true rfl | simp [cat_rf, Value.category]) (fun A ow τ M sz hH hV => ?_)
  refine y_isub (c := 2) hX dL_most_447 (by decide) ?_
  refine g_const hX dL_most_448 ?_
  refine y_irem (c := 2) hX dL_most_450 (ya_in rfl) (ya_in rfl) (by decide) (by decide) (by decide) ?_
  refine g_const hX dL_most_451 ?_
  refine y_iadd (c := 3) hX dL_most_452 (by decide) ?_
  refine g_istore hX dL_most_453 ?_
  dsimp only [List.set]
  refine g_aload hX dL_most_454 rfl rfl ?_
  refine g_const hX dL_most_455 ?_
  refine g_const hX dL_most_457 ?_
  refine g_const hX dL_most_460 ?_
  refine g_iload hX dL_most_462 rfl ?_
  refine y_imul (c := 220) hX dL_most_463 (by decide) ?_
  refine y_iadd (c := 1820) hX dL_most_464 (by decide) ?_
  refine g_const hX dL_most_465 ?_
  refine g_iload hX dL_most_467 rfl ?_
  refine g_const hX dL_most_468 ?_
  refine l_act hX hst dL_most_469 hH hV (ya_in rfl) (ya_in rfl) (ya_in rfl) (ya_in rfl) (ya_in rfl) yme232 (show cs + 10 + 3 + 10 ≤ 5000 by omega) (show ss + 250 + 18 + 250 ≤ 125000 by omega) (by first | exact Nat.le_of_ble_eq_true rfl | simp [cat_rf, Value.category]) (fun A ow τ M sz hH hV => ?_)
  refine g_istore hX dL_most_472 ?_
  dsimp only [List.set]
  exact mo_g50 hX hst hR hK hH hV (by omega) (by omega)

set_option maxRecDepth 20000 in
theorem mo_g48 {X : hX} (hX : Cok X mL_most) (hst : X.1.2.1.stackTraces = false) {M0 : hM} {sz0 : Nat} {K : hK} (hR : Ret X mL_most M0 sz0 K) (hK : ∀ (M' : hM) (s9 : Nat), K (.inl (some (.int (iZ 1)))) M' s9) {h : Nat} {A : Nat → Nat → Nat} {ow : Nat → Nat × Nat} {τ : Nat → Nat → Int} {M : hM} {sz cs ss : Nat} (hH : HX X.2.2.2.2.2.2.2.2.2 h A ow (ya_TB ymS96) τ M) (hV : SV (ya_TB ymS96)) (hc : cs + 3237 ≤ 5000) (hs : ss + 78512 ≤ 125000) : G X 441 [.ref h, .int (iZ 20), .int (iZ 20), .int (iZ 5), .int (iZ 3)] [.int (iZ 1800), .ref h, .int (iZ 7)] M sz cs ss := by
  refine g_const hX dL_most_441 ?_
  refine g_const hX dL_most_443 ?_
  refine l_weekday hX hst dL_most_444 hH hV (ya_in rfl) (ya_in rfl) (ya_in rfl) yme224 (show cs + 3 ≤ 5000 by omega) (show ss + 18 ≤ 125000 by omega) (by first | exact Nat.le_of_ble_eq_true rfl | simp [cat_rf, Value.category]) (fun A ow τ M sz hH hV => ?_)
  refine y_isub (c := 6) hX dL_most_447 (by decide) ?_
  refine g_const hX dL_most_448 ?_
  refine y_irem (c := 6) hX dL_most_450 (ya_in rfl) (ya_in rfl) (by decide) (by decide) (by decide) ?_
  refine g_const hX dL_most_451 ?_
  refine y_iadd (c := 7) hX dL_most_452 (by decide) ?_
  refine g_istore hX dL_most_453 ?_
  dsimp only [List.set]
  refine g_aload hX dL_most_454 rfl rfl ?_
  refine g_const hX dL_most_455 ?_
  refine g_const hX dL_most_457 ?_
  refine g_const hX dL_most_460 ?_
  refine g_iload hX dL_most_462 rfl ?_
  refine y_imul (c := 200) hX dL_most_463 (by decide) ?_
  refine y_iadd (c := 1800) hX dL_most_464 (by decide) ?_
  refine g_const hX dL_most_465 ?_
  refine g_iload hX dL_most_467 rfl ?_
  refine g_const hX dL_most_468 ?_
  refine l_act hX hst dL_most_469 hH hV (ya_in rfl) (ya_in rfl) (ya_in rfl) (ya_in rfl) (ya_in rfl) yme226 (show cs + 3 + 10 ≤ 5000 by omega) (show ss + 18 + 250 ≤ 125000 by omega) (by first | exact Nat.le_of_ble_eq_true rfl | simp [cat_rf, Value.category]) (fun A ow τ M sz hH hV => ?_)
  refine g_istore hX dL_most_472 ?_
  dsimp only [List.set]
  refine g_iload hX dL_most_474 rfl ?_
  refine g_iload hX dL_most_476 rfl ?_
  refine g_const hX dL_most_477 ?_
  refine yf_icmp_ge hX dL_most_479 (ya_in rfl) (ya_in rfl) (by decide) ?_
  refine g_const hX dL_most_482 ?_
  refine g_goto hX dL_most_483 ?_
  refine yt_icmp_eq hX dL_most_488 (ya_in rfl) (ya_in rfl) (by decide) ?_
  refine g_iload hX dL_most_493 rfl ?_
  refine g_iload hX dL_most_494 rfl ?_
  refine yt_if_ge hX dL_most_496 (ya_in rfl) (by decide) ?_
  refine g_const hX dL_most_503 ?_
  refine y_iadd (c := 21) hX dL_most_504 (by decide) ?_
  refine g_istore hX dL_most_505 ?_
  dsimp only [List.set]
  refine y_iinc (c := 21) hX dL_most_506 rfl (by decide) ?_
  dsimp only [List.set]
  refine g_goto hX dL_most_509 ?_
  refine g_iload hX dL_most_424 rfl ?_
  refine g_const hX dL_most_425 ?_
  refine yf_icmp_ge hX dL_most_427 (ya_in rfl) (ya_in rfl) (by decide) ?_
  refine g_const hX dL_most_430 ?_
  refine g_aload hX dL_most_432 rfl rfl ?_
  refine g_const hX dL_most_433 ?_
  refine g_const hX dL_most_436 ?_
  refine g_iload hX dL_most_438 rfl ?_
  refine y_imul (c := 210) hX dL_most_439 (by decide) ?_
  refine y_iadd (c := 1810) hX dL_most_440 (by decide) ?_
  refine g_const hX dL_most_441 ?_
  refine g_const hX dL_most_443 ?_
  refine l_weekday hX hst dL_most_444 hH hV (ya_in rfl) (ya_in rfl) (ya_in rfl) yme227 (show cs + 3 + 10 + 3 ≤ 5000 by omega) (show ss + 18 + 250 + 18 ≤ 125000 by omega) (by first | exact Nat.le_of_ble_eq_true rfl | simp [cat_rf, Value.category]) (fun A ow τ M sz hH hV => ?_)
  refine y_isub (c := 1) hX dL_most_447 (by decide) ?_
  refine g_const hX dL_most_448 ?_
  refine y_irem (c := 1) hX dL_most_450 (ya_in rfl) (ya_in rfl) (by decide) (by decide) (by decide) ?_
  refine g_const hX dL_most_451 ?_
  refine y_iadd (c := 2) hX dL_most_452 (by decide) ?_
  refine g_istore hX dL_most_453 ?_
  dsimp only [List.set]
  refine g_aload hX dL_most_454 rfl rfl ?_
  exact mo_g49 hX hst hR hK hH hV (by omega) (by omega)

set_option maxRecDepth 20000 in
theorem mo_g47 {X : hX} (hX : Cok X mL_most) (hst : X.1.2.1.stackTraces = false) {M0 : hM} {sz0 : Nat} {K : hK} (hR : Ret X mL_most M0 sz0 K) (hK : ∀ (M' : hM) (s9 : Nat), K (.inl (some (.int (iZ 1)))) M' s9) {h : Nat} {A : Nat → Nat → Nat} {ow : Nat → Nat × Nat} {τ : Nat → Nat → Int} {M : hM} {sz cs ss : Nat} (hH : HX X.2.2.2.2.2.2.2.2.2 h A ow (ya_TB ymS95) τ M) (hV : SV (ya_TB ymS95)) (hc : cs + 3250 ≤ 5000) (hs : ss + 78780 ≤ 125000) : G X 509 [.ref h, .int (iZ 19), .int (iZ 19), .int (iZ 3), .int (iZ 3)] [] M sz cs ss := by
  refine g_goto hX dL_most_509 ?_
  refine g_iload hX dL_most_424 rfl ?_
  refine g_const hX dL_most_425 ?_
  refine yf_icmp_ge hX dL_most_427 (ya_in rfl) (ya_in rfl) (by decide) ?_
  refine g_const hX dL_most_430 ?_
  refine g_aload hX dL_most_432 rfl rfl ?_
  refine g_const hX dL_most_433 ?_
  refine g_const hX dL_most_436 ?_
  refine g_iload hX dL_most_438 rfl ?_
  refine y_imul (c := 190) hX dL_most_439 (by decide) ?_
  refine y_iadd (c := 1790) hX dL_most_440 (by decide) ?_
  refine g_const hX dL_most_441 ?_
  refine g_const hX dL_most_443 ?_
  refine l_weekday hX hst dL_most_444 hH hV (ya_in rfl) (ya_in rfl) (ya_in rfl) yme221 (show cs + 3 ≤ 5000 by omega) (show ss + 18 ≤ 125000 by omega) (by first | exact Nat.le_of_ble_eq_true rfl | simp [cat_rf, Value.category]) (fun A ow τ M sz hH hV => ?_)
  refine y_isub (c := 4) hX dL_most_447 (by decide) ?_
  refine g_const hX dL_most_448 ?_
  refine y_irem (c := 4) hX dL_most_450 (ya_in rfl) (ya_in rfl) (by decide) (by decide) (by decide) ?_
  refine g_const hX dL_most_451 ?_
  refine y_iadd (c := 5) hX dL_most_452 (by decide) ?_
  refine g_istore hX dL_most_453 ?_
  dsimp only [List.set]
  refine g_aload hX dL_most_454 rfl rfl ?_
  refine g_const hX dL_most_455 ?_
  refine g_const hX dL_most_457 ?_
  refine g_const hX dL_most_460 ?_
  refine g_iload hX dL_most_462 rfl ?_
  refine y_imul (c := 190) hX dL_most_463 (by decide) ?_
  refine y_iadd (c := 1790) hX dL_most_464 (by decide) ?_
  refine g_const hX dL_most_465 ?_
  refine g_iload hX dL_most_467 rfl ?_
  refine g_const hX dL_most_468 ?_
  refine l_act hX hst dL_most_469 hH hV (ya_in rfl) (ya_in rfl) (ya_in rfl) (ya_in rfl) (ya_in rfl) yme223 (show cs + 3 + 10 ≤ 5000 by omega) (show ss + 18 + 250 ≤ 125000 by omega) (by first | exact Nat.le_of_ble_eq_true rfl | simp [cat_rf, Value.category]) (fun A ow τ M sz hH hV => ?_)
  refine g_istore hX dL_most_472 ?_
  dsimp only [List.set]
  refine g_iload hX dL_most_474 rfl ?_
  refine g_iload hX dL_most_476 rfl ?_
  refine g_const hX dL_most_477 ?_
  refine yf_icmp_ge hX dL_most_479 (ya_in rfl) (ya_in rfl) (by decide) ?_
  refine g_const hX dL_most_482 ?_
  refine g_goto hX dL_most_483 ?_
  refine yt_icmp_eq hX dL_most_488 (ya_in rfl) (ya_in rfl) (by decide) ?_
  refine g_iload hX dL_most_493 rfl ?_
  refine g_iload hX dL_most_494 rfl ?_
  refine yt_if_ge hX dL_most_496 (ya_in rfl) (by decide) ?_
  refine g_const hX dL_most_503 ?_
  refine y_iadd (c := 20) hX dL_most_504 (by decide) ?_
  refine g_istore hX dL_most_505 ?_
  dsimp only [List.set]
  refine y_iinc (c := 20) hX dL_most_506 rfl (by decide) ?_
  dsimp only [List.set]
  refine g_goto hX dL_most_509 ?_
  refine g_iload hX dL_most_424 rfl ?_
  refine g_const hX dL_most_425 ?_
  refine yf_icmp_ge hX dL_most_427 (ya_in rfl) (ya_in rfl) (by decide) ?_
  refine g_const hX dL_most_430 ?_
  refine g_aload hX dL_most_432 rfl rfl ?_
  refine g_const hX dL_most_433 ?_
  refine g_const hX dL_most_436 ?_
  refine g_iload hX dL_most_438 rfl ?_
  refine y_imul (c := 200) hX dL_most_439 (by decide) ?_
  refine y_iadd (c := 1800) hX dL_most_440 (by decide) ?_
  exact mo_g48 hX hst hR hK hH hV (by omega) (by omega)

set_option maxRecDepth 20000 in
theorem mo_g46 {X : hX} (hX : Cok X mL_most) (hst : X.1.2.1.stackTraces = false) {M0 : hM} {sz0 : Nat} {K : hK} (hR : Ret X mL_most M0 sz0 K) (hK : ∀ (M' : hM) (s9 : Nat), K (.inl (some (.int (iZ 1)))) M' s9) {h : Nat} {A : Nat → Nat → Nat} {ow : Nat → Nat × Nat} {τ : Nat → Nat → Int} {M : hM} {sz cs ss : Nat} (hH : HX X.2.2.2.2.2.2.2.2.2 h A ow (ya_TB ymS94) τ M) (hV : SV (ya_TB ymS94)) (hc : cs + 3263 ≤ 5000) (hs : ss + 79048 ≤ 125000) : G X 483 [.ref h, .int (iZ 17), .int (iZ 17), .int (iZ 2), .int (iZ 3)] [.int (iZ 3), .int (iZ 3)] M sz cs ss := by
  refine g_goto hX dL_most_483 ?_
  refine yt_icmp_eq hX dL_most_488 (ya_in rfl) (ya_in rfl) (by decide) ?_
  refine g_iload hX dL_most_493 rfl ?_
  refine g_iload hX dL_most_494 rfl ?_
  refine yt_if_ge hX dL_most_496 (ya_in rfl) (by decide) ?_
  refine g_const hX dL_most_503 ?_
  refine y_iadd (c := 18) hX dL_most_504 (by decide) ?_
  refine g_istore hX dL_most_505 ?_
  dsimp only [List.set]
  refine y_iinc (c := 18) hX dL_most_506 rfl (by decide) ?_
  dsimp only [List.set]
  refine g_goto hX dL_most_509 ?_
  refine g_iload hX dL_most_424 rfl ?_
  refine g_const hX dL_most_425 ?_
  refine yf_icmp_ge hX dL_most_427 (ya_in rfl) (ya_in rfl) (by decide) ?_
  refine g_const hX dL_most_430 ?_
  refine g_aload hX dL_most_432 rfl rfl ?_
  refine g_const hX dL_most_433 ?_
  refine g_const hX dL_most_436 ?_
  refine g_iload hX dL_most_438 rfl ?_
  refine y_imul (c := 180) hX dL_most_439 (by decide) ?_
  refine y_iadd (c := 1780) hX dL_most_440 (by decide) ?_
  refine g_const hX dL_most_441 ?_
  refine g_const hX dL_most_443 ?_
  refine l_weekday hX hst dL_most_444 hH hV (ya_in rfl) (ya_in rfl) (ya_in rfl) yme218 (show cs + 3 ≤ 5000 by omega) (show ss + 18 ≤ 125000 by omega) (by first | exact Nat.le_of_ble_eq_true rfl | simp [cat_rf, Value.category]) (fun A ow τ M sz hH hV => ?_)
  refine y_isub (c := 2) hX dL_most_447 (by decide) ?_
  refine g_const hX dL_most_448 ?_
  refine y_irem (c := 2) hX dL_most_450 (ya_in rfl) (ya_in rfl) (by decide) (by decide) (by decide) ?_
  refine g_const hX dL_most_451 ?_
  refine y_iadd (c := 3) hX dL_most_452 (by decide) ?_
  refine g_istore hX dL_most_453 ?_
  dsimp only [List.set]
  refine g_aload hX dL_most_454 rfl rfl ?_
  refine g_const hX dL_most_455 ?_
  refine g_const hX dL_most_457 ?_
  refine g_const hX dL_most_460 ?_
  refine g_iload hX dL_most_462 rfl ?_
  refine y_imul (c := 180) hX dL_most_463 (by decide) ?_
  refine y_iadd (c := 1780) hX dL_most_464 (by decide) ?_
  refine g_const hX dL_most_465 ?_
  refine g_iload hX dL_most_467 rfl ?_
  refine g_const hX dL_most_468 ?_
  refine l_act hX hst dL_most_469 hH hV (ya_in rfl) (ya_in rfl) (ya_in rfl) (ya_in rfl) (ya_in rfl) yme220 (show cs + 3 + 10 ≤ 5000 by omega) (show ss + 18 + 250 ≤ 125000 by omega) (by first | exact Nat.le_of_ble_eq_true rfl | simp [cat_rf, Value.category]) (fun A ow τ M sz hH hV => ?_)
  refine g_istore hX dL_most_472 ?_
  dsimp only [List.set]
  refine g_iload hX dL_most_474 rfl ?_
  refine g_iload hX dL_most_476 rfl ?_
  refine g_const hX dL_most_477 ?_
  refine yf_icmp_ge hX dL_most_479 (ya_in rfl) (ya_in rfl) (by decide) ?_
  refine g_const hX dL_most_482 ?_
  refine g_goto hX dL_most_483 ?_
  refine yt_icmp_eq hX dL_most_488 (ya_in rfl) (ya_in rfl) (by decide) ?_
  refine g_iload hX dL_most_493 rfl ?_
  refine g_iload hX dL_most_494 rfl ?_
  refine yt_if_ge hX dL_most_496 (ya_in rfl) (by decide) ?_
  refine g_const hX dL_most_503 ?_
  refine y_iadd (c := 19) hX dL_most_504 (by decide) ?_
  refine g_istore hX dL_most_505 ?_
  dsimp only [List.set]
  refine y_iinc (c := 19) hX dL_most_506 rfl (by decide) ?_
  dsimp only [List.set]
  exact mo_g47 hX hst hR hK hH hV (by omega) (by omega)

set_option maxRecDepth 20000 in
theorem mo_g45 {X : hX} (hX : Cok X mL_most) (hst : X.1.2.1.stackTraces = false) {M0 : hM} {sz0 : Nat} {K : hK} (hR : Ret X mL_most M0 sz0 K) (hK : ∀ (M' : hM) (s9 : Nat), K (.inl (some (.int (iZ 1)))) M' s9) {h : Nat} {A : Nat → Nat → Nat} {ow : Nat → Nat × Nat} {τ : Nat → Nat → Int} {M : hM} {sz cs ss : Nat} (hH : HX X.2.2.2.2.2.2.2.2.2 h A ow (ya_TB ymS92) τ M) (hV : SV (ya_TB ymS92)) (hc : cs + 3286 ≤ 5000) (hs : ss + 79566 ≤ 125000) : G X 465 [.ref h, .int (iZ 16), .int (iZ 16), .int (iZ 7), .int (iZ 3)] [.int (iZ 1760), .int (iZ 23), .ref h] M sz cs ss := by
  refine g_const hX dL_most_465 ?_
  refine g_iload hX dL_most_467 rfl ?_
  refine g_const hX dL_most_468 ?_
  refine l_act hX hst dL_most_469 hH hV (ya_in rfl) (ya_in rfl) (ya_in rfl) (ya_in rfl) (ya_in rfl) yme214 (show cs + 10 ≤ 5000 by omega) (show ss + 250 ≤ 125000 by omega) (by first | exact Nat.le_of_ble_eq_true rfl | simp [cat_rf, Value.category]) (fun A ow τ M sz hH hV => ?_)
  refine g_istore hX dL_most_472 ?_
  dsimp only [List.set]
  refine g_iload hX dL_most_474 rfl ?_
  refine g_iload hX dL_most_476 rfl ?_
  refine g_const hX dL_most_477 ?_
  refine yf_icmp_ge hX dL_most_479 (ya_in rfl) (ya_in rfl) (by decide) ?_
  refine g_const hX dL_most_482 ?_
  refine g_goto hX dL_most_483 ?_
  refine yt_icmp_eq hX dL_most_488 (ya_in rfl) (ya_in rfl) (by decide) ?_
  refine g_iload hX dL_most_493 rfl ?_
  refine g_iload hX dL_most_494 rfl ?_
  refine yt_if_ge hX dL_most_496 (ya_in rfl) (by decide) ?_
  refine g_const hX dL_most_503 ?_
  refine y_iadd (c := 17) hX dL_most_504 (by decide) ?_
  refine g_istore hX dL_most_505 ?_
  dsimp only [List.set]
  refine y_iinc (c := 17) hX dL_most_506 rfl (by decide) ?_
  dsimp only [List.set]
  refine g_goto hX dL_most_509 ?_
  refine g_iload hX dL_most_424 rfl ?_
  refine g_const hX dL_most_425 ?_
  refine yf_icmp_ge hX dL_most_427 (ya_in rfl) (ya_in rfl) (by decide) ?_
  refine g_const hX dL_most_430 ?_
  refine g_aload hX dL_most_432 rfl rfl ?_
  refine g_const hX dL_most_433 ?_
  refine g_const hX dL_most_436 ?_
  refine g_iload hX dL_most_438 rfl ?_
  refine y_imul (c := 170) hX dL_most_439 (by decide) ?_
  refine y_iadd (c := 1770) hX dL_most_440 (by decide) ?_
  refine g_const hX dL_most_441 ?_
  refine g_const hX dL_most_443 ?_
  refine l_weekday hX hst dL_most_444 hH hV (ya_in rfl) (ya_in rfl) (ya_in rfl) yme215 (show cs + 10 + 3 ≤ 5000 by omega) (show ss + 250 + 18 ≤ 125000 by omega) (by first | exact Nat.le_of_ble_eq_true rfl | simp [cat_rf, Value.category]) (fun A ow τ M sz hH hV => ?_)
  refine y_isub (c := 1) hX dL_most_447 (by decide) ?_
  refine g_const hX dL_most_448 ?_
  refine y_irem (c := 1) hX dL_most_450 (ya_in rfl) (ya_in rfl) (by decide) (by decide) (by decide) ?_
  refine g_const hX dL_most_451 ?_
  refine y_iadd (c := 2) hX dL_most_452 (by decide) ?_
  refine g_istore hX dL_most_453 ?_
  dsimp only [List.set]
  refine g_aload hX dL_most_454 rfl rfl ?_
  refine g_const hX dL_most_455 ?_
  refine g_const hX dL_most_457 ?_
  refine g_const hX dL_most_460 ?_
  refine g_iload hX dL_most_462 rfl ?_
  refine y_imul (c := 170) hX dL_most_463 (by decide) ?_
  refine y_iadd (c := 1770) hX dL_most_464 (by decide) ?_
  refine g_const hX dL_most_465 ?_
  refine g_iload hX dL_most_467 rfl ?_
  refine g_const hX dL_most_468 ?_
  refine l_act hX hst dL_most_469 hH hV (ya_in rfl) (ya_in rfl) (ya_in rfl) (ya_in rfl) (ya_in rfl) yme217 (show cs + 10 + 3 + 10 ≤ 5000 by omega) (show ss + 250 + 18 + 250 ≤ 125000 by omega) (by first | exact Nat.le_of_ble_eq_true rfl | simp [cat_rf, Value.category]) (fun A ow τ M sz hH hV => ?_)
  refine g_istore hX dL_most_472 ?_
  dsimp only [List.set]
  refine g_iload hX dL_most_474 rfl ?_
  refine g_iload hX dL_most_476 rfl ?_
  refine g_const hX dL_most_477 ?_
  refine yf_icmp_ge hX dL_most_479 (ya_in rfl) (ya_in rfl) (by decide) ?_
  refine g_const hX dL_most_482 ?_
  exact mo_g46 hX hst hR hK hH hV (by omega) (by omega)

set_option maxRecDepth 20000 in
theorem mo_g44 {X : hX} (hX : Cok X mL_most) (hst : X.1.2.1.stackTraces = false) {M0 : hM} {sz0 : Nat} {K : hK} (hR : Ret X mL_most M0 sz0 K) (hK : ∀ (M' : hM) (s9 : Nat), K (.inl (some (.int (iZ 1)))) M' s9) {h : Nat} {A : Nat → Nat → Nat} {ow : Nat → Nat × Nat} {τ : Nat → Nat → Int} {M : hM} {sz cs ss : Nat} (hH : HX X.2.2.2.2.2.2.2.2.2 h A ow (ya_TB ymS91) τ M) (hV : SV (ya_TB ymS91)) (hc : cs + 3299 ≤ 5000) (hs : ss + 79834 ≤ 125000) : G X 451 [.ref h, .int (iZ 15), .int (iZ 15), .int (iZ 4), .int (iZ 3)] [.int (iZ 5)] M sz cs ss := by
  refine g_const hX dL_most_451 ?_
  refine y_iadd (c := 6) hX dL_most_452 (by decide) ?_
  refine g_istore hX dL_most_453 ?_
  dsimp only [List.set]
  refine g_aload hX dL_most_454 rfl rfl ?_
  refine g_const hX dL_most_455 ?_
  refine g_const hX dL_most_457 ?_
  refine g_const hX dL_most_460 ?_
  refine g_iload hX dL_most_462 rfl ?_
  refine y_imul (c := 150) hX dL_most_463 (by decide) ?_
  refine y_iadd (c := 1750) hX dL_most_464 (by decide) ?_
  refine g_const hX dL_most_465 ?_
  refine g_iload hX dL_most_467 rfl ?_
  refine g_const hX dL_most_468 ?_
  refine l_act hX hst dL_most_469 hH hV (ya_in rfl) (ya_in rfl) (ya_in rfl) (ya_in rfl) (ya_in rfl) yme211 (show cs + 10 ≤ 5000 by omega) (show ss + 250 ≤ 125000 by omega) (by first | exact Nat.le_of_ble_eq_true rfl | simp [cat_rf, Value.category]) (fun A ow τ M sz hH hV => ?_)
  refine g_istore hX dL_most_472 ?_
  dsimp only [List.set]
  refine g_iload hX dL_most_474 rfl ?_
  refine g_iload hX dL_most_476 rfl ?_
  refine g_const hX dL_most_477 ?_
  refine yf_icmp_ge hX dL_most_479 (ya_in rfl) (ya_in rfl) (by decide) ?_
  refine g_const hX dL_most_482 ?_
  refine g_goto hX dL_most_483 ?_
  refine yt_icmp_eq hX dL_most_488 (ya_in rfl) (ya_in rfl) (by decide) ?_
  refine g_iload hX dL_most_493 rfl ?_
  refine g_iload hX dL_most_494 rfl ?_
  refine yt_if_ge hX dL_most_496 (ya_in rfl) (by decide) ?_
  refine g_const hX dL_most_503 ?_
  refine y_iadd (c := 16) hX dL_most_504 (by decide) ?_
  refine g_istore hX dL_most_505 ?_
  dsimp only [List.set]
  refine y_iinc (c := 16) hX dL_most_506 rfl (by decide) ?_
  dsimp only [List.set]
  refine g_goto hX dL_most_509 ?_
  refine g_iload hX dL_most_424 rfl ?_
  refine g_const hX dL_most_425 ?_
  refine yf_icmp_ge hX dL_most_427 (ya_in rfl) (ya_in rfl) (by decide) ?_
  refine g_const hX dL_most_430 ?_
  refine g_aload hX dL_most_432 rfl rfl ?_
  refine g_const hX dL_most_433 ?_
  refine g_const hX dL_most_436 ?_
  refine g_iload hX dL_most_438 rfl ?_
  refine y_imul (c := 160) hX dL_most_439 (by decide) ?_
  refine y_iadd (c := 1760) hX dL_most_440 (by decide) ?_
  refine g_const hX dL_most_441 ?_
  refine g_const hX dL_most_443 ?_
  refine l_weekday hX hst dL_most_444 hH hV (ya_in rfl) (ya_in rfl) (ya_in rfl) yme212 (show cs + 10 + 3 ≤ 5000 by omega) (show ss + 250 + 18 ≤ 125000 by omega) (by first | exact Nat.le_of_ble_eq_true rfl | simp [cat_rf, Value.category]) (fun A ow τ M sz hH hV => ?_)
  refine y_isub (c := 6) hX dL_most_447 (by decide) ?_
  refine g_const hX dL_most_448 ?_
  refine y_irem (c := 6) hX dL_most_450 (ya_in rfl) (ya_in rfl) (by decide) (by decide) (by decide) ?_
  refine g_const hX dL_most_451 ?_
  refine y_iadd (c := 7) hX dL_most_452 (by decide) ?_
  refine g_istore hX dL_most_453 ?_
  dsimp only [List.set]
  refine g_aload hX dL_most_454 rfl rfl ?_
  refine g_const hX dL_most_455 ?_
  refine g_const hX dL_most_457 ?_
  refine g_const hX dL_most_460 ?_
  refine g_iload hX dL_most_462 rfl ?_
  refine y_imul (c := 160) hX dL_most_463 (by decide) ?_
  refine y_iadd (c := 1760) hX dL_most_464 (by decide) ?_
  exact mo_g45 hX hst hR hK hH hV (by omega) (by omega)

set_option maxRecDepth 20000 in
theorem mo_g43 {X : hX} (hX : Cok X mL_most) (hst : X.1.2.1.stackTraces = false) {M0 : hM} {sz0 : Nat} {K : hK} (hR : Ret X mL_most M0 sz0 K) (hK : ∀ (M' : hM) (s9 : Nat), K (.inl (some (.int (iZ 1)))) M' s9) {h : Nat} {A : Nat → Nat → Nat} {ow : Nat → Nat × Nat} {τ : Nat → Nat → Int} {M : hM} {sz cs ss : Nat} (hH : HX X.2.2.2.2.2.2.2.2.2 h A ow (ya_TB ymS90) τ M) (hV : SV (ya_TB ymS90)) (hc : cs + 3315 ≤ 5000) (hs : ss + 80120 ≤ 125000) : G X 433 [.ref h, .int (iZ 14), .int (iZ 14), .int (iZ 3), .int (iZ 3)] [.ref h, .int (iZ 7)] M sz cs ss := by
  refine g_const hX dL_most_433 ?_
  refine g_const hX dL_most_436 ?_
  refine g_iload hX dL_most_438 rfl ?_
  refine y_imul (c := 140) hX dL_most_439 (by decide) ?_
  refine y_iadd (c := 1740) hX dL_most_440 (by decide) ?_
  refine g_const hX dL_most_441 ?_
  refine g_const hX dL_most_443 ?_
  refine l_weekday hX hst dL_most_444 hH hV (ya_in rfl) (ya_in rfl) (ya_in rfl) yme206 (show cs + 3 ≤ 5000 by omega) (show ss + 18 ≤ 125000 by omega) (by first | exact Nat.le_of_ble_eq_true rfl | simp [cat_rf, Value.category]) (fun A ow τ M sz hH hV => ?_)
  refine y_isub (c := 3) hX dL_most_447 (by decide) ?_
  refine g_const hX dL_most_448 ?_
  refine y_irem (c := 3) hX dL_most_450 (ya_in rfl) (ya_in rfl) (by decide) (by decide) (by decide) ?_
  refine g_const hX dL_most_451 ?_
  refine y_iadd (c := 4) hX dL_most_452 (by decide) ?_
  refine g_istore hX dL_most_453 ?_
  dsimp only [List.set]
  refine g_aload hX dL_most_454 rfl rfl ?_
  refine g_const hX dL_most_455 ?_
  refine g_const hX dL_most_457 ?_
  refine g_const hX dL_most_460 ?_
  refine g_iload hX dL_most_462 rfl ?_
  refine y_imul (c := 140) hX dL_most_463 (by decide) ?_
  refine y_iadd (c := 1740) hX dL_most_464 (by decide) ?_
  refine g_const hX dL_most_465 ?_
  refine g_iload hX dL_most_467 rfl ?_
  refine g_const hX dL_most_468 ?_
  refine l_act hX hst dL_most_469 hH hV (ya_in rfl) (ya_in rfl) (ya_in rfl) (ya_in rfl) (ya_in rfl) yme208 (show cs + 3 + 10 ≤ 5000 by omega) (show ss + 18 + 250 ≤ 125000 by omega) (by first | exact Nat.le_of_ble_eq_true rfl | simp [cat_rf, Value.category]) (fun A ow τ M sz hH hV => ?_)
  refine g_istore hX dL_most_472 ?_
  dsimp only [List.set]
  refine g_iload hX dL_most_474 rfl ?_
  refine g_iload hX dL_most_476 rfl ?_
  refine g_const hX dL_most_477 ?_
  refine yf_icmp_ge hX dL_most_479 (ya_in rfl) (ya_in rfl) (by decide) ?_
  refine g_const hX dL_most_482 ?_
  refine g_goto hX dL_most_483 ?_
  refine yt_icmp_eq hX dL_most_488 (ya_in rfl) (ya_in rfl) (by decide) ?_
  refine g_iload hX dL_most_493 rfl ?_
  refine g_iload hX dL_most_494 rfl ?_
  refine yt_if_ge hX dL_most_496 (ya_in rfl) (by decide) ?_
  refine g_const hX dL_most_503 ?_
  refine y_iadd (c := 15) hX dL_most_504 (by decide) ?_
  refine g_istore hX dL_most_505 ?_
  dsimp only [List.set]
  refine y_iinc (c := 15) hX dL_most_506 rfl (by decide) ?_
  dsimp only [List.set]
  refine g_goto hX dL_most_509 ?_
  refine g_iload hX dL_most_424 rfl ?_
  refine g_const hX dL_most_425 ?_
  refine yf_icmp_ge hX dL_most_427 (ya_in rfl) (ya_in rfl) (by decide) ?_
  refine g_const hX dL_most_430 ?_
  refine g_aload hX dL_most_432 rfl rfl ?_
  refine g_const hX dL_most_433 ?_
  refine g_const hX dL_most_436 ?_
  refine g_iload hX dL_most_438 rfl ?_
  refine y_imul (c := 150) hX dL_most_439 (by decide) ?_
  refine y_iadd (c := 1750) hX dL_most_440 (by decide) ?_
  refine g_const hX dL_most_441 ?_
  refine g_const hX dL_most_443 ?_
  refine l_weekday hX hst dL_most_444 hH hV (ya_in rfl) (ya_in rfl) (ya_in rfl) yme209 (show cs + 3 + 10 + 3 ≤ 5000 by omega) (show ss + 18 + 250 + 18 ≤ 125000 by omega) (by first | exact Nat.le_of_ble_eq_true rfl | simp [cat_rf, Value.category]) (fun A ow τ M sz hH hV => ?_)
  refine y_isub (c := 5) hX dL_most_447 (by decide) ?_
  refine g_const hX dL_most_448 ?_
  refine y_irem (c := 5) hX dL_most_450 (ya_in rfl) (ya_in rfl) (by decide) (by decide) (by decide) ?_
  exact mo_g44 hX hst hR hK hH hV (by omega) (by omega)

set_option maxRecDepth 20000 in
theorem mo_g42 {X : hX} (hX : Cok X mL_most) (hst : X.1.2.1.stackTraces = false) {M0 : hM} {sz0 : Nat} {K : hK} (hR : Ret X mL_most M0 sz0 K) (hK : ∀ (M' : hM) (s9 : Nat), K (.inl (some (.int (iZ 1)))) M' s9) {h : Nat} {A : Nat → Nat → Nat} {ow : Nat → Nat × Nat} {τ : Nat → Nat → Int} {M : hM} {sz cs ss : Nat} (hH : HX X.2.2.2.2.2.2.2.2.2 h A ow (ya_TB ymS89) τ M) (hV : SV (ya_TB ymS89)) (hc : cs + 3328 ≤ 5000) (hs : ss + 80388 ≤ 125000) : G X 504 [.ref h, .int (iZ 12), .int (iZ 12), .int (iZ 1), .int (iZ 3)] [.int (iZ 1), .int (iZ 12)] M sz cs ss := by
  refine y_iadd (c := 13) hX dL_most_504 (by decide) ?_
  refine g_istore hX dL_most_505 ?_
  dsimp only [List.set]
  refine y_iinc (c := 13) hX dL_most_506 rfl (by decide) ?_
  dsimp only [List.set]
  refine g_goto hX dL_most_509 ?_
  refine g_iload hX dL_most_424 rfl ?_
  refine g_const hX dL_most_425 ?_
  refine yf_icmp_ge hX dL_most_427 (ya_in rfl) (ya_in rfl) (by decide) ?_
  refine g_const hX dL_most_430 ?_
  refine g_aload hX dL_most_432 rfl rfl ?_
  refine g_const hX dL_most_433 ?_
  refine g_const hX dL_most_436 ?_
  refine g_iload hX dL_most_438 rfl ?_
  refine y_imul (c := 130) hX dL_most_439 (by decide) ?_
  refine y_iadd (c := 1730) hX dL_most_440 (by decide) ?_
  refine g_const hX dL_most_441 ?_
  refine g_const hX dL_most_443 ?_
  refine l_weekday hX hst dL_most_444 hH hV (ya_in rfl) (ya_in rfl) (ya_in rfl) yme203 (show cs + 3 ≤ 5000 by omega) (show ss + 18 ≤ 125000 by omega) (by first | exact Nat.le_of_ble_eq_true rfl | simp [cat_rf, Value.category]) (fun A ow τ M sz hH hV => ?_)
  refine y_isub (c := 2) hX dL_most_447 (by decide) ?_
  refine g_const hX dL_most_448 ?_
  refine y_irem (c := 2) hX dL_most_450 (ya_in rfl) (ya_in rfl) (by decide) (by decide) (by decide) ?_
  refine g_const hX dL_most_451 ?_
  refine y_iadd (c := 3) hX dL_most_452 (by decide) ?_
  refine g_istore hX dL_most_453 ?_
  dsimp only [List.set]
  refine g_aload hX dL_most_454 rfl rfl ?_
  refine g_const hX dL_most_455 ?_
  refine g_const hX dL_most_457 ?_
  refine g_const hX dL_most_460 ?_
  refine g_iload hX dL_most_462 rfl ?_
  refine y_imul (c := 130) hX dL_most_463 (by decide) ?_
  refine y_iadd (c := 1730) hX dL_most_464 (by decide) ?_
  refine g_const hX dL_most_465 ?_
  refine g_iload hX dL_most_467 rfl ?_
  refine g_const hX dL_most_468 ?_
  refine l_act hX hst dL_most_469 hH hV (ya_in rfl) (ya_in rfl) (ya_in rfl) (ya_in rfl) (ya_in rfl) yme205 (show cs + 3 + 10 ≤ 5000 by omega) (show ss + 18 + 250 ≤ 125000 by omega) (by first | exact Nat.le_of_ble_eq_true rfl | simp [cat_rf, Value.category]) (fun A ow τ M sz hH hV => ?_)
  refine g_istore hX dL_most_472 ?_
  dsimp only [List.set]
  refine g_iload hX dL_most_474 rfl ?_
  refine g_iload hX dL_most_476 rfl ?_
  refine g_const hX dL_most_477 ?_
  refine yf_icmp_ge hX dL_most_479 (ya_in rfl) (ya_in rfl) (by decide) ?_
  refine g_const hX dL_most_482 ?_
  refine g_goto hX dL_most_483 ?_
  refine yt_icmp_eq hX dL_most_488 (ya_in rfl) (ya_in rfl) (by decide) ?_
  refine g_iload hX dL_most_493 rfl ?_
  refine g_iload hX dL_most_494 rfl ?_
  refine yt_if_ge hX dL_most_496 (ya_in rfl) (by decide) ?_
  refine g_const hX dL_most_503 ?_
  refine y_iadd (c := 14) hX dL_most_504 (by decide) ?_
  refine g_istore hX dL_most_505 ?_
  dsimp only [List.set]
  refine y_iinc (c := 14) hX dL_most_506 rfl (by decide) ?_
  dsimp only [List.set]
  refine g_goto hX dL_most_509 ?_
  refine g_iload hX dL_most_424 rfl ?_
  refine g_const hX dL_most_425 ?_
  refine yf_icmp_ge hX dL_most_427 (ya_in rfl) (ya_in rfl) (by decide) ?_
  refine g_const hX dL_most_430 ?_
  refine g_aload hX dL_most_432 rfl rfl ?_
  exact mo_g43 hX hst hR hK hH hV (by omega) (by omega)

set_option maxRecDepth 20000 in
theorem mo_g41 {X : hX} (hX : Cok X mL_most) (hst : X.1.2.1.stackTraces = false) {M0 : hM} {sz0 : Nat} {K : hK} (hR : Ret X mL_most M0 sz0 K) (hK : ∀ (M' : hM) (s9 : Nat), K (.inl (some (.int (iZ 1)))) M' s9) {h : Nat} {A : Nat → Nat → Nat} {ow : Nat → Nat × Nat} {τ : Nat → Nat → Int} {M : hM} {sz cs ss : Nat} (hH : HX X.2.2.2.2.2.2.2.2.2 h A ow (ya_TB ymS88) τ M) (hV : SV (ya_TB ymS88)) (hc : cs + 3341 ≤ 5000) (hs : ss + 80656 ≤ 125000) : G X 474 [.ref h, .int (iZ 11), .int (iZ 11), .int (iZ 7), .int (iZ 3)] [] M sz cs ss := by
  refine g_iload hX dL_most_474 rfl ?_
  refine g_iload hX dL_most_476 rfl ?_
  refine g_const hX dL_most_477 ?_
  refine yf_icmp_ge hX dL_most_479 (ya_in rfl) (ya_in rfl) (by decide) ?_
  refine g_const hX dL_most_482 ?_
  refine g_goto hX dL_most_483 ?_
  refine yt_icmp_eq hX dL_most_488 (ya_in rfl) (ya_in rfl) (by decide) ?_
  refine g_iload hX dL_most_493 rfl ?_
  refine g_iload hX dL_most_494 rfl ?_
  refine yt_if_ge hX dL_most_496 (ya_in rfl) (by decide) ?_
  refine g_const hX dL_most_503 ?_
  refine y_iadd (c := 12) hX dL_most_504 (by decide) ?_
  refine g_istore hX dL_most_505 ?_
  dsimp only [List.set]
  refine y_iinc (c := 12) hX dL_most_506 rfl (by decide) ?_
  dsimp only [List.set]
  refine g_goto hX dL_most_509 ?_
  refine g_iload hX dL_most_424 rfl ?_
  refine g_const hX dL_most_425 ?_
  refine yf_icmp_ge hX dL_most_427 (ya_in rfl) (ya_in rfl) (by decide) ?_
  refine g_const hX dL_most_430 ?_
  refine g_aload hX dL_most_432 rfl rfl ?_
  refine g_const hX dL_most_433 ?_
  refine g_const hX dL_most_436 ?_
  refine g_iload hX dL_most_438 rfl ?_
  refine y_imul (c := 120) hX dL_most_439 (by decide) ?_
  refine y_iadd (c := 1720) hX dL_most_440 (by decide) ?_
  refine g_const hX dL_most_441 ?_
  refine g_const hX dL_most_443 ?_
  refine l_weekday hX hst dL_most_444 hH hV (ya_in rfl) (ya_in rfl) (ya_in rfl) yme200 (show cs + 3 ≤ 5000 by omega) (show ss + 18 ≤ 125000 by omega) (by first | exact Nat.le_of_ble_eq_true rfl | simp [cat_rf, Value.category]) (fun A ow τ M sz hH hV => ?_)
  refine y_isub (c := 7) hX dL_most_447 (by decide) ?_
  refine g_const hX dL_most_448 ?_
  refine y_irem (c := 0) hX dL_most_450 (ya_in rfl) (ya_in rfl) (by decide) (by decide) (by decide) ?_
  refine g_const hX dL_most_451 ?_
  refine y_iadd (c := 1) hX dL_most_452 (by decide) ?_
  refine g_istore hX dL_most_453 ?_
  dsimp only [List.set]
  refine g_aload hX dL_most_454 rfl rfl ?_
  refine g_const hX dL_most_455 ?_
  refine g_const hX dL_most_457 ?_
  refine g_const hX dL_most_460 ?_
  refine g_iload hX dL_most_462 rfl ?_
  refine y_imul (c := 120) hX dL_most_463 (by decide) ?_
  refine y_iadd (c := 1720) hX dL_most_464 (by decide) ?_
  refine g_const hX dL_most_465 ?_
  refine g_iload hX dL_most_467 rfl ?_
  refine g_const hX dL_most_468 ?_
  refine l_act hX hst dL_most_469 hH hV (ya_in rfl) (ya_in rfl) (ya_in rfl) (ya_in rfl) (ya_in rfl) yme202 (show cs + 3 + 10 ≤ 5000 by omega) (show ss + 18 + 250 ≤ 125000 by omega) (by first | exact Nat.le_of_ble_eq_true rfl | simp [cat_rf, Value.category]) (fun A ow τ M sz hH hV => ?_)
  refine g_istore hX dL_most_472 ?_
  dsimp only [List.set]
  refine g_iload hX dL_most_474 rfl ?_
  refine g_iload hX dL_most_476 rfl ?_
  refine g_const hX dL_most_477 ?_
  refine yf_icmp_ge hX dL_most_479 (ya_in rfl) (ya_in rfl) (by decide) ?_
  refine g_const hX dL_most_482 ?_
  refine g_goto hX dL_most_483 ?_
  refine yt_icmp_eq hX dL_most_488 (ya_in rfl) (ya_in rfl) (by decide) ?_
  refine g_iload hX dL_most_493 rfl ?_
  refine g_iload hX dL_most_494 rfl ?_
  refine yt_if_ge hX dL_most_496 (ya_in rfl) (by decide) ?_
  refine g_const hX dL_most_503 ?_
  exact mo_g42 hX hst hR hK hH hV (by omega) (by omega)

set_option maxRecDepth 20000 in
theorem mo_g40 {X : hX} (hX : Cok X mL_most) (hst : X.1.2.1.stackTraces = false) {M0 : hM} {sz0 : Nat} {K : hK} (hR : Ret X mL_most M0 sz0 K) (hK : ∀ (M' : hM) (s9 : Nat), K (.inl (some (.int (iZ 1)))) M' s9) {h : Nat} {A : Nat → Nat → Nat} {ow : Nat → Nat × Nat} {τ : Nat → Nat → Int} {M : hM} {sz cs ss : Nat} (hH : HX X.2.2.2.2.2.2.2.2.2 h A ow (ya_TB ymS86) τ M) (hV : SV (ya_TB ymS86)) (hc : cs + 3364 ≤ 5000) (hs : ss + 81174 ≤ 125000) : G X 457 [.ref h, .int (iZ 10), .int (iZ 10), .int (iZ 5), .int (iZ 3)] [.int (iZ 23), .ref h] M sz cs ss := by
  refine g_const hX dL_most_457 ?_
  refine g_const hX dL_most_460 ?_
  refine g_iload hX dL_most_462 rfl ?_
  refine y_imul (c := 100) hX dL_most_463 (by decide) ?_
  refine y_iadd (c := 1700) hX dL_most_464 (by decide) ?_
  refine g_const hX dL_most_465 ?_
  refine g_iload hX dL_most_467 rfl ?_
  refine g_const hX dL_most_468 ?_
  refine l_act hX hst dL_most_469 hH hV (ya_in rfl) (ya_in rfl) (ya_in rfl) (ya_in rfl) (ya_in rfl) yme196 (show cs + 10 ≤ 5000 by omega) (show ss + 250 ≤ 125000 by omega) (by first | exact Nat.le_of_ble_eq_true rfl | simp [cat_rf, Value.category]) (fun A ow τ M sz hH hV => ?_)
  refine g_istore hX dL_most_472 ?_
  dsimp only [List.set]
  refine g_iload hX dL_most_474 rfl ?_
  refine g_iload hX dL_most_476 rfl ?_
  refine g_const hX dL_most_477 ?_
  refine yf_icmp_ge hX dL_most_479 (ya_in rfl) (ya_in rfl) (by decide) ?_
  refine g_const hX dL_most_482 ?_
  refine g_goto hX dL_most_483 ?_
  refine yt_icmp_eq hX dL_most_488 (ya_in rfl) (ya_in rfl) (by decide) ?_
  refine g_iload hX dL_most_493 rfl ?_
  refine g_iload hX dL_most_494 rfl ?_
  refine yt_if_ge hX dL_most_496 (ya_in rfl) (by decide) ?_
  refine g_const hX dL_most_503 ?_
  refine y_iadd (c := 11) hX dL_most_504 (by decide) ?_
  refine g_istore hX dL_most_505 ?_
  dsimp only [List.set]
  refine y_iinc (c := 11) hX dL_most_506 rfl (by decide) ?_
  dsimp only [List.set]
  refine g_goto hX dL_most_509 ?_
  refine g_iload hX dL_most_424 rfl ?_
  refine g_const hX dL_most_425 ?_
  refine yf_icmp_ge hX dL_most_427 (ya_in rfl) (ya_in rfl) (by decide) ?_
  refine g_const hX dL_most_430 ?_
  refine g_aload hX dL_most_432 rfl rfl ?_
  refine g_const hX dL_most_433 ?_
  refine g_const hX dL_most_436 ?_
  refine g_iload hX dL_most_438 rfl ?_
  refine y_imul (c := 110) hX dL_most_439 (by decide) ?_
  refine y_iadd (c := 1710) hX dL_most_440 (by decide) ?_
  refine g_const hX dL_most_441 ?_
  refine g_const hX dL_most_443 ?_
  refine l_weekday hX hst dL_most_444 hH hV (ya_in rfl) (ya_in rfl) (ya_in rfl) yme197 (show cs + 10 + 3 ≤ 5000 by omega) (show ss + 250 + 18 ≤ 125000 by omega) (by first | exact Nat.le_of_ble_eq_true rfl | simp [cat_rf, Value.category]) (fun A ow τ M sz hH hV => ?_)
  refine y_isub (c := 6) hX dL_most_447 (by decide) ?_
  refine g_const hX dL_most_448 ?_
  refine y_irem (c := 6) hX dL_most_450 (ya_in rfl) (ya_in rfl) (by decide) (by decide) (by decide) ?_
  refine g_const hX dL_most_451 ?_
  refine y_iadd (c := 7) hX dL_most_452 (by decide) ?_
  refine g_istore hX dL_most_453 ?_
  dsimp only [List.set]
  refine g_aload hX dL_most_454 rfl rfl ?_
  refine g_const hX dL_most_455 ?_
  refine g_const hX dL_most_457 ?_
  refine g_const hX dL_most_460 ?_
  refine g_iload hX dL_most_462 rfl ?_
  refine y_imul (c := 110) hX dL_most_463 (by decide) ?_
  refine y_iadd (c := 1710) hX dL_most_464 (by decide) ?_
  refine g_const hX dL_most_465 ?_
  refine g_iload hX dL_most_467 rfl ?_
  refine g_const hX dL_most_468 ?_
  refine l_act hX hst dL_most_469 hH hV (ya_in rfl) (ya_in rfl) (ya_in rfl) (ya_in rfl) (ya_in rfl) yme199 (show cs + 10 + 3 + 10 ≤ 5000 by omega) (show ss + 250 + 18 + 250 ≤ 125000 by omega) (by first | exact Nat.le_of_ble_eq_true rfl | simp [cat_rf, Value.category]) (fun A ow τ M sz hH hV => ?_)
  refine g_istore hX dL_most_472 ?_
  dsimp only [List.set]
  exact mo_g41 hX hst hR hK hH hV (by omega) (by omega)

set_option maxRecDepth 20000 in
theorem mo_g39 {X : hX} (hX : Cok X mL_most) (hst : X.1.2.1.stackTraces = false) {M0 : hM} {sz0 : Nat} {K : hK} (hR : Ret X mL_most M0 sz0 K) (hK : ∀ (M' : hM) (s9 : Nat), K (.inl (some (.int (iZ 1)))) M' s9) {h : Nat} {A : Nat → Nat → Nat} {ow : Nat → Nat × Nat} {τ : Nat → Nat → Int} {M : hM} {sz cs ss : Nat} (hH : HX X.2.2.2.2.2.2.2.2.2 h A ow (ya_TB ymS85) τ M) (hV : SV (ya_TB ymS85)) (hc : cs + 3380 ≤ 5000) (hs : ss + 81460 ≤ 125000) : G X 443 [.ref h, .int (iZ 9), .int (iZ 9), .int (iZ 1), .int (iZ 3)] [.int (iZ 9), .int (iZ 1690), .ref h, .int (iZ 7)] M sz cs ss := by
  refine g_const hX dL_most_443 ?_
  refine l_weekday hX hst dL_most_444 hH hV (ya_in rfl) (ya_in rfl) (ya_in rfl) yme191 (show cs + 3 ≤ 5000 by omega) (show ss + 18 ≤ 125000 by omega) (by first | exact Nat.le_of_ble_eq_true rfl | simp [cat_rf, Value.category]) (fun A ow τ M sz hH hV => ?_)
  refine y_isub (c := 2) hX dL_most_447 (by decide) ?_
  refine g_const hX dL_most_448 ?_
  refine y_irem (c := 2) hX dL_most_450 (ya_in rfl) (ya_in rfl) (by decide) (by decide) (by decide) ?_
  refine g_const hX dL_most_451 ?_
  refine y_iadd (c := 3) hX dL_most_452 (by decide) ?_
  refine g_istore hX dL_most_453 ?_
  dsimp only [List.set]
  refine g_aload hX dL_most_454 rfl rfl ?_
  refine g_const hX dL_most_455 ?_
  refine g_const hX dL_most_457 ?_
  refine g_const hX dL_most_460 ?_
  refine g_iload hX dL_most_462 rfl ?_
  refine y_imul (c := 90) hX dL_most_463 (by decide) ?_
  refine y_iadd (c := 1690) hX dL_most_464 (by decide) ?_
  refine g_const hX dL_most_465 ?_
  refine g_iload hX dL_most_467 rfl ?_
  refine g_const hX dL_most_468 ?_
  refine l_act hX hst dL_most_469 hH hV (ya_in rfl) (ya_in rfl) (ya_in rfl) (ya_in rfl) (ya_in rfl) yme193 (show cs + 3 + 10 ≤ 5000 by omega) (show ss + 18 + 250 ≤ 125000 by omega) (by first | exact Nat.le_of_ble_eq_true rfl | simp [cat_rf, Value.category]) (fun A ow τ M sz hH hV => ?_)
  refine g_istore hX dL_most_472 ?_
  dsimp only [List.set]
  refine g_iload hX dL_most_474 rfl ?_
  refine g_iload hX dL_most_476 rfl ?_
  refine g_const hX dL_most_477 ?_
  refine yf_icmp_ge hX dL_most_479 (ya_in rfl) (ya_in rfl) (by decide) ?_
  refine g_const hX dL_most_482 ?_
  refine g_goto hX dL_most_483 ?_
  refine yt_icmp_eq hX dL_most_488 (ya_in rfl) (ya_in rfl) (by decide) ?_
  refine g_iload hX dL_most_493 rfl ?_
  refine g_iload hX dL_most_494 rfl ?_
  refine yt_if_ge hX dL_most_496 (ya_in rfl) (by decide) ?_
  refine g_const hX dL_most_503 ?_
  refine y_iadd (c := 10) hX dL_most_504 (by decide) ?_
  refine g_istore hX dL_most_505 ?_
  dsimp only [List.set]
  refine y_iinc (c := 10) hX dL_most_506 rfl (by decide) ?_
  dsimp only [List.set]
  refine g_goto hX dL_most_509 ?_
  refine g_iload hX dL_most_424 rfl ?_
  refine g_const hX dL_most_425 ?_
  refine yf_icmp_ge hX dL_most_427 (ya_in rfl) (ya_in rfl) (by decide) ?_
  refine g_const hX dL_most_430 ?_
  refine g_aload hX dL_most_432 rfl rfl ?_
  refine g_const hX dL_most_433 ?_
  refine g_const hX dL_most_436 ?_
  refine g_iload hX dL_most_438 rfl ?_
  refine y_imul (c := 100) hX dL_most_439 (by decide) ?_
  refine y_iadd (c := 1700) hX dL_most_440 (by decide) ?_
  refine g_const hX dL_most_441 ?_
  refine g_const hX dL_most_443 ?_
  refine l_weekday hX hst dL_most_444 hH hV (ya_in rfl) (ya_in rfl) (ya_in rfl) yme194 (show cs + 3 + 10 + 3 ≤ 5000 by omega) (show ss + 18 + 250 + 18 ≤ 125000 by omega) (by first | exact Nat.le_of_ble_eq_true rfl | simp [cat_rf, Value.category]) (fun A ow τ M sz hH hV => ?_)
  refine y_isub (c := 4) hX dL_most_447 (by decide) ?_
  refine g_const hX dL_most_448 ?_
  refine y_irem (c := 4) hX dL_most_450 (ya_in rfl) (ya_in rfl) (by decide) (by decide) (by decide) ?_
  refine g_const hX dL_most_451 ?_
  refine y_iadd (c := 5) hX dL_most_452 (by decide) ?_
  refine g_istore hX dL_most_453 ?_
  dsimp only [List.set]
  refine g_aload hX dL_most_454 rfl rfl ?_
  refine g_const hX dL_most_455 ?_
  exact mo_g40 hX hst hR hK hH hV (by omega) (by omega)

set_option maxRecDepth 20000 in
theorem mo_g38 {X : hX} (hX : Cok X mL_most) (hst : X.1.2.1.stackTraces = false) {M0 : hM} {sz0 : Nat} {K : hK} (hR : Ret X mL_most M0 sz0 K) (hK : ∀ (M' : hM) (s9 : Nat), K (.inl (some (.int (iZ 1)))) M' s9) {h : Nat} {A : Nat → Nat → Nat} {ow : Nat → Nat × Nat} {τ : Nat → Nat → Int} {M : hM} {sz cs ss : Nat} (hH : HX X.2.2.2.2.2.2.2.2.2 h A ow (ya_TB ymS84) τ M) (hV : SV (ya_TB ymS84)) (hc : cs + 3393 ≤ 5000) (hs : ss + 81728 ≤ 125000) : G X 424 [.ref h, .int (iZ 8), .int (iZ 8), .int (iZ 7), .int (iZ 3)] [] M sz cs ss := by
  refine g_iload hX dL_most_424 rfl ?_
  refine g_const hX dL_most_425 ?_
  refine yf_icmp_ge hX dL_most_427 (ya_in rfl) (ya_in rfl) (by decide) ?_
  refine g_const hX dL_most_430 ?_
  refine g_aload hX dL_most_432 rfl rfl ?_
  refine g_const hX dL_most_433 ?_
  refine g_const hX dL_most_436 ?_
  refine g_iload hX dL_most_438 rfl ?_
  refine y_imul (c := 80) hX dL_most_439 (by decide) ?_
  refine y_iadd (c := 1680) hX dL_most_440 (by decide) ?_
  refine g_const hX dL_most_441 ?_
  refine g_const hX dL_most_443 ?_
  refine l_weekday hX hst dL_most_444 hH hV (ya_in rfl) (ya_in rfl) (ya_in rfl) yme188 (show cs + 3 ≤ 5000 by omega) (show ss + 18 ≤ 125000 by omega) (by first | exact Nat.le_of_ble_eq_true rfl | simp [cat_rf, Value.category]) (fun A ow τ M sz hH hV => ?_)
  refine y_isub (c := 7) hX dL_most_447 (by decide) ?_
  refine g_const hX dL_most_448 ?_
  refine y_irem (c := 0) hX dL_most_450 (ya_in rfl) (ya_in rfl) (by decide) (by decide) (by decide) ?_
  refine g_const hX dL_most_451 ?_
  refine y_iadd (c := 1) hX dL_most_452 (by decide) ?_
  refine g_istore hX dL_most_453 ?_
  dsimp only [List.set]
  refine g_aload hX dL_most_454 rfl rfl ?_
  refine g_const hX dL_most_455 ?_
  refine g_const hX dL_most_457 ?_
  refine g_const hX dL_most_460 ?_
  refine g_iload hX dL_most_462 rfl ?_
  refine y_imul (c := 80) hX dL_most_463 (by decide) ?_
  refine y_iadd (c := 1680) hX dL_most_464 (by decide) ?_
  refine g_const hX dL_most_465 ?_
  refine g_iload hX dL_most_467 rfl ?_
  refine g_const hX dL_most_468 ?_
  refine l_act hX hst dL_most_469 hH hV (ya_in rfl) (ya_in rfl) (ya_in rfl) (ya_in rfl) (ya_in rfl) yme190 (show cs + 3 + 10 ≤ 5000 by omega) (show ss + 18 + 250 ≤ 125000 by omega) (by first | exact Nat.le_of_ble_eq_true rfl | simp [cat_rf, Value.category]) (fun A ow τ M sz hH hV => ?_)
  refine g_istore hX dL_most_472 ?_
  dsimp only [List.set]
  refine g_iload hX dL_most_474 rfl ?_
  refine g_iload hX dL_most_476 rfl ?_
  refine g_const hX dL_most_477 ?_
  refine yf_icmp_ge hX dL_most_479 (ya_in rfl) (ya_in rfl) (by decide) ?_
  refine g_const hX dL_most_482 ?_
  refine g_goto hX dL_most_483 ?_
  refine yt_icmp_eq hX dL_most_488 (ya_in rfl) (ya_in rfl) (by decide) ?_
  refine g_iload hX dL_most_493 rfl ?_
  refine g_iload hX dL_most_494 rfl ?_
  refine yt_if_ge hX dL_most_496 (ya_in rfl) (by decide) ?_
  refine g_const hX dL_most_503 ?_
  refine y_iadd (c := 9) hX dL_most_504 (by decide) ?_
  refine g_istore hX dL_most_505 ?_
  dsimp only [List.set]
  refine y_iinc (c := 9) hX dL_most_506 rfl (by decide) ?_
  dsimp only [List.set]
  refine g_goto hX dL_most_509 ?_
  refine g_iload hX dL_most_424 rfl ?_
  refine g_const hX dL_most_425 ?_
  refine yf_icmp_ge hX dL_most_427 (ya_in rfl) (ya_in rfl) (by decide) ?_
  refine g_const hX dL_most_430 ?_
  refine g_aload hX dL_most_432 rfl rfl ?_
  refine g_const hX dL_most_433 ?_
  refine g_const hX dL_most_436 ?_
  refine g_iload hX dL_most_438 rfl ?_
  refine y_imul (c := 90) hX dL_most_439 (by decide) ?_
  refine y_iadd (c := 1690) hX dL_most_440 (by decide) ?_
  refine g_const hX dL_most_441 ?_
  exact mo_g39 hX hst hR hK hH hV (by omega) (by omega)

set_option maxRecDepth 20000 in
theorem mo_g37 {X : hX} (hX : Cok X mL_most) (hst : X.1.2.1.stackTraces = false) {M0 : hM} {sz0 : Nat} {K : hK} (hR : Ret X mL_most M0 sz0 K) (hK : ∀ (M' : hM) (s9 : Nat), K (.inl (some (.int (iZ 1)))) M' s9) {h : Nat} {A : Nat → Nat → Nat} {ow : Nat → Nat × Nat} {τ : Nat → Nat → Int} {M : hM} {sz cs ss : Nat} (hH : HX X.2.2.2.2.2.2.2.2.2 h A ow (ya_TB ymS83) τ M) (hV : SV (ya_TB ymS83)) (hc : cs + 3406 ≤ 5000) (hs : ss + 81996 ≤ 125000) : G X 488 [.ref h, .int (iZ 6), .int (iZ 6), .int (iZ 5), .int (iZ 3)] [.int (iZ 3), .int (iZ 3)] M sz cs ss := by
  refine yt_icmp_eq hX dL_most_488 (ya_in rfl) (ya_in rfl) (by decide) ?_
  refine g_iload hX dL_most_493 rfl ?_
  refine g_iload hX dL_most_494 rfl ?_
  refine yt_if_ge hX dL_most_496 (ya_in rfl) (by decide) ?_
  refine g_const hX dL_most_503 ?_
  refine y_iadd (c := 7) hX dL_most_504 (by decide) ?_
  refine g_istore hX dL_most_505 ?_
  dsimp only [List.set]
  refine y_iinc (c := 7) hX dL_most_506 rfl (by decide) ?_
  dsimp only [List.set]
  refine g_goto hX dL_most_509 ?_
  refine g_iload hX dL_most_424 rfl ?_
  refine g_const hX dL_most_425 ?_
  refine yf_icmp_ge hX dL_most_427 (ya_in rfl) (ya_in rfl) (by decide) ?_
  refine g_const hX dL_most_430 ?_
  refine g_aload hX dL_most_432 rfl rfl ?_
  refine g_const hX dL_most_433 ?_
  refine g_const hX dL_most_436 ?_
  refine g_iload hX dL_most_438 rfl ?_
  refine y_imul (c := 70) hX dL_most_439 (by decide) ?_
  refine y_iadd (c := 1670) hX dL_most_440 (by decide) ?_
  refine g_const hX dL_most_441 ?_
  refine g_const hX dL_most_443 ?_
  refine l_weekday hX hst dL_most_444 hH hV (ya_in rfl) (ya_in rfl) (ya_in rfl) yme185 (show cs + 3 ≤ 5000 by omega) (show ss + 18 ≤ 125000 by omega) (by first | exact Nat.le_of_ble_eq_true rfl | simp [cat_rf, Value.category]) (fun A ow τ M sz hH hV => ?_)
  refine y_isub (c := 6) hX dL_most_447 (by decide) ?_
  refine g_const hX dL_most_448 ?_
  refine y_irem (c := 6) hX dL_most_450 (ya_in rfl) (ya_in rfl) (by decide) (by decide) (by decide) ?_
  refine g_const hX dL_most_451 ?_
  refine y_iadd (c := 7) hX dL_most_452 (by decide) ?_
  refine g_istore hX dL_most_453 ?_
  dsimp only [List.set]
  refine g_aload hX dL_most_454 rfl rfl ?_
  refine g_const hX dL_most_455 ?_
  refine g_const hX dL_most_457 ?_
  refine g_const hX dL_most_460 ?_
  refine g_iload hX dL_most_462 rfl ?_
  refine y_imul (c := 70) hX dL_most_463 (by decide) ?_
  refine y_iadd (c := 1670) hX dL_most_464 (by decide) ?_
  refine g_const hX dL_most_465 ?_
  refine g_iload hX dL_most_467 rfl ?_
  refine g_const hX dL_most_468 ?_
  refine l_act hX hst dL_most_469 hH hV (ya_in rfl) (ya_in rfl) (ya_in rfl) (ya_in rfl) (ya_in rfl) yme187 (show cs + 3 + 10 ≤ 5000 by omega) (show ss + 18 + 250 ≤ 125000 by omega) (by first | exact Nat.le_of_ble_eq_true rfl | simp [cat_rf, Value.category]) (fun A ow τ M sz hH hV => ?_)
  refine g_istore hX dL_most_472 ?_
  dsimp only [List.set]
  refine g_iload hX dL_most_474 rfl ?_
  refine g_iload hX dL_most_476 rfl ?_
  refine g_const hX dL_most_477 ?_
  refine yf_icmp_ge hX dL_most_479 (ya_in rfl) (ya_in rfl) (by decide) ?_
  refine g_const hX dL_most_482 ?_
  refine g_goto hX dL_most_483 ?_
  refine yt_icmp_eq hX dL_most_488 (ya_in rfl) (ya_in rfl) (by decide) ?_
  refine g_iload hX dL_most_493 rfl ?_
  refine g_iload hX dL_most_494 rfl ?_
  refine yt_if_ge hX dL_most_496 (ya_in rfl) (by decide) ?_
  refine g_const hX dL_most_503 ?_
  refine y_iadd (c := 8) hX dL_most_504 (by decide) ?_
  refine g_istore hX dL_most_505 ?_
  dsimp only [List.set]
  refine y_iinc (c := 8) hX dL_most_506 rfl (by decide) ?_
  dsimp only [List.set]
  refine g_goto hX dL_most_509 ?_
  exact mo_g38 hX hst hR hK hH hV (by omega) (by omega)

set_option maxRecDepth 20000 in
theorem mo_g36 {X : hX} (hX : Cok X mL_most) (hst : X.1.2.1.stackTraces = false) {M0 : hM} {sz0 : Nat} {K : hK} (hR : Ret X mL_most M0 sz0 K) (hK : ∀ (M' : hM) (s9 : Nat), K (.inl (some (.int (iZ 1)))) M' s9) {h : Nat} {A : Nat → Nat → Nat} {ow : Nat → Nat × Nat} {τ : Nat → Nat → Int} {M : hM} {sz cs ss : Nat} (hH : HX X.2.2.2.2.2.2.2.2.2 h A ow (ya_TB ymS81) τ M) (hV : SV (ya_TB ymS81)) (hc : cs + 3429 ≤ 5000) (hs : ss + 82514 ≤ 125000) : G X 467 [.ref h, .int (iZ 5), .int (iZ 5), .int (iZ 4), .int (iZ 3)] [.int (iZ 9), .int (iZ 1650), .int (iZ 23), .ref h] M sz cs ss := by
  refine g_iload hX dL_most_467 rfl ?_
  refine g_const hX dL_most_468 ?_
  refine l_act hX hst dL_most_469 hH hV (ya_in rfl) (ya_in rfl) (ya_in rfl) (ya_in rfl) (ya_in rfl) yme181 (show cs + 10 ≤ 5000 by omega) (show ss + 250 ≤ 125000 by omega) (by first | exact Nat.le_of_ble_eq_true rfl | simp [cat_rf, Value.category]) (fun A ow τ M sz hH hV => ?_)
  refine g_istore hX dL_most_472 ?_
  dsimp only [List.set]
  refine g_iload hX dL_most_474 rfl ?_
  refine g_iload hX dL_most_476 rfl ?_
  refine g_const hX dL_most_477 ?_
  refine yf_icmp_ge hX dL_most_479 (ya_in rfl) (ya_in rfl) (by decide) ?_
  refine g_const hX dL_most_482 ?_
  refine g_goto hX dL_most_483 ?_
  refine yt_icmp_eq hX dL_most_488 (ya_in rfl) (ya_in rfl) (by decide) ?_
  refine g_iload hX dL_most_493 rfl ?_
  refine g_iload hX dL_most_494 rfl ?_
  refine yt_if_ge hX dL_most_496 (ya_in rfl) (by decide) ?_
  refine g_const hX dL_most_503 ?_
  refine y_iadd (c := 6) hX dL_most_504 (by decide) ?_
  refine g_istore hX dL_most_505 ?_
  dsimp only [List.set]
  refine y_iinc (c := 6) hX dL_most_506 rfl (by decide) ?_
  dsimp only [List.set]
  refine g_goto hX dL_most_509 ?_
  refine g_iload hX dL_most_424 rfl ?_
  refine g_const hX dL_most_425 ?_
  refine yf_icmp_ge hX dL_most_427 (ya_in rfl) (ya_in rfl) (by decide) ?_
  refine g_const hX dL_most_430 ?_
  refine g_aload hX dL_most_432 rfl rfl ?_
  refine g_const hX dL_most_433 ?_
  refine g_const hX dL_most_436 ?_
  refine g_iload hX dL_most_438 rfl ?_
  refine y_imul (c := 60) hX dL_most_439 (by decide) ?_
  refine y_iadd (c := 1660) hX dL_most_440 (by decide) ?_
  refine g_const hX dL_most_441 ?_
  refine g_const hX dL_most_443 ?_
  refine l_weekday hX hst dL_most_444 hH hV (ya_in rfl) (ya_in rfl) (ya_in rfl) yme182 (show cs + 10 + 3 ≤ 5000 by omega) (show ss + 250 + 18 ≤ 125000 by omega) (by first | exact Nat.le_of_ble_eq_true rfl | simp [cat_rf, Value.category]) (fun A ow τ M sz hH hV => ?_)
  refine y_isub (c := 4) hX dL_most_447 (by decide) ?_
  refine g_const hX dL_most_448 ?_
  refine y_irem (c := 4) hX dL_most_450 (ya_in rfl) (ya_in rfl) (by decide) (by decide) (by decide) ?_
  refine g_const hX dL_most_451 ?_
  refine y_iadd (c := 5) hX dL_most_452 (by decide) ?_
  refine g_istore hX dL_most_453 ?_
  dsimp only [List.set]
  refine g_aload hX dL_most_454 rfl rfl ?_
  refine g_const hX dL_most_455 ?_
  refine g_const hX dL_most_457 ?_
  refine g_const hX dL_most_460 ?_
  refine g_iload hX dL_most_462 rfl ?_
  refine y_imul (c := 60) hX dL_most_463 (by decide) ?_
  refine y_iadd (c := 1660) hX dL_most_464 (by decide) ?_
  refine g_const hX dL_most_465 ?_
  refine g_iload hX dL_most_467 rfl ?_
  refine g_const hX dL_most_468 ?_
  refine l_act hX hst dL_most_469 hH hV (ya_in rfl) (ya_in rfl) (ya_in rfl) (ya_in rfl) (ya_in rfl) yme184 (show cs + 10 + 3 + 10 ≤ 5000 by omega) (show ss + 250 + 18 + 250 ≤ 125000 by omega) (by first | exact Nat.le_of_ble_eq_true rfl | simp [cat_rf, Value.category]) (fun A ow τ M sz hH hV => ?_)
  refine g_istore hX dL_most_472 ?_
  dsimp only [List.set]
  refine g_iload hX dL_most_474 rfl ?_
  refine g_iload hX dL_most_476 rfl ?_
  refine g_const hX dL_most_477 ?_
  refine yf_icmp_ge hX dL_most_479 (ya_in rfl) (ya_in rfl) (by decide) ?_
  refine g_const hX dL_most_482 ?_
  refine g_goto hX dL_most_483 ?_
  exact mo_g37 hX hst hR hK hH hV (by omega) (by omega)

set_option maxRecDepth 20000 in
theorem mo_g35 {X : hX} (hX : Cok X mL_most) (hst : X.1.2.1.stackTraces = false) {M0 : hM} {sz0 : Nat} {K : hK} (hR : Ret X mL_most M0 sz0 K) (hK : ∀ (M' : hM) (s9 : Nat), K (.inl (some (.int (iZ 1)))) M' s9) {h : Nat} {A : Nat → Nat → Nat} {ow : Nat → Nat × Nat} {τ : Nat → Nat → Int} {M : hM} {sz cs ss : Nat} (hH : HX X.2.2.2.2.2.2.2.2.2 h A ow (ya_TB ymS80) τ M) (hV : SV (ya_TB ymS80)) (hc : cs + 3442 ≤ 5000) (hs : ss + 82782 ≤ 125000) : G X 452 [.ref h, .int (iZ 4), .int (iZ 4), .int (iZ 1), .int (iZ 3)] [.int (iZ 1), .int (iZ 1)] M sz cs ss := by
  refine y_iadd (c := 2) hX dL_most_452 (by decide) ?_
  refine g_istore hX dL_most_453 ?_
  dsimp only [List.set]
  refine g_aload hX dL_most_454 rfl rfl ?_
  refine g_const hX dL_most_455 ?_
  refine g_const hX dL_most_457 ?_
  refine g_const hX dL_most_460 ?_
  refine g_iload hX dL_most_462 rfl ?_
  refine y_imul (c := 40) hX dL_most_463 (by decide) ?_
  refine y_iadd (c := 1640) hX dL_most_464 (by decide) ?_
  refine g_const hX dL_most_465 ?_
  refine g_iload hX dL_most_467 rfl ?_
  refine g_const hX dL_most_468 ?_
  refine l_act hX hst dL_most_469 hH hV (ya_in rfl) (ya_in rfl) (ya_in rfl) (ya_in rfl) (ya_in rfl) yme178 (show cs + 10 ≤ 5000 by omega) (show ss + 250 ≤ 125000 by omega) (by first | exact Nat.le_of_ble_eq_true rfl | simp [cat_rf, Value.category]) (fun A ow τ M sz hH hV => ?_)
  refine g_istore hX dL_most_472 ?_
  dsimp only [List.set]
  refine g_iload hX dL_most_474 rfl ?_
  refine g_iload hX dL_most_476 rfl ?_
  refine g_const hX dL_most_477 ?_
  refine yf_icmp_ge hX dL_most_479 (ya_in rfl) (ya_in rfl) (by decide) ?_
  refine g_const hX dL_most_482 ?_
  refine g_goto hX dL_most_483 ?_
  refine yt_icmp_eq hX dL_most_488 (ya_in rfl) (ya_in rfl) (by decide) ?_
  refine g_iload hX dL_most_493 rfl ?_
  refine g_iload hX dL_most_494 rfl ?_
  refine yt_if_ge hX dL_most_496 (ya_in rfl) (by decide) ?_
  refine g_const hX dL_most_503 ?_
  refine y_iadd (c := 5) hX dL_most_504 (by decide) ?_
  refine g_istore hX dL_most_505 ?_
  dsimp only [List.set]
  refine y_iinc (c := 5) hX dL_most_506 rfl (by decide) ?_
  dsimp only [List.set]
  refine g_goto hX dL_most_509 ?_
  refine g_iload hX dL_most_424 rfl ?_
  refine g_const hX dL_most_425 ?_
  refine yf_icmp_ge hX dL_most_427 (ya_in rfl) (ya_in rfl) (by decide) ?_
  refine g_const hX dL_most_430 ?_
  refine g_aload hX dL_most_432 rfl rfl ?_
  refine g_const hX dL_most_433 ?_
  refine g_const hX dL_most_436 ?_
  refine g_iload hX dL_most_438 rfl ?_
  refine y_imul (c := 50) hX dL_most_439 (by decide) ?_
  refine y_iadd (c := 1650) hX dL_most_440 (by decide) ?_
  refine g_const hX dL_most_441 ?_
  refine g_const hX dL_most_443 ?_
  refine l_weekday hX hst dL_most_444 hH hV (ya_in rfl) (ya_in rfl) (ya_in rfl) yme179 (show cs + 10 + 3 ≤ 5000 by omega) (show ss + 250 + 18 ≤ 125000 by omega) (by first | exact Nat.le_of_ble_eq_true rfl | simp [cat_rf, Value.category]) (fun A ow τ M sz hH hV => ?_)
  refine y_isub (c := 3) hX dL_most_447 (by decide) ?_
  refine g_const hX dL_most_448 ?_
  refine y_irem (c := 3) hX dL_most_450 (ya_in rfl) (ya_in rfl) (by decide) (by decide) (by decide) ?_
  refine g_const hX dL_most_451 ?_
  refine y_iadd (c := 4) hX dL_most_452 (by decide) ?_
  refine g_istore hX dL_most_453 ?_
  dsimp only [List.set]
  refine g_aload hX dL_most_454 rfl rfl ?_
  refine g_const hX dL_most_455 ?_
  refine g_const hX dL_most_457 ?_
  refine g_const hX dL_most_460 ?_
  refine g_iload hX dL_most_462 rfl ?_
  refine y_imul (c := 50) hX dL_most_463 (by decide) ?_
  refine y_iadd (c := 1650) hX dL_most_464 (by decide) ?_
  refine g_const hX dL_most_465 ?_
  exact mo_g36 hX hst hR hK hH hV (by omega) (by omega)

set_option maxRecDepth 20000 in
theorem mo_g34 {X : hX} (hX : Cok X mL_most) (hst : X.1.2.1.stackTraces = false) {M0 : hM} {sz0 : Nat} {K : hK} (hR : Ret X mL_most M0 sz0 K) (hK : ∀ (M' : hM) (s9 : Nat), K (.inl (some (.int (iZ 1)))) M' s9) {h : Nat} {A : Nat → Nat → Nat} {ow : Nat → Nat × Nat} {τ : Nat → Nat → Int} {M : hM} {sz cs ss : Nat} (hH : HX X.2.2.2.2.2.2.2.2.2 h A ow (ya_TB ymS79) τ M) (hV : SV (ya_TB ymS79)) (hc : cs + 3458 ≤ 5000) (hs : ss + 83068 ≤ 125000) : G X 436 [.ref h, .int (iZ 3), .int (iZ 3), .int (iZ 6), .int (iZ 3)] [.int (iZ 1600), .ref h, .int (iZ 7)] M sz cs ss := by
  refine g_const hX dL_most_436 ?_
  refine g_iload hX dL_most_438 rfl ?_
  refine y_imul (c := 30) hX dL_most_439 (by decide) ?_
  refine y_iadd (c := 1630) hX dL_most_440 (by decide) ?_
  refine g_const hX dL_most_441 ?_
  refine g_const hX dL_most_443 ?_
  refine l_weekday hX hst dL_most_444 hH hV (ya_in rfl) (ya_in rfl) (ya_in rfl) yme173 (show cs + 3 ≤ 5000 by omega) (show ss + 18 ≤ 125000 by omega) (by first | exact Nat.le_of_ble_eq_true rfl | simp [cat_rf, Value.category]) (fun A ow τ M sz hH hV => ?_)
  refine y_isub (c := 7) hX dL_most_447 (by decide) ?_
  refine g_const hX dL_most_448 ?_
  refine y_irem (c := 0) hX dL_most_450 (ya_in rfl) (ya_in rfl) (by decide) (by decide) (by decide) ?_
  refine g_const hX dL_most_451 ?_
  refine y_iadd (c := 1) hX dL_most_452 (by decide) ?_
  refine g_istore hX dL_most_453 ?_
  dsimp only [List.set]
  refine g_aload hX dL_most_454 rfl rfl ?_
  refine g_const hX dL_most_455 ?_
  refine g_const hX dL_most_457 ?_
  refine g_const hX dL_most_460 ?_
  refine g_iload hX dL_most_462 rfl ?_
  refine y_imul (c := 30) hX dL_most_463 (by decide) ?_
  refine y_iadd (c := 1630) hX dL_most_464 (by decide) ?_
  refine g_const hX dL_most_465 ?_
  refine g_iload hX dL_most_467 rfl ?_
  refine g_const hX dL_most_468 ?_
  refine l_act hX hst dL_most_469 hH hV (ya_in rfl) (ya_in rfl) (ya_in rfl) (ya_in rfl) (ya_in rfl) yme175 (show cs + 3 + 10 ≤ 5000 by omega) (show ss + 18 + 250 ≤ 125000 by omega) (by first | exact Nat.le_of_ble_eq_true rfl | simp [cat_rf, Value.category]) (fun A ow τ M sz hH hV => ?_)
  refine g_istore hX dL_most_472 ?_
  dsimp only [List.set]
  refine g_iload hX dL_most_474 rfl ?_
  refine g_iload hX dL_most_476 rfl ?_
  refine g_const hX dL_most_477 ?_
  refine yf_icmp_ge hX dL_most_479 (ya_in rfl) (ya_in rfl) (by decide) ?_
  refine g_const hX dL_most_482 ?_
  refine g_goto hX dL_most_483 ?_
  refine yt_icmp_eq hX dL_most_488 (ya_in rfl) (ya_in rfl) (by decide) ?_
  refine g_iload hX dL_most_493 rfl ?_
  refine g_iload hX dL_most_494 rfl ?_
  refine yt_if_ge hX dL_most_496 (ya_in rfl) (by decide) ?_
  refine g_const hX dL_most_503 ?_
  refine y_iadd (c := 4) hX dL_most_504 (by decide) ?_
  refine g_istore hX dL_most_505 ?_
  dsimp only [List.set]
  refine y_iinc (c := 4) hX dL_most_506 rfl (by decide) ?_
  dsimp only [List.set]
  refine g_goto hX dL_most_509 ?_
  refine g_iload hX dL_most_424 rfl ?_
  refine g_const hX dL_most_425 ?_
  refine yf_icmp_ge hX dL_most_427 (ya_in rfl) (ya_in rfl) (by decide) ?_
  refine g_const hX dL_most_430 ?_
  refine g_aload hX dL_most_432 rfl rfl ?_
  refine g_const hX dL_most_433 ?_
  refine g_const hX dL_most_436 ?_
  refine g_iload hX dL_most_438 rfl ?_
  refine y_imul (c := 40) hX dL_most_439 (by decide) ?_
  refine y_iadd (c := 1640) hX dL_most_440 (by decide) ?_
  refine g_const hX dL_most_441 ?_
  refine g_const hX dL_most_443 ?_
  refine l_weekday hX hst dL_most_444 hH hV (ya_in rfl) (ya_in rfl) (ya_in rfl) yme176 (show cs + 3 + 10 + 3 ≤ 5000 by omega) (show ss + 18 + 250 + 18 ≤ 125000 by omega) (by first | exact Nat.le_of_ble_eq_true rfl | simp [cat_rf, Value.category]) (fun A ow τ M sz hH hV => ?_)
  refine y_isub (c := 1) hX dL_most_447 (by decide) ?_
  refine g_const hX dL_most_448 ?_
  refine y_irem (c := 1) hX dL_most_450 (ya_in rfl) (ya_in rfl) (by decide) (by decide) (by decide) ?_
  refine g_const hX dL_most_451 ?_
  exact mo_g35 hX hst hR hK hH hV (by omega) (by omega)

set_option maxRecDepth 20000 in
theorem mo_g33 {X : hX} (hX : Cok X mL_most) (hst : X.1.2.1.stackTraces = false) {M0 : hM} {sz0 : Nat} {K : hK} (hR : Ret X mL_most M0 sz0 K) (hK : ∀ (M' : hM) (s9 : Nat), K (.inl (some (.int (iZ 1)))) M' s9) {h : Nat} {A : Nat → Nat → Nat} {ow : Nat → Nat × Nat} {τ : Nat → Nat → Int} {M : hM} {sz cs ss : Nat} (hH : HX X.2.2.2.2.2.2.2.2.2 h A ow (ya_TB ymS78) τ M) (hV : SV (ya_TB ymS78)) (hc : cs + 3471 ≤ 5000) (hs : ss + 83336 ≤ 125000) : G X 505 [.ref h, .int (iZ 1), .int (iZ 1), .int (iZ 5), .int (iZ 3)] [.int (iZ 2)] M sz cs ss := by
  refine g_istore hX dL_most_505 ?_
  dsimp only [List.set]
  refine y_iinc (c := 2) hX dL_most_506 rfl (by decide) ?_
  dsimp only [List.set]
  refine g_goto hX dL_most_509 ?_
  refine g_iload hX dL_most_424 rfl ?_
  refine g_const hX dL_most_425 ?_
  refine yf_icmp_ge hX dL_most_427 (ya_in rfl) (ya_in rfl) (by decide) ?_
  refine g_const hX dL_most_430 ?_
  refine g_aload hX dL_most_432 rfl rfl ?_
  refine g_const hX dL_most_433 ?_
  refine g_const hX dL_most_436 ?_
  refine g_iload hX dL_most_438 rfl ?_
  refine y_imul (c := 20) hX dL_most_439 (by decide) ?_
  refine y_iadd (c := 1620) hX dL_most_440 (by decide) ?_
  refine g_const hX dL_most_441 ?_
  refine g_const hX dL_most_443 ?_
  refine l_weekday hX hst dL_most_444 hH hV (ya_in rfl) (ya_in rfl) (ya_in rfl) yme170 (show cs + 3 ≤ 5000 by omega) (show ss + 18 ≤ 125000 by omega) (by first | exact Nat.le_of_ble_eq_true rfl | simp [cat_rf, Value.category]) (fun A ow τ M sz hH hV => ?_)
  refine y_isub (c := 5) hX dL_most_447 (by decide) ?_
  refine g_const hX dL_most_448 ?_
  refine y_irem (c := 5) hX dL_most_450 (ya_in rfl) (ya_in rfl) (by decide) (by decide) (by decide) ?_
  refine g_const hX dL_most_451 ?_
  refine y_iadd (c := 6) hX dL_most_452 (by decide) ?_
  refine g_istore hX dL_most_453 ?_
  dsimp only [List.set]
  refine g_aload hX dL_most_454 rfl rfl ?_
  refine g_const hX dL_most_455 ?_
  refine g_const hX dL_most_457 ?_
  refine g_const hX dL_most_460 ?_
  refine g_iload hX dL_most_462 rfl ?_
  refine y_imul (c := 20) hX dL_most_463 (by decide) ?_
  refine y_iadd (c := 1620) hX dL_most_464 (by decide) ?_
  refine g_const hX dL_most_465 ?_
  refine g_iload hX dL_most_467 rfl ?_
  refine g_const hX dL_most_468 ?_
  refine l_act hX hst dL_most_469 hH hV (ya_in rfl) (ya_in rfl) (ya_in rfl) (ya_in rfl) (ya_in rfl) yme172 (show cs + 3 + 10 ≤ 5000 by omega) (show ss + 18 + 250 ≤ 125000 by omega) (by first | exact Nat.le_of_ble_eq_true rfl | simp [cat_rf, Value.category]) (fun A ow τ M sz hH hV => ?_)
  refine g_istore hX dL_most_472 ?_
  dsimp only [List.set]
  refine g_iload hX dL_most_474 rfl ?_
  refine g_iload hX dL_most_476 rfl ?_
  refine g_const hX dL_most_477 ?_
  refine yf_icmp_ge hX dL_most_479 (ya_in rfl) (ya_in rfl) (by decide) ?_
  refine g_const hX dL_most_482 ?_
  refine g_goto hX dL_most_483 ?_
  refine yt_icmp_eq hX dL_most_488 (ya_in rfl) (ya_in rfl) (by decide) ?_
  refine g_iload hX dL_most_493 rfl ?_
  refine g_iload hX dL_most_494 rfl ?_
  refine yt_if_ge hX dL_most_496 (ya_in rfl) (by decide) ?_
  refine g_const hX dL_most_503 ?_
  refine y_iadd (c := 3) hX dL_most_504 (by decide) ?_
  refine g_istore hX dL_most_505 ?_
  dsimp only [List.set]
  refine y_iinc (c := 3) hX dL_most_506 rfl (by decide) ?_
  dsimp only [List.set]
  refine g_goto hX dL_most_509 ?_
  refine g_iload hX dL_most_424 rfl ?_
  refine g_const hX dL_most_425 ?_
  refine yf_icmp_ge hX dL_most_427 (ya_in rfl) (ya_in rfl) (by decide) ?_
  refine g_const hX dL_most_430 ?_
  refine g_aload hX dL_most_432 rfl rfl ?_
  refine g_const hX dL_most_433 ?_
  exact mo_g34 hX hst hR hK hH hV (by omega) (by omega)

set_option maxRecDepth 20000 in
theorem mo_g32 {X : hX} (hX : Cok X mL_most) (hst : X.1.2.1.stackTraces = false) {M0 : hM} {sz0 : Nat} {K : hK} (hR : Ret X mL_most M0 sz0 K) (hK : ∀ (M' : hM) (s9 : Nat), K (.inl (some (.int (iZ 1)))) M' s9) {h : Nat} {A : Nat → Nat → Nat} {ow : Nat → Nat × Nat} {τ : Nat → Nat → Int} {M : hM} {sz cs ss : Nat} (hH : HX X.2.2.2.2.2.2.2.2.2 h A ow (ya_TB ymS77) τ M) (hV : SV (ya_TB ymS77)) (hc : cs + 3484 ≤ 5000) (hs : ss + 83604 ≤ 125000) : G X 476 [.ref h, .int (iZ 0), .int (iZ 0), .int (iZ 3), .int (iZ 3)] [.int (iZ 3)] M sz cs ss := by
  refine g_iload hX dL_most_476 rfl ?_
  refine g_const hX dL_most_477 ?_
  refine yf_icmp_ge hX dL_most_479 (ya_in rfl) (ya_in rfl) (by decide) ?_
  refine g_const hX dL_most_482 ?_
  refine g_goto hX dL_most_483 ?_
  refine yt_icmp_eq hX dL_most_488 (ya_in rfl) (ya_in rfl) (by decide) ?_
  refine g_iload hX dL_most_493 rfl ?_
  refine g_iload hX dL_most_494 rfl ?_
  refine yt_if_ge hX dL_most_496 (ya_in rfl) (by decide) ?_
  refine g_const hX dL_most_503 ?_
  refine y_iadd (c := 1) hX dL_most_504 (by decide) ?_
  refine g_istore hX dL_most_505 ?_
  dsimp only [List.set]
  refine y_iinc (c := 1) hX dL_most_506 rfl (by decide) ?_
  dsimp only [List.set]
  refine g_goto hX dL_most_509 ?_
  refine g_iload hX dL_most_424 rfl ?_
  refine g_const hX dL_most_425 ?_
  refine yf_icmp_ge hX dL_most_427 (ya_in rfl) (ya_in rfl) (by decide) ?_
  refine g_const hX dL_most_430 ?_
  refine g_aload hX dL_most_432 rfl rfl ?_
  refine g_const hX dL_most_433 ?_
  refine g_const hX dL_most_436 ?_
  refine g_iload hX dL_most_438 rfl ?_
  refine y_imul (c := 10) hX dL_most_439 (by decide) ?_
  refine y_iadd (c := 1610) hX dL_most_440 (by decide) ?_
  refine g_const hX dL_most_441 ?_
  refine g_const hX dL_most_443 ?_
  refine l_weekday hX hst dL_most_444 hH hV (ya_in rfl) (ya_in rfl) (ya_in rfl) yme167 (show cs + 3 ≤ 5000 by omega) (show ss + 18 ≤ 125000 by omega) (by first | exact Nat.le_of_ble_eq_true rfl | simp [cat_rf, Value.category]) (fun A ow τ M sz hH hV => ?_)
  refine y_isub (c := 4) hX dL_most_447 (by decide) ?_
  refine g_const hX dL_most_448 ?_
  refine y_irem (c := 4) hX dL_most_450 (ya_in rfl) (ya_in rfl) (by decide) (by decide) (by decide) ?_
  refine g_const hX dL_most_451 ?_
  refine y_iadd (c := 5) hX dL_most_452 (by decide) ?_
  refine g_istore hX dL_most_453 ?_
  dsimp only [List.set]
  refine g_aload hX dL_most_454 rfl rfl ?_
  refine g_const hX dL_most_455 ?_
  refine g_const hX dL_most_457 ?_
  refine g_const hX dL_most_460 ?_
  refine g_iload hX dL_most_462 rfl ?_
  refine y_imul (c := 10) hX dL_most_463 (by decide) ?_
  refine y_iadd (c := 1610) hX dL_most_464 (by decide) ?_
  refine g_const hX dL_most_465 ?_
  refine g_iload hX dL_most_467 rfl ?_
  refine g_const hX dL_most_468 ?_
  refine l_act hX hst dL_most_469 hH hV (ya_in rfl) (ya_in rfl) (ya_in rfl) (ya_in rfl) (ya_in rfl) yme169 (show cs + 3 + 10 ≤ 5000 by omega) (show ss + 18 + 250 ≤ 125000 by omega) (by first | exact Nat.le_of_ble_eq_true rfl | simp [cat_rf, Value.category]) (fun A ow τ M sz hH hV => ?_)
  refine g_istore hX dL_most_472 ?_
  dsimp only [List.set]
  refine g_iload hX dL_most_474 rfl ?_
  refine g_iload hX dL_most_476 rfl ?_
  refine g_const hX dL_most_477 ?_
  refine yf_icmp_ge hX dL_most_479 (ya_in rfl) (ya_in rfl) (by decide) ?_
  refine g_const hX dL_most_482 ?_
  refine g_goto hX dL_most_483 ?_
  refine yt_icmp_eq hX dL_most_488 (ya_in rfl) (ya_in rfl) (by decide) ?_
  refine g_iload hX dL_most_493 rfl ?_
  refine g_iload hX dL_most_494 rfl ?_
  refine yt_if_ge hX dL_most_496 (ya_in rfl) (by decide) ?_
  refine g_const hX dL_most_503 ?_
  refine y_iadd (c := 2) hX dL_most_504 (by decide) ?_
  exact mo_g33 hX hst hR hK hH hV (by omega) (by omega)

set_option maxRecDepth 20000 in
theorem mo_g31 {X : hX} (hX : Cok X mL_most) (hst : X.1.2.1.stackTraces = false) {M0 : hM} {sz0 : Nat} {K : hK} (hR : Ret X mL_most M0 sz0 K) (hK : ∀ (M' : hM) (s9 : Nat), K (.inl (some (.int (iZ 1)))) M' s9) {h : Nat} {A : Nat → Nat → Nat} {ow : Nat → Nat × Nat} {τ : Nat → Nat → Int} {M : hM} {sz cs ss : Nat} (hH : HX X.2.2.2.2.2.2.2.2.2 h A ow (ya_TB ymS73) τ M) (hV : SV (ya_TB ymS73)) (hc : cs + 3506 ≤ 5000) (hs : ss + 83926 ≤ 125000) : G X 377 [.ref h, .int (iZ 21), U9, U9, U9] [] M sz cs ss := by
  refine g_aload hX dL_most_377 rfl rfl ?_
  refine g_const hX dL_most_378 ?_
  refine g_const hX dL_most_380 ?_
  refine g_const hX dL_most_381 ?_
  refine l_reading hX hst dL_most_383 hH hV (ya_in rfl) (ya_in rfl) (ya_in rfl) yme161 (show cs + 3 ≤ 5000 by omega) (show ss + 18 ≤ 125000 by omega) (by first | exact Nat.le_of_ble_eq_true rfl | simp [cat_rf, Value.category]) (fun A ow τ M sz hH hV => ?_)
  refine g_const hX dL_most_386 ?_
  refine yf_icmp_ne hX dL_most_388 (ya_in rfl) (ya_in rfl) (by decide) ?_
  refine g_aload hX dL_most_391 rfl rfl ?_
  refine g_const hX dL_most_392 ?_
  refine g_const hX dL_most_394 ?_
  refine g_const hX dL_most_395 ?_
  refine l_reading hX hst dL_most_397 hH hV (ya_in rfl) (ya_in rfl) (ya_in rfl) yme162 (show cs + 3 + 3 ≤ 5000 by omega) (show ss + 18 + 18 ≤ 125000 by omega) (by first | exact Nat.le_of_ble_eq_true rfl | simp [cat_rf, Value.category]) (fun A ow τ M sz hH hV => ?_)
  refine g_const hX dL_most_400 ?_
  refine yf_icmp_ne hX dL_most_402 (ya_in rfl) (ya_in rfl) (by decide) ?_
  refine g_aload hX dL_most_405 rfl rfl ?_
  refine g_const hX dL_most_406 ?_
  refine g_const hX dL_most_408 ?_
  refine g_const hX dL_most_409 ?_
  refine l_reading hX hst dL_most_410 hH hV (ya_in rfl) (ya_in rfl) (ya_in rfl) yme163 (show cs + 3 + 3 + 3 ≤ 5000 by omega) (show ss + 18 + 18 + 18 ≤ 125000 by omega) (by first | exact Nat.le_of_ble_eq_true rfl | simp [cat_rf, Value.category]) (fun A ow τ M sz hH hV => ?_)
  refine g_const hX dL_most_413 ?_
  refine yt_icmp_eq hX dL_most_415 (ya_in rfl) (ya_in rfl) (by decide) ?_
  refine g_const hX dL_most_420 ?_
  refine g_istore hX dL_most_421 ?_
  dsimp only [List.set]
  refine g_const hX dL_most_422 ?_
  refine g_istore hX dL_most_423 ?_
  dsimp only [List.set]
  refine g_iload hX dL_most_424 rfl ?_
  refine g_const hX dL_most_425 ?_
  refine yf_icmp_ge hX dL_most_427 (ya_in rfl) (ya_in rfl) (by decide) ?_
  refine g_const hX dL_most_430 ?_
  refine g_aload hX dL_most_432 rfl rfl ?_
  refine g_const hX dL_most_433 ?_
  refine g_const hX dL_most_436 ?_
  refine g_iload hX dL_most_438 rfl ?_
  refine y_imul (c := 0) hX dL_most_439 (by decide) ?_
  refine y_iadd (c := 1600) hX dL_most_440 (by decide) ?_
  refine g_const hX dL_most_441 ?_
  refine g_const hX dL_most_443 ?_
  refine l_weekday hX hst dL_most_444 hH hV (ya_in rfl) (ya_in rfl) (ya_in rfl) yme164 (show cs + 3 + 3 + 3 + 3 ≤ 5000 by omega) (show ss + 18 + 18 + 18 + 18 ≤ 125000 by omega) (by first | exact Nat.le_of_ble_eq_true rfl | simp [cat_rf, Value.category]) (fun A ow τ M sz hH hV => ?_)
  refine y_isub (c := 2) hX dL_most_447 (by decide) ?_
  refine g_const hX dL_most_448 ?_
  refine y_irem (c := 2) hX dL_most_450 (ya_in rfl) (ya_in rfl) (by decide) (by decide) (by decide) ?_
  refine g_const hX dL_most_451 ?_
  refine y_iadd (c := 3) hX dL_most_452 (by decide) ?_
  refine g_istore hX dL_most_453 ?_
  dsimp only [List.set]
  refine g_aload hX dL_most_454 rfl rfl ?_
  refine g_const hX dL_most_455 ?_
  refine g_const hX dL_most_457 ?_
  refine g_const hX dL_most_460 ?_
  refine g_iload hX dL_most_462 rfl ?_
  refine y_imul (c := 0) hX dL_most_463 (by decide) ?_
  refine y_iadd (c := 1600) hX dL_most_464 (by decide) ?_
  refine g_const hX dL_most_465 ?_
  refine g_iload hX dL_most_467 rfl ?_
  refine g_const hX dL_most_468 ?_
  refine l_act hX hst dL_most_469 hH hV (ya_in rfl) (ya_in rfl) (ya_in rfl) (ya_in rfl) (ya_in rfl) yme166 (show cs + 3 + 3 + 3 + 3 + 10 ≤ 5000 by omega) (show ss + 18 + 18 + 18 + 18 + 250 ≤ 125000 by omega) (by first | exact Nat.le_of_ble_eq_true rfl | simp [cat_rf, Value.category]) (fun A ow τ M sz hH hV => ?_)
  refine g_istore hX dL_most_472 ?_
  dsimp only [List.set]
  refine g_iload hX dL_most_474 rfl ?_
  exact mo_g32 hX hst hR hK hH hV (by omega) (by omega)

set_option maxRecDepth 20000 in
theorem mo_g30 {X : hX} (hX : Cok X mL_most) (hst : X.1.2.1.stackTraces = false) {M0 : hM} {sz0 : Nat} {K : hK} (hR : Ret X mL_most M0 sz0 K) (hK : ∀ (M' : hM) (s9 : Nat), K (.inl (some (.int (iZ 1)))) M' s9) {h : Nat} {A : Nat → Nat → Nat} {ow : Nat → Nat × Nat} {τ : Nat → Nat → Int} {M : hM} {sz cs ss : Nat} (hH : HX X.2.2.2.2.2.2.2.2.2 h A ow (ya_TB ymS71) τ M) (hV : SV (ya_TB ymS71)) (hc : cs + 3527 ≤ 5000) (hs : ss + 84432 ≤ 125000) : G X 334 [.ref h, .int (iZ 19), U9, U9, U9] [.int (iZ 2), .int (iZ 19), .int (iZ (-41)), .int (iZ 0), .int (iZ 2), .int (iZ 15), .ref h] M sz cs ss := by
  refine y_irem (c := 1) hX dL_most_334 (ya_in rfl) (ya_in rfl) (by decide) (by decide) (by decide) ?_
  refine yt_if_ne hX dL_most_335 (ya_in rfl) (by decide) ?_
  refine g_const hX dL_most_342 ?_
  refine l_act hX hst dL_most_343 hH hV (ya_in rfl) (ya_in rfl) (ya_in rfl) (ya_in rfl) (ya_in rfl) yme157 (show cs + 10 ≤ 5000 by omega) (show ss + 250 ≤ 125000 by omega) (by first | exact Nat.le_of_ble_eq_true rfl | simp [cat_rf, Value.category]) (fun A ow τ M sz hH hV => ?_)
  refine g_iload hX dL_most_346 rfl ?_
  refine g_const hX dL_most_347 ?_
  refine yf_icmp_ge hX dL_most_349 (ya_in rfl) (ya_in rfl) (by decide) ?_
  refine g_iload hX dL_most_352 rfl ?_
  refine g_goto hX dL_most_353 ?_
  refine yt_icmp_eq hX dL_most_358 (ya_in rfl) (ya_in rfl) (by decide) ?_
  refine y_iinc (c := 20) hX dL_most_363 rfl (by decide) ?_
  dsimp only [List.set]
  refine g_goto hX dL_most_366 ?_
  refine g_iload hX dL_most_281 rfl ?_
  refine g_const hX dL_most_282 ?_
  refine yf_icmp_ge hX dL_most_284 (ya_in rfl) (ya_in rfl) (by decide) ?_
  refine g_aload hX dL_most_287 rfl rfl ?_
  refine g_iload hX dL_most_288 rfl ?_
  refine g_const hX dL_most_289 ?_
  refine y_irem (c := 0) hX dL_most_290 (ya_in rfl) (ya_in rfl) (by decide) (by decide) (by decide) ?_
  refine yf_if_ne hX dL_most_291 (ya_in rfl) (by decide) ?_
  refine g_const hX dL_most_294 ?_
  refine g_goto hX dL_most_296 ?_
  refine g_const hX dL_most_301 ?_
  refine g_iload hX dL_most_302 rfl ?_
  refine g_const hX dL_most_303 ?_
  refine y_irem (c := 2) hX dL_most_305 (ya_in rfl) (ya_in rfl) (by decide) (by decide) (by decide) ?_
  refine y_iadd (c := 3) hX dL_most_306 (by decide) ?_
  refine g_iload hX dL_most_307 rfl ?_
  refine g_const hX dL_most_308 ?_
  refine y_irem (c := 2) hX dL_most_309 (ya_in rfl) (ya_in rfl) (by decide) (by decide) (by decide) ?_
  refine yt_if_ne hX dL_most_310 (ya_in rfl) (by decide) ?_
  refine g_const hX dL_most_317 ?_
  refine g_iload hX dL_most_318 rfl ?_
  refine g_const hX dL_most_319 ?_
  refine y_irem (c := 0) hX dL_most_320 (ya_in rfl) (ya_in rfl) (by decide) (by decide) (by decide) ?_
  refine yf_if_ne hX dL_most_321 (ya_in rfl) (by decide) ?_
  refine g_const hX dL_most_324 ?_
  refine g_goto hX dL_most_325 ?_
  refine g_iload hX dL_most_332 rfl ?_
  refine g_const hX dL_most_333 ?_
  refine y_irem (c := 0) hX dL_most_334 (ya_in rfl) (ya_in rfl) (by decide) (by decide) (by decide) ?_
  refine yf_if_ne hX dL_most_335 (ya_in rfl) (by decide) ?_
  refine g_const hX dL_most_338 ?_
  refine g_goto hX dL_most_339 ?_
  refine l_act hX hst dL_most_343 hH hV (ya_in rfl) (ya_in rfl) (ya_in rfl) (ya_in rfl) (ya_in rfl) yme159 (show cs + 10 + 10 ≤ 5000 by omega) (show ss + 250 + 250 ≤ 125000 by omega) (by first | exact Nat.le_of_ble_eq_true rfl | simp [cat_rf, Value.category]) (fun A ow τ M sz hH hV => ?_)
  refine g_iload hX dL_most_346 rfl ?_
  refine g_const hX dL_most_347 ?_
  refine yt_icmp_ge hX dL_most_349 (ya_in rfl) (ya_in rfl) (by decide) ?_
  refine g_const hX dL_most_356 ?_
  refine yt_icmp_eq hX dL_most_358 (ya_in rfl) (ya_in rfl) (by decide) ?_
  refine y_iinc (c := 21) hX dL_most_363 rfl (by decide) ?_
  dsimp only [List.set]
  refine g_goto hX dL_most_366 ?_
  refine g_iload hX dL_most_281 rfl ?_
  refine g_const hX dL_most_282 ?_
  refine yt_icmp_ge hX dL_most_284 (ya_in rfl) (ya_in rfl) (by decide) ?_
  refine g_aload hX dL_most_369 rfl rfl ?_
  refine g_const hX dL_most_370 ?_
  refine l_sundays hX hst dL_most_371 hH hV (ya_in rfl) yme160 (show cs + 10 + 10 + 1 ≤ 5000 by omega) (show ss + 250 + 250 + 6 ≤ 125000 by omega) (by first | exact Nat.le_of_ble_eq_true rfl | simp [cat_rf, Value.category]) (fun A ow τ M sz hH hV => ?_)
  refine yf_if_ne hX dL_most_374 (ya_in rfl) (by decide) ?_
  exact mo_g31 hX hst hR hK hH hV (by omega) (by omega)

set_option maxRecDepth 20000 in
theorem mo_g29 {X : hX} (hX : Cok X mL_most) (hst : X.1.2.1.stackTraces = false) {M0 : hM} {sz0 : Nat} {K : hK} (hR : Ret X mL_most M0 sz0 K) (hK : ∀ (M' : hM) (s9 : Nat), K (.inl (some (.int (iZ 1)))) M' s9) {h : Nat} {A : Nat → Nat → Nat} {ow : Nat → Nat × Nat} {τ : Nat → Nat → Int} {M : hM} {sz cs ss : Nat} (hH : HX X.2.2.2.2.2.2.2.2.2 h A ow (ya_TB ymS70) τ M) (hV : SV (ya_TB ymS70)) (hc : cs + 3537 ≤ 5000) (hs : ss + 84682 ≤ 125000) : G X 301 [.ref h, .int (iZ 18), U9, U9, U9] [.int (iZ 14), .ref h] M sz cs ss := by
  refine g_const hX dL_most_301 ?_
  refine g_iload hX dL_most_302 rfl ?_
  refine g_const hX dL_most_303 ?_
  refine y_irem (c := 0) hX dL_most_305 (ya_in rfl) (ya_in rfl) (by decide) (by decide) (by decide) ?_
  refine y_iadd (c := 1) hX dL_most_306 (by decide) ?_
  refine g_iload hX dL_most_307 rfl ?_
  refine g_const hX dL_most_308 ?_
  refine y_irem (c := 0) hX dL_most_309 (ya_in rfl) (ya_in rfl) (by decide) (by decide) (by decide) ?_
  refine yf_if_ne hX dL_most_310 (ya_in rfl) (by decide) ?_
  refine g_const hX dL_most_313 ?_
  refine g_goto hX dL_most_314 ?_
  refine g_iload hX dL_most_318 rfl ?_
  refine g_const hX dL_most_319 ?_
  refine y_irem (c := 0) hX dL_most_320 (ya_in rfl) (ya_in rfl) (by decide) (by decide) (by decide) ?_
  refine yf_if_ne hX dL_most_321 (ya_in rfl) (by decide) ?_
  refine g_const hX dL_most_324 ?_
  refine g_goto hX dL_most_325 ?_
  refine g_iload hX dL_most_332 rfl ?_
  refine g_const hX dL_most_333 ?_
  refine y_irem (c := 0) hX dL_most_334 (ya_in rfl) (ya_in rfl) (by decide) (by decide) (by decide) ?_
  refine yf_if_ne hX dL_most_335 (ya_in rfl) (by decide) ?_
  refine g_const hX dL_most_338 ?_
  refine g_goto hX dL_most_339 ?_
  refine l_act hX hst dL_most_343 hH hV (ya_in rfl) (ya_in rfl) (ya_in rfl) (ya_in rfl) (ya_in rfl) yme155 (show cs + 10 ≤ 5000 by omega) (show ss + 250 ≤ 125000 by omega) (by first | exact Nat.le_of_ble_eq_true rfl | simp [cat_rf, Value.category]) (fun A ow τ M sz hH hV => ?_)
  refine g_iload hX dL_most_346 rfl ?_
  refine g_const hX dL_most_347 ?_
  refine yf_icmp_ge hX dL_most_349 (ya_in rfl) (ya_in rfl) (by decide) ?_
  refine g_iload hX dL_most_352 rfl ?_
  refine g_goto hX dL_most_353 ?_
  refine yt_icmp_eq hX dL_most_358 (ya_in rfl) (ya_in rfl) (by decide) ?_
  refine y_iinc (c := 19) hX dL_most_363 rfl (by decide) ?_
  dsimp only [List.set]
  refine g_goto hX dL_most_366 ?_
  refine g_iload hX dL_most_281 rfl ?_
  refine g_const hX dL_most_282 ?_
  refine yf_icmp_ge hX dL_most_284 (ya_in rfl) (ya_in rfl) (by decide) ?_
  refine g_aload hX dL_most_287 rfl rfl ?_
  refine g_iload hX dL_most_288 rfl ?_
  refine g_const hX dL_most_289 ?_
  refine y_irem (c := 1) hX dL_most_290 (ya_in rfl) (ya_in rfl) (by decide) (by decide) (by decide) ?_
  refine yt_if_ne hX dL_most_291 (ya_in rfl) (by decide) ?_
  refine g_const hX dL_most_299 ?_
  refine g_const hX dL_most_301 ?_
  refine g_iload hX dL_most_302 rfl ?_
  refine g_const hX dL_most_303 ?_
  refine y_irem (c := 1) hX dL_most_305 (ya_in rfl) (ya_in rfl) (by decide) (by decide) (by decide) ?_
  refine y_iadd (c := 2) hX dL_most_306 (by decide) ?_
  refine g_iload hX dL_most_307 rfl ?_
  refine g_const hX dL_most_308 ?_
  refine y_irem (c := 1) hX dL_most_309 (ya_in rfl) (ya_in rfl) (by decide) (by decide) (by decide) ?_
  refine yt_if_ne hX dL_most_310 (ya_in rfl) (by decide) ?_
  refine g_const hX dL_most_317 ?_
  refine g_iload hX dL_most_318 rfl ?_
  refine g_const hX dL_most_319 ?_
  refine y_irem (c := 1) hX dL_most_320 (ya_in rfl) (ya_in rfl) (by decide) (by decide) (by decide) ?_
  refine yt_if_ne hX dL_most_321 (ya_in rfl) (by decide) ?_
  refine g_const hX dL_most_328 ?_
  refine g_iload hX dL_most_330 rfl ?_
  refine y_iadd (c := (-41)) hX dL_most_331 (by decide) ?_
  refine g_iload hX dL_most_332 rfl ?_
  refine g_const hX dL_most_333 ?_
  exact mo_g30 hX hst hR hK hH hV (by omega) (by omega)

set_option maxRecDepth 20000 in
theorem mo_g28 {X : hX} (hX : Cok X mL_most) (hst : X.1.2.1.stackTraces = false) {M0 : hM} {sz0 : Nat} {K : hK} (hR : Ret X mL_most M0 sz0 K) (hK : ∀ (M' : hM) (s9 : Nat), K (.inl (some (.int (iZ 1)))) M' s9) {h : Nat} {A : Nat → Nat → Nat} {ow : Nat → Nat × Nat} {τ : Nat → Nat → Int} {M : hM} {sz cs ss : Nat} (hH : HX X.2.2.2.2.2.2.2.2.2 h A ow (ya_TB ymS68) τ M) (hV : SV (ya_TB ymS68)) (hc : cs + 3557 ≤ 5000) (hs : ss + 85182 ≤ 125000) : G X 343 [.ref h, .int (iZ 16), U9, U9, U9] [.int (iZ 1), .int (iZ 1), .int (iZ 0), .int (iZ 8), .int (iZ 14), .ref h] M sz cs ss := by
  refine l_act hX hst dL_most_343 hH hV (ya_in rfl) (ya_in rfl) (ya_in rfl) (ya_in rfl) (ya_in rfl) yme151 (show cs + 10 ≤ 5000 by omega) (show ss + 250 ≤ 125000 by omega) (by first | exact Nat.le_of_ble_eq_true rfl | simp [cat_rf, Value.category]) (fun A ow τ M sz hH hV => ?_)
  refine g_iload hX dL_most_346 rfl ?_
  refine g_const hX dL_most_347 ?_
  refine yf_icmp_ge hX dL_most_349 (ya_in rfl) (ya_in rfl) (by decide) ?_
  refine g_iload hX dL_most_352 rfl ?_
  refine g_goto hX dL_most_353 ?_
  refine yt_icmp_eq hX dL_most_358 (ya_in rfl) (ya_in rfl) (by decide) ?_
  refine y_iinc (c := 17) hX dL_most_363 rfl (by decide) ?_
  dsimp only [List.set]
  refine g_goto hX dL_most_366 ?_
  refine g_iload hX dL_most_281 rfl ?_
  refine g_const hX dL_most_282 ?_
  refine yf_icmp_ge hX dL_most_284 (ya_in rfl) (ya_in rfl) (by decide) ?_
  refine g_aload hX dL_most_287 rfl rfl ?_
  refine g_iload hX dL_most_288 rfl ?_
  refine g_const hX dL_most_289 ?_
  refine y_irem (c := 1) hX dL_most_290 (ya_in rfl) (ya_in rfl) (by decide) (by decide) (by decide) ?_
  refine yt_if_ne hX dL_most_291 (ya_in rfl) (by decide) ?_
  refine g_const hX dL_most_299 ?_
  refine g_const hX dL_most_301 ?_
  refine g_iload hX dL_most_302 rfl ?_
  refine g_const hX dL_most_303 ?_
  refine y_irem (c := 8) hX dL_most_305 (ya_in rfl) (ya_in rfl) (by decide) (by decide) (by decide) ?_
  refine y_iadd (c := 9) hX dL_most_306 (by decide) ?_
  refine g_iload hX dL_most_307 rfl ?_
  refine g_const hX dL_most_308 ?_
  refine y_irem (c := 2) hX dL_most_309 (ya_in rfl) (ya_in rfl) (by decide) (by decide) (by decide) ?_
  refine yt_if_ne hX dL_most_310 (ya_in rfl) (by decide) ?_
  refine g_const hX dL_most_317 ?_
  refine g_iload hX dL_most_318 rfl ?_
  refine g_const hX dL_most_319 ?_
  refine y_irem (c := 1) hX dL_most_320 (ya_in rfl) (ya_in rfl) (by decide) (by decide) (by decide) ?_
  refine yt_if_ne hX dL_most_321 (ya_in rfl) (by decide) ?_
  refine g_const hX dL_most_328 ?_
  refine g_iload hX dL_most_330 rfl ?_
  refine y_iadd (c := (-43)) hX dL_most_331 (by decide) ?_
  refine g_iload hX dL_most_332 rfl ?_
  refine g_const hX dL_most_333 ?_
  refine y_irem (c := 1) hX dL_most_334 (ya_in rfl) (ya_in rfl) (by decide) (by decide) (by decide) ?_
  refine yt_if_ne hX dL_most_335 (ya_in rfl) (by decide) ?_
  refine g_const hX dL_most_342 ?_
  refine l_act hX hst dL_most_343 hH hV (ya_in rfl) (ya_in rfl) (ya_in rfl) (ya_in rfl) (ya_in rfl) yme153 (show cs + 10 + 10 ≤ 5000 by omega) (show ss + 250 + 250 ≤ 125000 by omega) (by first | exact Nat.le_of_ble_eq_true rfl | simp [cat_rf, Value.category]) (fun A ow τ M sz hH hV => ?_)
  refine g_iload hX dL_most_346 rfl ?_
  refine g_const hX dL_most_347 ?_
  refine yf_icmp_ge hX dL_most_349 (ya_in rfl) (ya_in rfl) (by decide) ?_
  refine g_iload hX dL_most_352 rfl ?_
  refine g_goto hX dL_most_353 ?_
  refine yt_icmp_eq hX dL_most_358 (ya_in rfl) (ya_in rfl) (by decide) ?_
  refine y_iinc (c := 18) hX dL_most_363 rfl (by decide) ?_
  dsimp only [List.set]
  refine g_goto hX dL_most_366 ?_
  refine g_iload hX dL_most_281 rfl ?_
  refine g_const hX dL_most_282 ?_
  refine yf_icmp_ge hX dL_most_284 (ya_in rfl) (ya_in rfl) (by decide) ?_
  refine g_aload hX dL_most_287 rfl rfl ?_
  refine g_iload hX dL_most_288 rfl ?_
  refine g_const hX dL_most_289 ?_
  refine y_irem (c := 0) hX dL_most_290 (ya_in rfl) (ya_in rfl) (by decide) (by decide) (by decide) ?_
  refine yf_if_ne hX dL_most_291 (ya_in rfl) (by decide) ?_
  refine g_const hX dL_most_294 ?_
  refine g_goto hX dL_most_296 ?_
  exact mo_g29 hX hst hR hK hH hV (by omega) (by omega)

set_option maxRecDepth 20000 in
theorem mo_g27 {X : hX} (hX : Cok X mL_most) (hst : X.1.2.1.stackTraces = false) {M0 : hM} {sz0 : Nat} {K : hK} (hR : Ret X mL_most M0 sz0 K) (hK : ∀ (M' : hM) (s9 : Nat), K (.inl (some (.int (iZ 1)))) M' s9) {h : Nat} {A : Nat → Nat → Nat} {ow : Nat → Nat × Nat} {τ : Nat → Nat → Int} {M : hM} {sz cs ss : Nat} (hH : HX X.2.2.2.2.2.2.2.2.2 h A ow (ya_TB ymS67) τ M) (hV : SV (ya_TB ymS67)) (hc : cs + 3567 ≤ 5000) (hs : ss + 85432 ≤ 125000) : G X 306 [.ref h, .int (iZ 15), U9, U9, U9] [.int (iZ 6), .int (iZ 1), .int (iZ 15), .ref h] M sz cs ss := by
  refine y_iadd (c := 7) hX dL_most_306 (by decide) ?_
  refine g_iload hX dL_most_307 rfl ?_
  refine g_const hX dL_most_308 ?_
  refine y_irem (c := 0) hX dL_most_309 (ya_in rfl) (ya_in rfl) (by decide) (by decide) (by decide) ?_
  refine yf_if_ne hX dL_most_310 (ya_in rfl) (by decide) ?_
  refine g_const hX dL_most_313 ?_
  refine g_goto hX dL_most_314 ?_
  refine g_iload hX dL_most_318 rfl ?_
  refine g_const hX dL_most_319 ?_
  refine y_irem (c := 1) hX dL_most_320 (ya_in rfl) (ya_in rfl) (by decide) (by decide) (by decide) ?_
  refine yt_if_ne hX dL_most_321 (ya_in rfl) (by decide) ?_
  refine g_const hX dL_most_328 ?_
  refine g_iload hX dL_most_330 rfl ?_
  refine y_iadd (c := (-45)) hX dL_most_331 (by decide) ?_
  refine g_iload hX dL_most_332 rfl ?_
  refine g_const hX dL_most_333 ?_
  refine y_irem (c := 1) hX dL_most_334 (ya_in rfl) (ya_in rfl) (by decide) (by decide) (by decide) ?_
  refine yt_if_ne hX dL_most_335 (ya_in rfl) (by decide) ?_
  refine g_const hX dL_most_342 ?_
  refine l_act hX hst dL_most_343 hH hV (ya_in rfl) (ya_in rfl) (ya_in rfl) (ya_in rfl) (ya_in rfl) yme149 (show cs + 10 ≤ 5000 by omega) (show ss + 250 ≤ 125000 by omega) (by first | exact Nat.le_of_ble_eq_true rfl | simp [cat_rf, Value.category]) (fun A ow τ M sz hH hV => ?_)
  refine g_iload hX dL_most_346 rfl ?_
  refine g_const hX dL_most_347 ?_
  refine yf_icmp_ge hX dL_most_349 (ya_in rfl) (ya_in rfl) (by decide) ?_
  refine g_iload hX dL_most_352 rfl ?_
  refine g_goto hX dL_most_353 ?_
  refine yt_icmp_eq hX dL_most_358 (ya_in rfl) (ya_in rfl) (by decide) ?_
  refine y_iinc (c := 16) hX dL_most_363 rfl (by decide) ?_
  dsimp only [List.set]
  refine g_goto hX dL_most_366 ?_
  refine g_iload hX dL_most_281 rfl ?_
  refine g_const hX dL_most_282 ?_
  refine yf_icmp_ge hX dL_most_284 (ya_in rfl) (ya_in rfl) (by decide) ?_
  refine g_aload hX dL_most_287 rfl rfl ?_
  refine g_iload hX dL_most_288 rfl ?_
  refine g_const hX dL_most_289 ?_
  refine y_irem (c := 0) hX dL_most_290 (ya_in rfl) (ya_in rfl) (by decide) (by decide) (by decide) ?_
  refine yf_if_ne hX dL_most_291 (ya_in rfl) (by decide) ?_
  refine g_const hX dL_most_294 ?_
  refine g_goto hX dL_most_296 ?_
  refine g_const hX dL_most_301 ?_
  refine g_iload hX dL_most_302 rfl ?_
  refine g_const hX dL_most_303 ?_
  refine y_irem (c := 7) hX dL_most_305 (ya_in rfl) (ya_in rfl) (by decide) (by decide) (by decide) ?_
  refine y_iadd (c := 8) hX dL_most_306 (by decide) ?_
  refine g_iload hX dL_most_307 rfl ?_
  refine g_const hX dL_most_308 ?_
  refine y_irem (c := 1) hX dL_most_309 (ya_in rfl) (ya_in rfl) (by decide) (by decide) (by decide) ?_
  refine yt_if_ne hX dL_most_310 (ya_in rfl) (by decide) ?_
  refine g_const hX dL_most_317 ?_
  refine g_iload hX dL_most_318 rfl ?_
  refine g_const hX dL_most_319 ?_
  refine y_irem (c := 0) hX dL_most_320 (ya_in rfl) (ya_in rfl) (by decide) (by decide) (by decide) ?_
  refine yf_if_ne hX dL_most_321 (ya_in rfl) (by decide) ?_
  refine g_const hX dL_most_324 ?_
  refine g_goto hX dL_most_325 ?_
  refine g_iload hX dL_most_332 rfl ?_
  refine g_const hX dL_most_333 ?_
  refine y_irem (c := 0) hX dL_most_334 (ya_in rfl) (ya_in rfl) (by decide) (by decide) (by decide) ?_
  refine yf_if_ne hX dL_most_335 (ya_in rfl) (by decide) ?_
  refine g_const hX dL_most_338 ?_
  refine g_goto hX dL_most_339 ?_
  exact mo_g28 hX hst hR hK hH hV (by omega) (by omega)

set_option maxRecDepth 20000 in
theorem mo_g26 {X : hX} (hX : Cok X mL_most) (hst : X.1.2.1.stackTraces = false) {M0 : hM} {sz0 : Nat} {K : hK} (hR : Ret X mL_most M0 sz0 K) (hK : ∀ (M' : hM) (s9 : Nat), K (.inl (some (.int (iZ 1)))) M' s9) {h : Nat} {A : Nat → Nat → Nat} {ow : Nat → Nat × Nat} {τ : Nat → Nat → Int} {M : hM} {sz cs ss : Nat} (hH : HX X.2.2.2.2.2.2.2.2.2 h A ow (ya_TB ymS66) τ M) (hV : SV (ya_TB ymS66)) (hc : cs + 3577 ≤ 5000) (hs : ss + 85682 ≤ 125000) : G X 352 [.ref h, .int (iZ 13), U9, U9, U9] [.int (iZ 13)] M sz cs ss := by
  refine g_iload hX dL_most_352 rfl ?_
  refine g_goto hX dL_most_353 ?_
  refine yt_icmp_eq hX dL_most_358 (ya_in rfl) (ya_in rfl) (by decide) ?_
  refine y_iinc (c := 14) hX dL_most_363 rfl (by decide) ?_
  dsimp only [List.set]
  refine g_goto hX dL_most_366 ?_
  refine g_iload hX dL_most_281 rfl ?_
  refine g_const hX dL_most_282 ?_
  refine yf_icmp_ge hX dL_most_284 (ya_in rfl) (ya_in rfl) (by decide) ?_
  refine g_aload hX dL_most_287 rfl rfl ?_
  refine g_iload hX dL_most_288 rfl ?_
  refine g_const hX dL_most_289 ?_
  refine y_irem (c := 0) hX dL_most_290 (ya_in rfl) (ya_in rfl) (by decide) (by decide) (by decide) ?_
  refine yf_if_ne hX dL_most_291 (ya_in rfl) (by decide) ?_
  refine g_const hX dL_most_294 ?_
  refine g_goto hX dL_most_296 ?_
  refine g_const hX dL_most_301 ?_
  refine g_iload hX dL_most_302 rfl ?_
  refine g_const hX dL_most_303 ?_
  refine y_irem (c := 5) hX dL_most_305 (ya_in rfl) (ya_in rfl) (by decide) (by decide) (by decide) ?_
  refine y_iadd (c := 6) hX dL_most_306 (by decide) ?_
  refine g_iload hX dL_most_307 rfl ?_
  refine g_const hX dL_most_308 ?_
  refine y_irem (c := 2) hX dL_most_309 (ya_in rfl) (ya_in rfl) (by decide) (by decide) (by decide) ?_
  refine yt_if_ne hX dL_most_310 (ya_in rfl) (by decide) ?_
  refine g_const hX dL_most_317 ?_
  refine g_iload hX dL_most_318 rfl ?_
  refine g_const hX dL_most_319 ?_
  refine y_irem (c := 0) hX dL_most_320 (ya_in rfl) (ya_in rfl) (by decide) (by decide) (by decide) ?_
  refine yf_if_ne hX dL_most_321 (ya_in rfl) (by decide) ?_
  refine g_const hX dL_most_324 ?_
  refine g_goto hX dL_most_325 ?_
  refine g_iload hX dL_most_332 rfl ?_
  refine g_const hX dL_most_333 ?_
  refine y_irem (c := 0) hX dL_most_334 (ya_in rfl) (ya_in rfl) (by decide) (by decide) (by decide) ?_
  refine yf_if_ne hX dL_most_335 (ya_in rfl) (by decide) ?_
  refine g_const hX dL_most_338 ?_
  refine g_goto hX dL_most_339 ?_
  refine l_act hX hst dL_most_343 hH hV (ya_in rfl) (ya_in rfl) (ya_in rfl) (ya_in rfl) (ya_in rfl) yme147 (show cs + 10 ≤ 5000 by omega) (show ss + 250 ≤ 125000 by omega) (by first | exact Nat.le_of_ble_eq_true rfl | simp [cat_rf, Value.category]) (fun A ow τ M sz hH hV => ?_)
  refine g_iload hX dL_most_346 rfl ?_
  refine g_const hX dL_most_347 ?_
  refine yf_icmp_ge hX dL_most_349 (ya_in rfl) (ya_in rfl) (by decide) ?_
  refine g_iload hX dL_most_352 rfl ?_
  refine g_goto hX dL_most_353 ?_
  refine yt_icmp_eq hX dL_most_358 (ya_in rfl) (ya_in rfl) (by decide) ?_
  refine y_iinc (c := 15) hX dL_most_363 rfl (by decide) ?_
  dsimp only [List.set]
  refine g_goto hX dL_most_366 ?_
  refine g_iload hX dL_most_281 rfl ?_
  refine g_const hX dL_most_282 ?_
  refine yf_icmp_ge hX dL_most_284 (ya_in rfl) (ya_in rfl) (by decide) ?_
  refine g_aload hX dL_most_287 rfl rfl ?_
  refine g_iload hX dL_most_288 rfl ?_
  refine g_const hX dL_most_289 ?_
  refine y_irem (c := 1) hX dL_most_290 (ya_in rfl) (ya_in rfl) (by decide) (by decide) (by decide) ?_
  refine yt_if_ne hX dL_most_291 (ya_in rfl) (by decide) ?_
  refine g_const hX dL_most_299 ?_
  refine g_const hX dL_most_301 ?_
  refine g_iload hX dL_most_302 rfl ?_
  refine g_const hX dL_most_303 ?_
  refine y_irem (c := 6) hX dL_most_305 (ya_in rfl) (ya_in rfl) (by decide) (by decide) (by decide) ?_
  exact mo_g27 hX hst hR hK hH hV (by omega) (by omega)

set_option maxRecDepth 20000 in
theorem mo_g25 {X : hX} (hX : Cok X mL_most) (hst : X.1.2.1.stackTraces = false) {M0 : hM} {sz0 : Nat} {K : hK} (hR : Ret X mL_most M0 sz0 K) (hK : ∀ (M' : hM) (s9 : Nat), K (.inl (some (.int (iZ 1)))) M' s9) {h : Nat} {A : Nat → Nat → Nat} {ow : Nat → Nat × Nat} {τ : Nat → Nat → Int} {M : hM} {sz cs ss : Nat} (hH : HX X.2.2.2.2.2.2.2.2.2 h A ow (ya_TB ymS64) τ M) (hV : SV (ya_TB ymS64)) (hc : cs + 3597 ≤ 5000) (hs : ss + 86182 ≤ 125000) : G X 309 [.ref h, .int (iZ 12), U9, U9, U9] [.int (iZ 3), .int (iZ 12), .int (iZ 4), .int (iZ 14), .ref h] M sz cs ss := by
  refine y_irem (c := 0) hX dL_most_309 (ya_in rfl) (ya_in rfl) (by decide) (by decide) (by decide) ?_
  refine yf_if_ne hX dL_most_310 (ya_in rfl) (by decide) ?_
  refine g_const hX dL_most_313 ?_
  refine g_goto hX dL_most_314 ?_
  refine g_iload hX dL_most_318 rfl ?_
  refine g_const hX dL_most_319 ?_
  refine y_irem (c := 0) hX dL_most_320 (ya_in rfl) (ya_in rfl) (by decide) (by decide) (by decide) ?_
  refine yf_if_ne hX dL_most_321 (ya_in rfl) (by decide) ?_
  refine g_const hX dL_most_324 ?_
  refine g_goto hX dL_most_325 ?_
  refine g_iload hX dL_most_332 rfl ?_
  refine g_const hX dL_most_333 ?_
  refine y_irem (c := 0) hX dL_most_334 (ya_in rfl) (ya_in rfl) (by decide) (by decide) (by decide) ?_
  refine yf_if_ne hX dL_most_335 (ya_in rfl) (by decide) ?_
  refine g_const hX dL_most_338 ?_
  refine g_goto hX dL_most_339 ?_
  refine l_act hX hst dL_most_343 hH hV (ya_in rfl) (ya_in rfl) (ya_in rfl) (ya_in rfl) (ya_in rfl) yme143 (show cs + 10 ≤ 5000 by omega) (show ss + 250 ≤ 125000 by omega) (by first | exact Nat.le_of_ble_eq_true rfl | simp [cat_rf, Value.category]) (fun A ow τ M sz hH hV => ?_)
  refine g_iload hX dL_most_346 rfl ?_
  refine g_const hX dL_most_347 ?_
  refine yf_icmp_ge hX dL_most_349 (ya_in rfl) (ya_in rfl) (by decide) ?_
  refine g_iload hX dL_most_352 rfl ?_
  refine g_goto hX dL_most_353 ?_
  refine yt_icmp_eq hX dL_most_358 (ya_in rfl) (ya_in rfl) (by decide) ?_
  refine y_iinc (c := 13) hX dL_most_363 rfl (by decide) ?_
  dsimp only [List.set]
  refine g_goto hX dL_most_366 ?_
  refine g_iload hX dL_most_281 rfl ?_
  refine g_const hX dL_most_282 ?_
  refine yf_icmp_ge hX dL_most_284 (ya_in rfl) (ya_in rfl) (by decide) ?_
  refine g_aload hX dL_most_287 rfl rfl ?_
  refine g_iload hX dL_most_288 rfl ?_
  refine g_const hX dL_most_289 ?_
  refine y_irem (c := 1) hX dL_most_290 (ya_in rfl) (ya_in rfl) (by decide) (by decide) (by decide) ?_
  refine yt_if_ne hX dL_most_291 (ya_in rfl) (by decide) ?_
  refine g_const hX dL_most_299 ?_
  refine g_const hX dL_most_301 ?_
  refine g_iload hX dL_most_302 rfl ?_
  refine g_const hX dL_most_303 ?_
  refine y_irem (c := 4) hX dL_most_305 (ya_in rfl) (ya_in rfl) (by decide) (by decide) (by decide) ?_
  refine y_iadd (c := 5) hX dL_most_306 (by decide) ?_
  refine g_iload hX dL_most_307 rfl ?_
  refine g_const hX dL_most_308 ?_
  refine y_irem (c := 1) hX dL_most_309 (ya_in rfl) (ya_in rfl) (by decide) (by decide) (by decide) ?_
  refine yt_if_ne hX dL_most_310 (ya_in rfl) (by decide) ?_
  refine g_const hX dL_most_317 ?_
  refine g_iload hX dL_most_318 rfl ?_
  refine g_const hX dL_most_319 ?_
  refine y_irem (c := 1) hX dL_most_320 (ya_in rfl) (ya_in rfl) (by decide) (by decide) (by decide) ?_
  refine yt_if_ne hX dL_most_321 (ya_in rfl) (by decide) ?_
  refine g_const hX dL_most_328 ?_
  refine g_iload hX dL_most_330 rfl ?_
  refine y_iadd (c := (-47)) hX dL_most_331 (by decide) ?_
  refine g_iload hX dL_most_332 rfl ?_
  refine g_const hX dL_most_333 ?_
  refine y_irem (c := 1) hX dL_most_334 (ya_in rfl) (ya_in rfl) (by decide) (by decide) (by decide) ?_
  refine yt_if_ne hX dL_most_335 (ya_in rfl) (by decide) ?_
  refine g_const hX dL_most_342 ?_
  refine l_act hX hst dL_most_343 hH hV (ya_in rfl) (ya_in rfl) (ya_in rfl) (ya_in rfl) (ya_in rfl) yme145 (show cs + 10 + 10 ≤ 5000 by omega) (show ss + 250 + 250 ≤ 125000 by omega) (by first | exact Nat.le_of_ble_eq_true rfl | simp [cat_rf, Value.category]) (fun A ow τ M sz hH hV => ?_)
  refine g_iload hX dL_most_346 rfl ?_
  refine g_const hX dL_most_347 ?_
  refine yf_icmp_ge hX dL_most_349 (ya_in rfl) (ya_in rfl) (by decide) ?_
  exact mo_g26 hX hst hR hK hH hV (by omega) (by omega)

set_option maxRecDepth 20000 in
theorem mo_g24 {X : hX} (hX : Cok X mL_most) (hst : X.1.2.1.stackTraces = false) {M0 : hM} {sz0 : Nat} {K : hK} (hR : Ret X mL_most M0 sz0 K) (hK : ∀ (M' : hM) (s9 : Nat), K (.inl (some (.int (iZ 1)))) M' s9) {h : Nat} {A : Nat → Nat → Nat} {ow : Nat → Nat × Nat} {τ : Nat → Nat → Int} {M : hM} {sz cs ss : Nat} (hH : HX X.2.2.2.2.2.2.2.2.2 h A ow (ya_TB ymS63) τ M) (hV : SV (ya_TB ymS63)) (hc : cs + 3607 ≤ 5000) (hs : ss + 86432 ≤ 125000) : G X 363 [.ref h, .int (iZ 10), U9, U9, U9] [] M sz cs ss := by
  refine y_iinc (c := 11) hX dL_most_363 rfl (by decide) ?_
  dsimp only [List.set]
  refine g_goto hX dL_most_366 ?_
  refine g_iload hX dL_most_281 rfl ?_
  refine g_const hX dL_most_282 ?_
  refine yf_icmp_ge hX dL_most_284 (ya_in rfl) (ya_in rfl) (by decide) ?_
  refine g_aload hX dL_most_287 rfl rfl ?_
  refine g_iload hX dL_most_288 rfl ?_
  refine g_const hX dL_most_289 ?_
  refine y_irem (c := 1) hX dL_most_290 (ya_in rfl) (ya_in rfl) (by decide) (by decide) (by decide) ?_
  refine yt_if_ne hX dL_most_291 (ya_in rfl) (by decide) ?_
  refine g_const hX dL_most_299 ?_
  refine g_const hX dL_most_301 ?_
  refine g_iload hX dL_most_302 rfl ?_
  refine g_const hX dL_most_303 ?_
  refine y_irem (c := 2) hX dL_most_305 (ya_in rfl) (ya_in rfl) (by decide) (by decide) (by decide) ?_
  refine y_iadd (c := 3) hX dL_most_306 (by decide) ?_
  refine g_iload hX dL_most_307 rfl ?_
  refine g_const hX dL_most_308 ?_
  refine y_irem (c := 2) hX dL_most_309 (ya_in rfl) (ya_in rfl) (by decide) (by decide) (by decide) ?_
  refine yt_if_ne hX dL_most_310 (ya_in rfl) (by decide) ?_
  refine g_const hX dL_most_317 ?_
  refine g_iload hX dL_most_318 rfl ?_
  refine g_const hX dL_most_319 ?_
  refine y_irem (c := 1) hX dL_most_320 (ya_in rfl) (ya_in rfl) (by decide) (by decide) (by decide) ?_
  refine yt_if_ne hX dL_most_321 (ya_in rfl) (by decide) ?_
  refine g_const hX dL_most_328 ?_
  refine g_iload hX dL_most_330 rfl ?_
  refine y_iadd (c := (-49)) hX dL_most_331 (by decide) ?_
  refine g_iload hX dL_most_332 rfl ?_
  refine g_const hX dL_most_333 ?_
  refine y_irem (c := 1) hX dL_most_334 (ya_in rfl) (ya_in rfl) (by decide) (by decide) (by decide) ?_
  refine yt_if_ne hX dL_most_335 (ya_in rfl) (by decide) ?_
  refine g_const hX dL_most_342 ?_
  refine l_act hX hst dL_most_343 hH hV (ya_in rfl) (ya_in rfl) (ya_in rfl) (ya_in rfl) (ya_in rfl) yme141 (show cs + 10 ≤ 5000 by omega) (show ss + 250 ≤ 125000 by omega) (by first | exact Nat.le_of_ble_eq_true rfl | simp [cat_rf, Value.category]) (fun A ow τ M sz hH hV => ?_)
  refine g_iload hX dL_most_346 rfl ?_
  refine g_const hX dL_most_347 ?_
  refine yf_icmp_ge hX dL_most_349 (ya_in rfl) (ya_in rfl) (by decide) ?_
  refine g_iload hX dL_most_352 rfl ?_
  refine g_goto hX dL_most_353 ?_
  refine yt_icmp_eq hX dL_most_358 (ya_in rfl) (ya_in rfl) (by decide) ?_
  refine y_iinc (c := 12) hX dL_most_363 rfl (by decide) ?_
  dsimp only [List.set]
  refine g_goto hX dL_most_366 ?_
  refine g_iload hX dL_most_281 rfl ?_
  refine g_const hX dL_most_282 ?_
  refine yf_icmp_ge hX dL_most_284 (ya_in rfl) (ya_in rfl) (by decide) ?_
  refine g_aload hX dL_most_287 rfl rfl ?_
  refine g_iload hX dL_most_288 rfl ?_
  refine g_const hX dL_most_289 ?_
  refine y_irem (c := 0) hX dL_most_290 (ya_in rfl) (ya_in rfl) (by decide) (by decide) (by decide) ?_
  refine yf_if_ne hX dL_most_291 (ya_in rfl) (by decide) ?_
  refine g_const hX dL_most_294 ?_
  refine g_goto hX dL_most_296 ?_
  refine g_const hX dL_most_301 ?_
  refine g_iload hX dL_most_302 rfl ?_
  refine g_const hX dL_most_303 ?_
  refine y_irem (c := 3) hX dL_most_305 (ya_in rfl) (ya_in rfl) (by decide) (by decide) (by decide) ?_
  refine y_iadd (c := 4) hX dL_most_306 (by decide) ?_
  refine g_iload hX dL_most_307 rfl ?_
  refine g_const hX dL_most_308 ?_
  exact mo_g25 hX hst hR hK hH hV (by omega) (by omega)

set_option maxRecDepth 20000 in
theorem mo_g23 {X : hX} (hX : Cok X mL_most) (hst : X.1.2.1.stackTraces = false) {M0 : hM} {sz0 : Nat} {K : hK} (hR : Ret X mL_most M0 sz0 K) (hK : ∀ (M' : hM) (s9 : Nat), K (.inl (some (.int (iZ 1)))) M' s9) {h : Nat} {A : Nat → Nat → Nat} {ow : Nat → Nat × Nat} {τ : Nat → Nat → Int} {M : hM} {sz cs ss : Nat} (hH : HX X.2.2.2.2.2.2.2.2.2 h A ow (ya_TB ymS61) τ M) (hV : SV (ya_TB ymS61)) (hc : cs + 3627 ≤ 5000) (hs : ss + 86932 ≤ 125000) : G X 318 [.ref h, .int (iZ 9), U9, U9, U9] [.int (iZ 1), .int (iZ 1), .int (iZ 15), .ref h] M sz cs ss := by
  refine g_iload hX dL_most_318 rfl ?_
  refine g_const hX dL_most_319 ?_
  refine y_irem (c := 1) hX dL_most_320 (ya_in rfl) (ya_in rfl) (by decide) (by decide) (by decide) ?_
  refine yt_if_ne hX dL_most_321 (ya_in rfl) (by decide) ?_
  refine g_const hX dL_most_328 ?_
  refine g_iload hX dL_most_330 rfl ?_
  refine y_iadd (c := (-51)) hX dL_most_331 (by decide) ?_
  refine g_iload hX dL_most_332 rfl ?_
  refine g_const hX dL_most_333 ?_
  refine y_irem (c := 1) hX dL_most_334 (ya_in rfl) (ya_in rfl) (by decide) (by decide) (by decide) ?_
  refine yt_if_ne hX dL_most_335 (ya_in rfl) (by decide) ?_
  refine g_const hX dL_most_342 ?_
  refine l_act hX hst dL_most_343 hH hV (ya_in rfl) (ya_in rfl) (ya_in rfl) (ya_in rfl) (ya_in rfl) yme137 (show cs + 10 ≤ 5000 by omega) (show ss + 250 ≤ 125000 by omega) (by first | exact Nat.le_of_ble_eq_true rfl | simp [cat_rf, Value.category]) (fun A ow τ M sz hH hV => ?_)
  refine g_iload hX dL_most_346 rfl ?_
  refine g_const hX dL_most_347 ?_
  refine yf_icmp_ge hX dL_most_349 (ya_in rfl) (ya_in rfl) (by decide) ?_
  refine g_iload hX dL_most_352 rfl ?_
  refine g_goto hX dL_most_353 ?_
  refine yt_icmp_eq hX dL_most_358 (ya_in rfl) (ya_in rfl) (by decide) ?_
  refine y_iinc (c := 10) hX dL_most_363 rfl (by decide) ?_
  dsimp only [List.set]
  refine g_goto hX dL_most_366 ?_
  refine g_iload hX dL_most_281 rfl ?_
  refine g_const hX dL_most_282 ?_
  refine yf_icmp_ge hX dL_most_284 (ya_in rfl) (ya_in rfl) (by decide) ?_
  refine g_aload hX dL_most_287 rfl rfl ?_
  refine g_iload hX dL_most_288 rfl ?_
  refine g_const hX dL_most_289 ?_
  refine y_irem (c := 0) hX dL_most_290 (ya_in rfl) (ya_in rfl) (by decide) (by decide) (by decide) ?_
  refine yf_if_ne hX dL_most_291 (ya_in rfl) (by decide) ?_
  refine g_const hX dL_most_294 ?_
  refine g_goto hX dL_most_296 ?_
  refine g_const hX dL_most_301 ?_
  refine g_iload hX dL_most_302 rfl ?_
  refine g_const hX dL_most_303 ?_
  refine y_irem (c := 1) hX dL_most_305 (ya_in rfl) (ya_in rfl) (by decide) (by decide) (by decide) ?_
  refine y_iadd (c := 2) hX dL_most_306 (by decide) ?_
  refine g_iload hX dL_most_307 rfl ?_
  refine g_const hX dL_most_308 ?_
  refine y_irem (c := 1) hX dL_most_309 (ya_in rfl) (ya_in rfl) (by decide) (by decide) (by decide) ?_
  refine yt_if_ne hX dL_most_310 (ya_in rfl) (by decide) ?_
  refine g_const hX dL_most_317 ?_
  refine g_iload hX dL_most_318 rfl ?_
  refine g_const hX dL_most_319 ?_
  refine y_irem (c := 0) hX dL_most_320 (ya_in rfl) (ya_in rfl) (by decide) (by decide) (by decide) ?_
  refine yf_if_ne hX dL_most_321 (ya_in rfl) (by decide) ?_
  refine g_const hX dL_most_324 ?_
  refine g_goto hX dL_most_325 ?_
  refine g_iload hX dL_most_332 rfl ?_
  refine g_const hX dL_most_333 ?_
  refine y_irem (c := 0) hX dL_most_334 (ya_in rfl) (ya_in rfl) (by decide) (by decide) (by decide) ?_
  refine yf_if_ne hX dL_most_335 (ya_in rfl) (by decide) ?_
  refine g_const hX dL_most_338 ?_
  refine g_goto hX dL_most_339 ?_
  refine l_act hX hst dL_most_343 hH hV (ya_in rfl) (ya_in rfl) (ya_in rfl) (ya_in rfl) (ya_in rfl) yme139 (show cs + 10 + 10 ≤ 5000 by omega) (show ss + 250 + 250 ≤ 125000 by omega) (by first | exact Nat.le_of_ble_eq_true rfl | simp [cat_rf, Value.category]) (fun A ow τ M sz hH hV => ?_)
  refine g_iload hX dL_most_346 rfl ?_
  refine g_const hX dL_most_347 ?_
  refine yf_icmp_ge hX dL_most_349 (ya_in rfl) (ya_in rfl) (by decide) ?_
  refine g_iload hX dL_most_352 rfl ?_
  refine g_goto hX dL_most_353 ?_
  refine yt_icmp_eq hX dL_most_358 (ya_in rfl) (ya_in rfl) (by decide) ?_
  exact mo_g24 hX hst hR hK hH hV (by omega) (by omega)

set_option maxRecDepth 20000 in
theorem mo_g22 {X : hX} (hX : Cok X mL_most) (hst : X.1.2.1.stackTraces = false) {M0 : hM} {sz0 : Nat} {K : hK} (hR : Ret X mL_most M0 sz0 K) (hK : ∀ (M' : hM) (s9 : Nat), K (.inl (some (.int (iZ 1)))) M' s9) {h : Nat} {A : Nat → Nat → Nat} {ow : Nat → Nat × Nat} {τ : Nat → Nat → Int} {M : hM} {sz cs ss : Nat} (hH : HX X.2.2.2.2.2.2.2.2.2 h A ow (ya_TB ymS60) τ M) (hV : SV (ya_TB ymS60)) (hc : cs + 3637 ≤ 5000) (hs : ss + 87182 ≤ 125000) : G X 282 [.ref h, .int (iZ 8), U9, U9, U9] [.int (iZ 8)] M sz cs ss := by
  refine g_const hX dL_most_282 ?_
  refine yf_icmp_ge hX dL_most_284 (ya_in rfl) (ya_in rfl) (by decide) ?_
  refine g_aload hX dL_most_287 rfl rfl ?_
  refine g_iload hX dL_most_288 rfl ?_
  refine g_const hX dL_most_289 ?_
  refine y_irem (c := 0) hX dL_most_290 (ya_in rfl) (ya_in rfl) (by decide) (by decide) (by decide) ?_
  refine yf_if_ne hX dL_most_291 (ya_in rfl) (by decide) ?_
  refine g_const hX dL_most_294 ?_
  refine g_goto hX dL_most_296 ?_
  refine g_const hX dL_most_301 ?_
  refine g_iload hX dL_most_302 rfl ?_
  refine g_const hX dL_most_303 ?_
  refine y_irem (c := 8) hX dL_most_305 (ya_in rfl) (ya_in rfl) (by decide) (by decide) (by decide) ?_
  refine y_iadd (c := 9) hX dL_most_306 (by decide) ?_
  refine g_iload hX dL_most_307 rfl ?_
  refine g_const hX dL_most_308 ?_
  refine y_irem (c := 2) hX dL_most_309 (ya_in rfl) (ya_in rfl) (by decide) (by decide) (by decide) ?_
  refine yt_if_ne hX dL_most_310 (ya_in rfl) (by decide) ?_
  refine g_const hX dL_most_317 ?_
  refine g_iload hX dL_most_318 rfl ?_
  refine g_const hX dL_most_319 ?_
  refine y_irem (c := 0) hX dL_most_320 (ya_in rfl) (ya_in rfl) (by decide) (by decide) (by decide) ?_
  refine yf_if_ne hX dL_most_321 (ya_in rfl) (by decide) ?_
  refine g_const hX dL_most_324 ?_
  refine g_goto hX dL_most_325 ?_
  refine g_iload hX dL_most_332 rfl ?_
  refine g_const hX dL_most_333 ?_
  refine y_irem (c := 0) hX dL_most_334 (ya_in rfl) (ya_in rfl) (by decide) (by decide) (by decide) ?_
  refine yf_if_ne hX dL_most_335 (ya_in rfl) (by decide) ?_
  refine g_const hX dL_most_338 ?_
  refine g_goto hX dL_most_339 ?_
  refine l_act hX hst dL_most_343 hH hV (ya_in rfl) (ya_in rfl) (ya_in rfl) (ya_in rfl) (ya_in rfl) yme135 (show cs + 10 ≤ 5000 by omega) (show ss + 250 ≤ 125000 by omega) (by first | exact Nat.le_of_ble_eq_true rfl | simp [cat_rf, Value.category]) (fun A ow τ M sz hH hV => ?_)
  refine g_iload hX dL_most_346 rfl ?_
  refine g_const hX dL_most_347 ?_
  refine yf_icmp_ge hX dL_most_349 (ya_in rfl) (ya_in rfl) (by decide) ?_
  refine g_iload hX dL_most_352 rfl ?_
  refine g_goto hX dL_most_353 ?_
  refine yt_icmp_eq hX dL_most_358 (ya_in rfl) (ya_in rfl) (by decide) ?_
  refine y_iinc (c := 9) hX dL_most_363 rfl (by decide) ?_
  dsimp only [List.set]
  refine g_goto hX dL_most_366 ?_
  refine g_iload hX dL_most_281 rfl ?_
  refine g_const hX dL_most_282 ?_
  refine yf_icmp_ge hX dL_most_284 (ya_in rfl) (ya_in rfl) (by decide) ?_
  refine g_aload hX dL_most_287 rfl rfl ?_
  refine g_iload hX dL_most_288 rfl ?_
  refine g_const hX dL_most_289 ?_
  refine y_irem (c := 1) hX dL_most_290 (ya_in rfl) (ya_in rfl) (by decide) (by decide) (by decide) ?_
  refine yt_if_ne hX dL_most_291 (ya_in rfl) (by decide) ?_
  refine g_const hX dL_most_299 ?_
  refine g_const hX dL_most_301 ?_
  refine g_iload hX dL_most_302 rfl ?_
  refine g_const hX dL_most_303 ?_
  refine y_irem (c := 0) hX dL_most_305 (ya_in rfl) (ya_in rfl) (by decide) (by decide) (by decide) ?_
  refine y_iadd (c := 1) hX dL_most_306 (by decide) ?_
  refine g_iload hX dL_most_307 rfl ?_
  refine g_const hX dL_most_308 ?_
  refine y_irem (c := 0) hX dL_most_309 (ya_in rfl) (ya_in rfl) (by decide) (by decide) (by decide) ?_
  refine yf_if_ne hX dL_most_310 (ya_in rfl) (by decide) ?_
  refine g_const hX dL_most_313 ?_
  refine g_goto hX dL_most_314 ?_
  exact mo_g23 hX hst hR hK hH hV (by omega) (by omega)

set_option maxRecDepth 20000 in
theorem mo_g21 {X : hX} (hX : Cok X mL_most) (hst : X.1.2.1.stackTraces = false) {M0 : hM} {sz0 : Nat} {K : hK} (hR : Ret X mL_most M0 sz0 K) (hK : ∀ (M' : hM) (s9 : Nat), K (.inl (some (.int (iZ 1)))) M' s9) {h : Nat} {A : Nat → Nat → Nat} {ow : Nat → Nat × Nat} {τ : Nat → Nat → Int} {M : hM} {sz cs ss : Nat} (hH : HX X.2.2.2.2.2.2.2.2.2 h A ow (ya_TB ymS58) τ M) (hV : SV (ya_TB ymS58)) (hc : cs + 3657 ≤ 5000) (hs : ss + 87682 ≤ 125000) : G X 321 [.ref h, .int (iZ 6), U9, U9, U9] [.int (iZ 0), .int (iZ 1), .int (iZ 7), .int (iZ 14), .ref h] M sz cs ss := by
  refine yf_if_ne hX dL_most_321 (ya_in rfl) (by decide) ?_
  refine g_const hX dL_most_324 ?_
  refine g_goto hX dL_most_325 ?_
  refine g_iload hX dL_most_332 rfl ?_
  refine g_const hX dL_most_333 ?_
  refine y_irem (c := 0) hX dL_most_334 (ya_in rfl) (ya_in rfl) (by decide) (by decide) (by decide) ?_
  refine yf_if_ne hX dL_most_335 (ya_in rfl) (by decide) ?_
  refine g_const hX dL_most_338 ?_
  refine g_goto hX dL_most_339 ?_
  refine l_act hX hst dL_most_343 hH hV (ya_in rfl) (ya_in rfl) (ya_in rfl) (ya_in rfl) (ya_in rfl) yme131 (show cs + 10 ≤ 5000 by omega) (show ss + 250 ≤ 125000 by omega) (by first | exact Nat.le_of_ble_eq_true rfl | simp [cat_rf, Value.category]) (fun A ow τ M sz hH hV => ?_)
  refine g_iload hX dL_most_346 rfl ?_
  refine g_const hX dL_most_347 ?_
  refine yf_icmp_ge hX dL_most_349 (ya_in rfl) (ya_in rfl) (by decide) ?_
  refine g_iload hX dL_most_352 rfl ?_
  refine g_goto hX dL_most_353 ?_
  refine yt_icmp_eq hX dL_most_358 (ya_in rfl) (ya_in rfl) (by decide) ?_
  refine y_iinc (c := 7) hX dL_most_363 rfl (by decide) ?_
  dsimp only [List.set]
  refine g_goto hX dL_most_366 ?_
  refine g_iload hX dL_most_281 rfl ?_
  refine g_const hX dL_most_282 ?_
  refine yf_icmp_ge hX dL_most_284 (ya_in rfl) (ya_in rfl) (by decide) ?_
  refine g_aload hX dL_most_287 rfl rfl ?_
  refine g_iload hX dL_most_288 rfl ?_
  refine g_const hX dL_most_289 ?_
  refine y_irem (c := 1) hX dL_most_290 (ya_in rfl) (ya_in rfl) (by decide) (by decide) (by decide) ?_
  refine yt_if_ne hX dL_most_291 (ya_in rfl) (by decide) ?_
  refine g_const hX dL_most_299 ?_
  refine g_const hX dL_most_301 ?_
  refine g_iload hX dL_most_302 rfl ?_
  refine g_const hX dL_most_303 ?_
  refine y_irem (c := 7) hX dL_most_305 (ya_in rfl) (ya_in rfl) (by decide) (by decide) (by decide) ?_
  refine y_iadd (c := 8) hX dL_most_306 (by decide) ?_
  refine g_iload hX dL_most_307 rfl ?_
  refine g_const hX dL_most_308 ?_
  refine y_irem (c := 1) hX dL_most_309 (ya_in rfl) (ya_in rfl) (by decide) (by decide) (by decide) ?_
  refine yt_if_ne hX dL_most_310 (ya_in rfl) (by decide) ?_
  refine g_const hX dL_most_317 ?_
  refine g_iload hX dL_most_318 rfl ?_
  refine g_const hX dL_most_319 ?_
  refine y_irem (c := 1) hX dL_most_320 (ya_in rfl) (ya_in rfl) (by decide) (by decide) (by decide) ?_
  refine yt_if_ne hX dL_most_321 (ya_in rfl) (by decide) ?_
  refine g_const hX dL_most_328 ?_
  refine g_iload hX dL_most_330 rfl ?_
  refine y_iadd (c := (-53)) hX dL_most_331 (by decide) ?_
  refine g_iload hX dL_most_332 rfl ?_
  refine g_const hX dL_most_333 ?_
  refine y_irem (c := 1) hX dL_most_334 (ya_in rfl) (ya_in rfl) (by decide) (by decide) (by decide) ?_
  refine yt_if_ne hX dL_most_335 (ya_in rfl) (by decide) ?_
  refine g_const hX dL_most_342 ?_
  refine l_act hX hst dL_most_343 hH hV (ya_in rfl) (ya_in rfl) (ya_in rfl) (ya_in rfl) (ya_in rfl) yme133 (show cs + 10 + 10 ≤ 5000 by omega) (show ss + 250 + 250 ≤ 125000 by omega) (by first | exact Nat.le_of_ble_eq_true rfl | simp [cat_rf, Value.category]) (fun A ow τ M sz hH hV => ?_)
  refine g_iload hX dL_most_346 rfl ?_
  refine g_const hX dL_most_347 ?_
  refine yf_icmp_ge hX dL_most_349 (ya_in rfl) (ya_in rfl) (by decide) ?_
  refine g_iload hX dL_most_352 rfl ?_
  refine g_goto hX dL_most_353 ?_
  refine yt_icmp_eq hX dL_most_358 (ya_in rfl) (ya_in rfl) (by decide) ?_
  refine y_iinc (c := 8) hX dL_most_363 rfl (by decide) ?_
  dsimp only [List.set]
  refine g_goto hX dL_most_366 ?_
  refine g_iload hX dL_most_281 rfl ?_
  exact mo_g22 hX hst hR hK hH hV (by omega) (by omega)

set_option maxRecDepth 20000 in
theorem mo_g20 {X : hX} (hX : Cok X mL_most) (hst : X.1.2.1.stackTraces = false) {M0 : hM} {sz0 : Nat} {K : hK} (hR : Ret X mL_most M0 sz0 K) (hK : ∀ (M' : hM) (s9 : Nat), K (.inl (some (.int (iZ 1)))) M' s9) {h : Nat} {A : Nat → Nat → Nat} {ow : Nat → Nat × Nat} {τ : Nat → Nat → Int} {M : hM} {sz cs ss : Nat} (hH : HX X.2.2.2.2.2.2.2.2.2 h A ow (ya_TB ymS57) τ M) (hV : SV (ya_TB ymS57)) (hc : cs + 3667 ≤ 5000) (hs : ss + 87932 ≤ 125000) : G X 288 [.ref h, .int (iZ 5), U9, U9, U9] [.ref h] M sz cs ss := by
  refine g_iload hX dL_most_288 rfl ?_
  refine g_const hX dL_most_289 ?_
  refine y_irem (c := 1) hX dL_most_290 (ya_in rfl) (ya_in rfl) (by decide) (by decide) (by decide) ?_
  refine yt_if_ne hX dL_most_291 (ya_in rfl) (by decide) ?_
  refine g_const hX dL_most_299 ?_
  refine g_const hX dL_most_301 ?_
  refine g_iload hX dL_most_302 rfl ?_
  refine g_const hX dL_most_303 ?_
  refine y_irem (c := 5) hX dL_most_305 (ya_in rfl) (ya_in rfl) (by decide) (by decide) (by decide) ?_
  refine y_iadd (c := 6) hX dL_most_306 (by decide) ?_
  refine g_iload hX dL_most_307 rfl ?_
  refine g_const hX dL_most_308 ?_
  refine y_irem (c := 2) hX dL_most_309 (ya_in rfl) (ya_in rfl) (by decide) (by decide) (by decide) ?_
  refine yt_if_ne hX dL_most_310 (ya_in rfl) (by decide) ?_
  refine g_const hX dL_most_317 ?_
  refine g_iload hX dL_most_318 rfl ?_
  refine g_const hX dL_most_319 ?_
  refine y_irem (c := 1) hX dL_most_320 (ya_in rfl) (ya_in rfl) (by decide) (by decide) (by decide) ?_
  refine yt_if_ne hX dL_most_321 (ya_in rfl) (by decide) ?_
  refine g_const hX dL_most_328 ?_
  refine g_iload hX dL_most_330 rfl ?_
  refine y_iadd (c := (-55)) hX dL_most_331 (by decide) ?_
  refine g_iload hX dL_most_332 rfl ?_
  refine g_const hX dL_most_333 ?_
  refine y_irem (c := 1) hX dL_most_334 (ya_in rfl) (ya_in rfl) (by decide) (by decide) (by decide) ?_
  refine yt_if_ne hX dL_most_335 (ya_in rfl) (by decide) ?_
  refine g_const hX dL_most_342 ?_
  refine l_act hX hst dL_most_343 hH hV (ya_in rfl) (ya_in rfl) (ya_in rfl) (ya_in rfl) (ya_in rfl) yme129 (show cs + 10 ≤ 5000 by omega) (show ss + 250 ≤ 125000 by omega) (by first | exact Nat.le_of_ble_eq_true rfl | simp [cat_rf, Value.category]) (fun A ow τ M sz hH hV => ?_)
  refine g_iload hX dL_most_346 rfl ?_
  refine g_const hX dL_most_347 ?_
  refine yf_icmp_ge hX dL_most_349 (ya_in rfl) (ya_in rfl) (by decide) ?_
  refine g_iload hX dL_most_352 rfl ?_
  refine g_goto hX dL_most_353 ?_
  refine yt_icmp_eq hX dL_most_358 (ya_in rfl) (ya_in rfl) (by decide) ?_
  refine y_iinc (c := 6) hX dL_most_363 rfl (by decide) ?_
  dsimp only [List.set]
  refine g_goto hX dL_most_366 ?_
  refine g_iload hX dL_most_281 rfl ?_
  refine g_const hX dL_most_282 ?_
  refine yf_icmp_ge hX dL_most_284 (ya_in rfl) (ya_in rfl) (by decide) ?_
  refine g_aload hX dL_most_287 rfl rfl ?_
  refine g_iload hX dL_most_288 rfl ?_
  refine g_const hX dL_most_289 ?_
  refine y_irem (c := 0) hX dL_most_290 (ya_in rfl) (ya_in rfl) (by decide) (by decide) (by decide) ?_
  refine yf_if_ne hX dL_most_291 (ya_in rfl) (by decide) ?_
  refine g_const hX dL_most_294 ?_
  refine g_goto hX dL_most_296 ?_
  refine g_const hX dL_most_301 ?_
  refine g_iload hX dL_most_302 rfl ?_
  refine g_const hX dL_most_303 ?_
  refine y_irem (c := 6) hX dL_most_305 (ya_in rfl) (ya_in rfl) (by decide) (by decide) (by decide) ?_
  refine y_iadd (c := 7) hX dL_most_306 (by decide) ?_
  refine g_iload hX dL_most_307 rfl ?_
  refine g_const hX dL_most_308 ?_
  refine y_irem (c := 0) hX dL_most_309 (ya_in rfl) (ya_in rfl) (by decide) (by decide) (by decide) ?_
  refine yf_if_ne hX dL_most_310 (ya_in rfl) (by decide) ?_
  refine g_const hX dL_most_313 ?_
  refine g_goto hX dL_most_314 ?_
  refine g_iload hX dL_most_318 rfl ?_
  refine g_const hX dL_most_319 ?_
  refine y_irem (c := 0) hX dL_most_320 (ya_in rfl) (ya_in rfl) (by decide) (by decide) (by decide) ?_
  exact mo_g21 hX hst hR hK hH hV (by omega) (by omega)

set_option maxRecDepth 20000 in
theorem mo_g19 {X : hX} (hX : Cok X mL_most) (hst : X.1.2.1.stackTraces = false) {M0 : hM} {sz0 : Nat} {K : hK} (hR : Ret X mL_most M0 sz0 K) (hK : ∀ (M' : hM) (s9 : Nat), K (.inl (some (.int (iZ 1)))) M' s9) {h : Nat} {A : Nat → Nat → Nat} {ow : Nat → Nat × Nat} {τ : Nat → Nat → Int} {M : hM} {sz cs ss : Nat} (hH : HX X.2.2.2.2.2.2.2.2.2 h A ow (ya_TB ymS55) τ M) (hV : SV (ya_TB ymS55)) (hc : cs + 3687 ≤ 5000) (hs : ss + 88432 ≤ 125000) : G X 332 [.ref h, .int (iZ 3), U9, U9, U9] [.int (iZ (-57)), .int (iZ 1), .int (iZ 4), .int (iZ 15), .ref h] M sz cs ss := by
  refine g_iload hX dL_most_332 rfl ?_
  refine g_const hX dL_most_333 ?_
  refine y_irem (c := 1) hX dL_most_334 (ya_in rfl) (ya_in rfl) (by decide) (by decide) (by decide) ?_
  refine yt_if_ne hX dL_most_335 (ya_in rfl) (by decide) ?_
  refine g_const hX dL_most_342 ?_
  refine l_act hX hst dL_most_343 hH hV (ya_in rfl) (ya_in rfl) (ya_in rfl) (ya_in rfl) (ya_in rfl) yme125 (show cs + 10 ≤ 5000 by omega) (show ss + 250 ≤ 125000 by omega) (by first | exact Nat.le_of_ble_eq_true rfl | simp [cat_rf, Value.category]) (fun A ow τ M sz hH hV => ?_)
  refine g_iload hX dL_most_346 rfl ?_
  refine g_const hX dL_most_347 ?_
  refine yf_icmp_ge hX dL_most_349 (ya_in rfl) (ya_in rfl) (by decide) ?_
  refine g_iload hX dL_most_352 rfl ?_
  refine g_goto hX dL_most_353 ?_
  refine yt_icmp_eq hX dL_most_358 (ya_in rfl) (ya_in rfl) (by decide) ?_
  refine y_iinc (c := 4) hX dL_most_363 rfl (by decide) ?_
  dsimp only [List.set]
  refine g_goto hX dL_most_366 ?_
  refine g_iload hX dL_most_281 rfl ?_
  refine g_const hX dL_most_282 ?_
  refine yf_icmp_ge hX dL_most_284 (ya_in rfl) (ya_in rfl) (by decide) ?_
  refine g_aload hX dL_most_287 rfl rfl ?_
  refine g_iload hX dL_most_288 rfl ?_
  refine g_const hX dL_most_289 ?_
  refine y_irem (c := 0) hX dL_most_290 (ya_in rfl) (ya_in rfl) (by decide) (by decide) (by decide) ?_
  refine yf_if_ne hX dL_most_291 (ya_in rfl) (by decide) ?_
  refine g_const hX dL_most_294 ?_
  refine g_goto hX dL_most_296 ?_
  refine g_const hX dL_most_301 ?_
  refine g_iload hX dL_most_302 rfl ?_
  refine g_const hX dL_most_303 ?_
  refine y_irem (c := 4) hX dL_most_305 (ya_in rfl) (ya_in rfl) (by decide) (by decide) (by decide) ?_
  refine y_iadd (c := 5) hX dL_most_306 (by decide) ?_
  refine g_iload hX dL_most_307 rfl ?_
  refine g_const hX dL_most_308 ?_
  refine y_irem (c := 1) hX dL_most_309 (ya_in rfl) (ya_in rfl) (by decide) (by decide) (by decide) ?_
  refine yt_if_ne hX dL_most_310 (ya_in rfl) (by decide) ?_
  refine g_const hX dL_most_317 ?_
  refine g_iload hX dL_most_318 rfl ?_
  refine g_const hX dL_most_319 ?_
  refine y_irem (c := 0) hX dL_most_320 (ya_in rfl) (ya_in rfl) (by decide) (by decide) (by decide) ?_
  refine yf_if_ne hX dL_most_321 (ya_in rfl) (by decide) ?_
  refine g_const hX dL_most_324 ?_
  refine g_goto hX dL_most_325 ?_
  refine g_iload hX dL_most_332 rfl ?_
  refine g_const hX dL_most_333 ?_
  refine y_irem (c := 0) hX dL_most_334 (ya_in rfl) (ya_in rfl) (by decide) (by decide) (by decide) ?_
  refine yf_if_ne hX dL_most_335 (ya_in rfl) (by decide) ?_
  refine g_const hX dL_most_338 ?_
  refine g_goto hX dL_most_339 ?_
  refine l_act hX hst dL_most_343 hH hV (ya_in rfl) (ya_in rfl) (ya_in rfl) (ya_in rfl) (ya_in rfl) yme127 (show cs + 10 + 10 ≤ 5000 by omega) (show ss + 250 + 250 ≤ 125000 by omega) (by first | exact Nat.le_of_ble_eq_true rfl | simp [cat_rf, Value.category]) (fun A ow τ M sz hH hV => ?_)
  refine g_iload hX dL_most_346 rfl ?_
  refine g_const hX dL_most_347 ?_
  refine yf_icmp_ge hX dL_most_349 (ya_in rfl) (ya_in rfl) (by decide) ?_
  refine g_iload hX dL_most_352 rfl ?_
  refine g_goto hX dL_most_353 ?_
  refine yt_icmp_eq hX dL_most_358 (ya_in rfl) (ya_in rfl) (by decide) ?_
  refine y_iinc (c := 5) hX dL_most_363 rfl (by decide) ?_
  dsimp only [List.set]
  refine g_goto hX dL_most_366 ?_
  refine g_iload hX dL_most_281 rfl ?_
  refine g_const hX dL_most_282 ?_
  refine yf_icmp_ge hX dL_most_284 (ya_in rfl) (ya_in rfl) (by decide) ?_
  refine g_aload hX dL_most_287 rfl rfl ?_
  exact mo_g20 hX hst hR hK hH hV (by omega) (by omega)

set_option maxRecDepth 20000 in
theorem mo_g18 {X : hX} (hX : Cok X mL_most) (hst : X.1.2.1.stackTraces = false) {M0 : hM} {sz0 : Nat} {K : hK} (hR : Ret X mL_most M0 sz0 K) (hK : ∀ (M' : hM) (s9 : Nat), K (.inl (some (.int (iZ 1)))) M' s9) {h : Nat} {A : Nat → Nat → Nat} {ow : Nat → Nat × Nat} {τ : Nat → Nat → Int} {M : hM} {sz cs ss : Nat} (hH : HX X.2.2.2.2.2.2.2.2.2 h A ow (ya_TB ymS54) τ M) (hV : SV (ya_TB ymS54)) (hc : cs + 3697 ≤ 5000) (hs : ss + 88682 ≤ 125000) : G X 294 [.ref h, .int (iZ 2), U9, U9, U9] [.ref h] M sz cs ss := by
  refine g_const hX dL_most_294 ?_
  refine g_goto hX dL_most_296 ?_
  refine g_const hX dL_most_301 ?_
  refine g_iload hX dL_most_302 rfl ?_
  refine g_const hX dL_most_303 ?_
  refine y_irem (c := 2) hX dL_most_305 (ya_in rfl) (ya_in rfl) (by decide) (by decide) (by decide) ?_
  refine y_iadd (c := 3) hX dL_most_306 (by decide) ?_
  refine g_iload hX dL_most_307 rfl ?_
  refine g_const hX dL_most_308 ?_
  refine y_irem (c := 2) hX dL_most_309 (ya_in rfl) (ya_in rfl) (by decide) (by decide) (by decide) ?_
  refine yt_if_ne hX dL_most_310 (ya_in rfl) (by decide) ?_
  refine g_const hX dL_most_317 ?_
  refine g_iload hX dL_most_318 rfl ?_
  refine g_const hX dL_most_319 ?_
  refine y_irem (c := 0) hX dL_most_320 (ya_in rfl) (ya_in rfl) (by decide) (by decide) (by decide) ?_
  refine yf_if_ne hX dL_most_321 (ya_in rfl) (by decide) ?_
  refine g_const hX dL_most_324 ?_
  refine g_goto hX dL_most_325 ?_
  refine g_iload hX dL_most_332 rfl ?_
  refine g_const hX dL_most_333 ?_
  refine y_irem (c := 0) hX dL_most_334 (ya_in rfl) (ya_in rfl) (by decide) (by decide) (by decide) ?_
  refine yf_if_ne hX dL_most_335 (ya_in rfl) (by decide) ?_
  refine g_const hX dL_most_338 ?_
  refine g_goto hX dL_most_339 ?_
  refine l_act hX hst dL_most_343 hH hV (ya_in rfl) (ya_in rfl) (ya_in rfl) (ya_in rfl) (ya_in rfl) yme123 (show cs + 10 ≤ 5000 by omega) (show ss + 250 ≤ 125000 by omega) (by first | exact Nat.le_of_ble_eq_true rfl | simp [cat_rf, Value.category]) (fun A ow τ M sz hH hV => ?_)
  refine g_iload hX dL_most_346 rfl ?_
  refine g_const hX dL_most_347 ?_
  refine yf_icmp_ge hX dL_most_349 (ya_in rfl) (ya_in rfl) (by decide) ?_
  refine g_iload hX dL_most_352 rfl ?_
  refine g_goto hX dL_most_353 ?_
  refine yt_icmp_eq hX dL_most_358 (ya_in rfl) (ya_in rfl) (by decide) ?_
  refine y_iinc (c := 3) hX dL_most_363 rfl (by decide) ?_
  dsimp only [List.set]
  refine g_goto hX dL_most_366 ?_
  refine g_iload hX dL_most_281 rfl ?_
  refine g_const hX dL_most_282 ?_
  refine yf_icmp_ge hX dL_most_284 (ya_in rfl) (ya_in rfl) (by decide) ?_
  refine g_aload hX dL_most_287 rfl rfl ?_
  refine g_iload hX dL_most_288 rfl ?_
  refine g_const hX dL_most_289 ?_
  refine y_irem (c := 1) hX dL_most_290 (ya_in rfl) (ya_in rfl) (by decide) (by decide) (by decide) ?_
  refine yt_if_ne hX dL_most_291 (ya_in rfl) (by decide) ?_
  refine g_const hX dL_most_299 ?_
  refine g_const hX dL_most_301 ?_
  refine g_iload hX dL_most_302 rfl ?_
  refine g_const hX dL_most_303 ?_
  refine y_irem (c := 3) hX dL_most_305 (ya_in rfl) (ya_in rfl) (by decide) (by decide) (by decide) ?_
  refine y_iadd (c := 4) hX dL_most_306 (by decide) ?_
  refine g_iload hX dL_most_307 rfl ?_
  refine g_const hX dL_most_308 ?_
  refine y_irem (c := 0) hX dL_most_309 (ya_in rfl) (ya_in rfl) (by decide) (by decide) (by decide) ?_
  refine yf_if_ne hX dL_most_310 (ya_in rfl) (by decide) ?_
  refine g_const hX dL_most_313 ?_
  refine g_goto hX dL_most_314 ?_
  refine g_iload hX dL_most_318 rfl ?_
  refine g_const hX dL_most_319 ?_
  refine y_irem (c := 1) hX dL_most_320 (ya_in rfl) (ya_in rfl) (by decide) (by decide) (by decide) ?_
  refine yt_if_ne hX dL_most_321 (ya_in rfl) (by decide) ?_
  refine g_const hX dL_most_328 ?_
  refine g_iload hX dL_most_330 rfl ?_
  refine y_iadd (c := (-57)) hX dL_most_331 (by decide) ?_
  exact mo_g19 hX hst hR hK hH hV (by omega) (by omega)

set_option maxRecDepth 20000 in
theorem mo_g17 {X : hX} (hX : Cok X mL_most) (hst : X.1.2.1.stackTraces = false) {M0 : hM} {sz0 : Nat} {K : hK} (hR : Ret X mL_most M0 sz0 K) (hK : ∀ (M' : hM) (s9 : Nat), K (.inl (some (.int (iZ 1)))) M' s9) {h : Nat} {A : Nat → Nat → Nat} {ow : Nat → Nat × Nat} {τ : Nat → Nat → Int} {M : hM} {sz cs ss : Nat} (hH : HX X.2.2.2.2.2.2.2.2.2 h A ow (ya_TB ymS52) τ M) (hV : SV (ya_TB ymS52)) (hc : cs + 3717 ≤ 5000) (hs : ss + 89182 ≤ 125000) : G X 338 [.ref h, .int (iZ 0), U9, U9, U9] [.int (iZ 1), .int (iZ 1), .int (iZ 1), .int (iZ 14), .ref h] M sz cs ss := by
  refine g_const hX dL_most_338 ?_
  refine g_goto hX dL_most_339 ?_
  refine l_act hX hst dL_most_343 hH hV (ya_in rfl) (ya_in rfl) (ya_in rfl) (ya_in rfl) (ya_in rfl) yme119 (show cs + 10 ≤ 5000 by omega) (show ss + 250 ≤ 125000 by omega) (by first | exact Nat.le_of_ble_eq_true rfl | simp [cat_rf, Value.category]) (fun A ow τ M sz hH hV => ?_)
  refine g_iload hX dL_most_346 rfl ?_
  refine g_const hX dL_most_347 ?_
  refine yf_icmp_ge hX dL_most_349 (ya_in rfl) (ya_in rfl) (by decide) ?_
  refine g_iload hX dL_most_352 rfl ?_
  refine g_goto hX dL_most_353 ?_
  refine yt_icmp_eq hX dL_most_358 (ya_in rfl) (ya_in rfl) (by decide) ?_
  refine y_iinc (c := 1) hX dL_most_363 rfl (by decide) ?_
  dsimp only [List.set]
  refine g_goto hX dL_most_366 ?_
  refine g_iload hX dL_most_281 rfl ?_
  refine g_const hX dL_most_282 ?_
  refine yf_icmp_ge hX dL_most_284 (ya_in rfl) (ya_in rfl) (by decide) ?_
  refine g_aload hX dL_most_287 rfl rfl ?_
  refine g_iload hX dL_most_288 rfl ?_
  refine g_const hX dL_most_289 ?_
  refine y_irem (c := 1) hX dL_most_290 (ya_in rfl) (ya_in rfl) (by decide) (by decide) (by decide) ?_
  refine yt_if_ne hX dL_most_291 (ya_in rfl) (by decide) ?_
  refine g_const hX dL_most_299 ?_
  refine g_const hX dL_most_301 ?_
  refine g_iload hX dL_most_302 rfl ?_
  refine g_const hX dL_most_303 ?_
  refine y_irem (c := 1) hX dL_most_305 (ya_in rfl) (ya_in rfl) (by decide) (by decide) (by decide) ?_
  refine y_iadd (c := 2) hX dL_most_306 (by decide) ?_
  refine g_iload hX dL_most_307 rfl ?_
  refine g_const hX dL_most_308 ?_
  refine y_irem (c := 1) hX dL_most_309 (ya_in rfl) (ya_in rfl) (by decide) (by decide) (by decide) ?_
  refine yt_if_ne hX dL_most_310 (ya_in rfl) (by decide) ?_
  refine g_const hX dL_most_317 ?_
  refine g_iload hX dL_most_318 rfl ?_
  refine g_const hX dL_most_319 ?_
  refine y_irem (c := 1) hX dL_most_320 (ya_in rfl) (ya_in rfl) (by decide) (by decide) (by decide) ?_
  refine yt_if_ne hX dL_most_321 (ya_in rfl) (by decide) ?_
  refine g_const hX dL_most_328 ?_
  refine g_iload hX dL_most_330 rfl ?_
  refine y_iadd (c := (-59)) hX dL_most_331 (by decide) ?_
  refine g_iload hX dL_most_332 rfl ?_
  refine g_const hX dL_most_333 ?_
  refine y_irem (c := 1) hX dL_most_334 (ya_in rfl) (ya_in rfl) (by decide) (by decide) (by decide) ?_
  refine yt_if_ne hX dL_most_335 (ya_in rfl) (by decide) ?_
  refine g_const hX dL_most_342 ?_
  refine l_act hX hst dL_most_343 hH hV (ya_in rfl) (ya_in rfl) (ya_in rfl) (ya_in rfl) (ya_in rfl) yme121 (show cs + 10 + 10 ≤ 5000 by omega) (show ss + 250 + 250 ≤ 125000 by omega) (by first | exact Nat.le_of_ble_eq_true rfl | simp [cat_rf, Value.category]) (fun A ow τ M sz hH hV => ?_)
  refine g_iload hX dL_most_346 rfl ?_
  refine g_const hX dL_most_347 ?_
  refine yf_icmp_ge hX dL_most_349 (ya_in rfl) (ya_in rfl) (by decide) ?_
  refine g_iload hX dL_most_352 rfl ?_
  refine g_goto hX dL_most_353 ?_
  refine yt_icmp_eq hX dL_most_358 (ya_in rfl) (ya_in rfl) (by decide) ?_
  refine y_iinc (c := 2) hX dL_most_363 rfl (by decide) ?_
  dsimp only [List.set]
  refine g_goto hX dL_most_366 ?_
  refine g_iload hX dL_most_281 rfl ?_
  refine g_const hX dL_most_282 ?_
  refine yf_icmp_ge hX dL_most_284 (ya_in rfl) (ya_in rfl) (by decide) ?_
  refine g_aload hX dL_most_287 rfl rfl ?_
  refine g_iload hX dL_most_288 rfl ?_
  refine g_const hX dL_most_289 ?_
  refine y_irem (c := 0) hX dL_most_290 (ya_in rfl) (ya_in rfl) (by decide) (by decide) (by decide) ?_
  refine yf_if_ne hX dL_most_291 (ya_in rfl) (by decide) ?_
  exact mo_g18 hX hst hR hK hH hV (by omega) (by omega)

set_option maxRecDepth 20000 in
theorem mo_g16 {X : hX} (hX : Cok X mL_most) (hst : X.1.2.1.stackTraces = false) {M0 : hM} {sz0 : Nat} {K : hK} (hR : Ret X mL_most M0 sz0 K) (hK : ∀ (M' : hM) (s9 : Nat), K (.inl (some (.int (iZ 1)))) M' s9) {h : Nat} {A : Nat → Nat → Nat} {ow : Nat → Nat × Nat} {τ : Nat → Nat → Int} {M : hM} {sz cs ss : Nat} (hH : HX X.2.2.2.2.2.2.2.2.2 h A ow (ya_TB ymS52) τ M) (hV : SV (ya_TB ymS52)) (hc : cs + 3724 ≤ 5000) (hs : ss + 89224 ≤ 125000) : G X 223 [.ref h, .int (iZ 9), U9, U9, U9] [.int (iZ 4), .int (iZ 3), .ref h] M sz cs ss := by
  refine l_clashes hX hst dL_most_223 hH hV (ya_in rfl) (ya_in rfl) yme112 (show cs + 3 ≤ 5000 by omega) (show ss + 18 ≤ 125000 by omega) (by first | exact Nat.le_of_ble_eq_true rfl | simp [cat_rf, Value.category]) (fun A ow τ M sz hH hV => ?_)
  refine g_const hX dL_most_226 ?_
  refine yf_icmp_ne hX dL_most_227 (ya_in rfl) (ya_in rfl) (by decide) ?_
  refine g_aload hX dL_most_230 rfl rfl ?_
  refine g_const hX dL_most_231 ?_
  refine l_best hX hst dL_most_232 hH hV (ya_in rfl) yme113 (show cs + 3 + 1 ≤ 5000 by omega) (show ss + 18 + 6 ≤ 125000 by omega) (by first | exact Nat.le_of_ble_eq_true rfl | simp [cat_rf, Value.category]) (fun A ow τ M sz hH hV => ?_)
  refine g_const hX dL_most_235 ?_
  refine yf_icmp_ne hX dL_most_236 (ya_in rfl) (ya_in rfl) (by decide) ?_
  refine g_aload hX dL_most_239 rfl rfl ?_
  refine g_const hX dL_most_240 ?_
  refine l_best hX hst dL_most_242 hH hV (ya_in rfl) yme114 (show cs + 3 + 1 + 1 ≤ 5000 by omega) (show ss + 18 + 6 + 6 ≤ 125000 by omega) (by first | exact Nat.le_of_ble_eq_true rfl | simp [cat_rf, Value.category]) (fun A ow τ M sz hH hV => ?_)
  refine g_const hX dL_most_245 ?_
  refine yf_icmp_ne hX dL_most_247 (ya_in rfl) (ya_in rfl) (by decide) ?_
  refine g_aload hX dL_most_250 rfl rfl ?_
  refine l_metres hX hst dL_most_251 hH hV yme115 (show cs + 3 + 1 + 1 + 0 ≤ 5000 by omega) (show ss + 18 + 6 + 6 + 0 ≤ 125000 by omega) (by first | exact Nat.le_of_ble_eq_true rfl | simp [cat_rf, Value.category]) (fun A ow τ M sz hH hV => ?_)
  refine g_const hX dL_most_254 ?_
  refine yf_icmp_ne hX dL_most_255 (ya_in rfl) (ya_in rfl) (by decide) ?_
  refine g_aload hX dL_most_258 rfl rfl ?_
  refine g_const hX dL_most_259 ?_
  refine l_alike hX hst dL_most_260 hH hV (ya_in rfl) yme116 (show cs + 3 + 1 + 1 + 0 + 1 ≤ 5000 by omega) (show ss + 18 + 6 + 6 + 0 + 6 ≤ 125000 by omega) (by first | exact Nat.le_of_ble_eq_true rfl | simp [cat_rf, Value.category]) (fun A ow τ M sz hH hV => ?_)
  refine g_const hX dL_most_263 ?_
  refine yf_icmp_ne hX dL_most_265 (ya_in rfl) (ya_in rfl) (by decide) ?_
  refine g_aload hX dL_most_268 rfl rfl ?_
  refine g_const hX dL_most_269 ?_
  refine l_alike hX hst dL_most_270 hH hV (ya_in rfl) yme117 (show cs + 3 + 1 + 1 + 0 + 1 + 1 ≤ 5000 by omega) (show ss + 18 + 6 + 6 + 0 + 6 + 6 ≤ 125000 by omega) (by first | exact Nat.le_of_ble_eq_true rfl | simp [cat_rf, Value.category]) (fun A ow τ M sz hH hV => ?_)
  refine g_const hX dL_most_273 ?_
  refine yt_icmp_eq hX dL_most_274 (ya_in rfl) (ya_in rfl) (by decide) ?_
  refine g_const hX dL_most_279 ?_
  refine g_istore hX dL_most_280 ?_
  dsimp only [List.set]
  refine g_iload hX dL_most_281 rfl ?_
  refine g_const hX dL_most_282 ?_
  refine yf_icmp_ge hX dL_most_284 (ya_in rfl) (ya_in rfl) (by decide) ?_
  refine g_aload hX dL_most_287 rfl rfl ?_
  refine g_iload hX dL_most_288 rfl ?_
  refine g_const hX dL_most_289 ?_
  refine y_irem (c := 0) hX dL_most_290 (ya_in rfl) (ya_in rfl) (by decide) (by decide) (by decide) ?_
  refine yf_if_ne hX dL_most_291 (ya_in rfl) (by decide) ?_
  refine g_const hX dL_most_294 ?_
  refine g_goto hX dL_most_296 ?_
  refine g_const hX dL_most_301 ?_
  refine g_iload hX dL_most_302 rfl ?_
  refine g_const hX dL_most_303 ?_
  refine y_irem (c := 0) hX dL_most_305 (ya_in rfl) (ya_in rfl) (by decide) (by decide) (by decide) ?_
  refine y_iadd (c := 1) hX dL_most_306 (by decide) ?_
  refine g_iload hX dL_most_307 rfl ?_
  refine g_const hX dL_most_308 ?_
  refine y_irem (c := 0) hX dL_most_309 (ya_in rfl) (ya_in rfl) (by decide) (by decide) (by decide) ?_
  refine yf_if_ne hX dL_most_310 (ya_in rfl) (by decide) ?_
  refine g_const hX dL_most_313 ?_
  refine g_goto hX dL_most_314 ?_
  refine g_iload hX dL_most_318 rfl ?_
  refine g_const hX dL_most_319 ?_
  refine y_irem (c := 0) hX dL_most_320 (ya_in rfl) (ya_in rfl) (by decide) (by decide) (by decide) ?_
  refine yf_if_ne hX dL_most_321 (ya_in rfl) (by decide) ?_
  refine g_const hX dL_most_324 ?_
  refine g_goto hX dL_most_325 ?_
  refine g_iload hX dL_most_332 rfl ?_
  refine g_const hX dL_most_333 ?_
  refine y_irem (c := 0) hX dL_most_334 (ya_in rfl) (ya_in rfl) (by decide) (by decide) (by decide) ?_
  refine yf_if_ne hX dL_most_335 (ya_in rfl) (by decide) ?_
  exact mo_g17 hX hst hR hK hH hV (by omega) (by omega)

set_option maxRecDepth 20000 in
theorem mo_g15 {X : hX} (hX : Cok X mL_most) (hst : X.1.2.1.stackTraces = false) {M0 : hM} {sz0 : Nat} {K : hK} (hR : Ret X mL_most M0 sz0 K) (hK : ∀ (M' : hM) (s9 : Nat), K (.inl (some (.int (iZ 1)))) M' s9) {h : Nat} {A : Nat → Nat → Nat} {ow : Nat → Nat × Nat} {τ : Nat → Nat → Int} {M : hM} {sz cs ss : Nat} (hH : HX X.2.2.2.2.2.2.2.2.2 h A ow (ya_TB ymS52) τ M) (hV : SV (ya_TB ymS52)) (hc : cs + 3759 ≤ 5000) (hs : ss + 90004 ≤ 125000) : G X 86 [.ref h, .int (iZ 8), U9, U9, U9] [.ref h] M sz cs ss := by
  refine g_const hX dL_most_86 ?_
  refine g_const hX dL_most_87 ?_
  refine g_const hX dL_most_89 ?_
  refine g_const hX dL_most_91 ?_
  refine g_const hX dL_most_94 ?_
  refine l_act hX hst dL_most_95 hH hV (ya_in rfl) (ya_in rfl) (ya_in rfl) (ya_in rfl) (ya_in rfl) yme105 (show cs + 10 ≤ 5000 by omega) (show ss + 250 ≤ 125000 by omega) (by first | exact Nat.le_of_ble_eq_true rfl | simp [cat_rf, Value.category]) (fun A ow τ M sz hH hV => ?_)
  refine g_iload hX dL_most_98 rfl ?_
  refine g_const hX dL_most_99 ?_
  refine yt_icmp_ge hX dL_most_101 (ya_in rfl) (ya_in rfl) (by decide) ?_
  refine g_const hX dL_most_110 ?_
  refine yf_icmp_ne hX dL_most_112 (ya_in rfl) (ya_in rfl) (by decide) ?_
  refine g_aload hX dL_most_115 rfl rfl ?_
  refine g_const hX dL_most_116 ?_
  refine g_const hX dL_most_117 ?_
  refine g_const hX dL_most_119 ?_
  refine g_const hX dL_most_121 ?_
  refine g_const hX dL_most_122 ?_
  refine l_act hX hst dL_most_123 hH hV (ya_in rfl) (ya_in rfl) (ya_in rfl) (ya_in rfl) (ya_in rfl) yme107 (show cs + 10 + 10 ≤ 5000 by omega) (show ss + 250 + 250 ≤ 125000 by omega) (by first | exact Nat.le_of_ble_eq_true rfl | simp [cat_rf, Value.category]) (fun A ow τ M sz hH hV => ?_)
  refine g_iload hX dL_most_126 rfl ?_
  refine g_const hX dL_most_127 ?_
  refine yt_icmp_ge hX dL_most_129 (ya_in rfl) (ya_in rfl) (by decide) ?_
  refine g_const hX dL_most_138 ?_
  refine yf_icmp_ne hX dL_most_140 (ya_in rfl) (ya_in rfl) (by decide) ?_
  refine g_aload hX dL_most_143 rfl rfl ?_
  refine g_const hX dL_most_144 ?_
  refine g_const hX dL_most_145 ?_
  refine g_const hX dL_most_146 ?_
  refine g_iload hX dL_most_147 rfl ?_
  refine g_const hX dL_most_148 ?_
  refine y_irem (c := 0) hX dL_most_149 (ya_in rfl) (ya_in rfl) (by decide) (by decide) (by decide) ?_
  refine g_const hX dL_most_150 ?_
  refine l_act hX hst dL_most_151 hH hV (ya_in rfl) (ya_in rfl) (ya_in rfl) (ya_in rfl) (ya_in rfl) yme109 (show cs + 10 + 10 + 10 ≤ 5000 by omega) (show ss + 250 + 250 + 250 ≤ 125000 by omega) (by first | exact Nat.le_of_ble_eq_true rfl | simp [cat_rf, Value.category]) (fun A ow τ M sz hH hV => ?_)
  refine g_iload hX dL_most_154 rfl ?_
  refine g_const hX dL_most_155 ?_
  refine yt_icmp_ge hX dL_most_157 (ya_in rfl) (ya_in rfl) (by decide) ?_
  refine g_const hX dL_most_166 ?_
  refine yf_icmp_ne hX dL_most_168 (ya_in rfl) (ya_in rfl) (by decide) ?_
  refine g_iload hX dL_most_171 rfl ?_
  refine g_const hX dL_most_172 ?_
  refine yt_icmp_ge hX dL_most_173 (ya_in rfl) (ya_in rfl) (by decide) ?_
  refine y_iinc (c := 9) hX dL_most_191 rfl (by decide) ?_
  dsimp only [List.set]
  refine g_goto hX dL_most_194 ?_
  refine g_iload hX dL_most_79 rfl ?_
  refine g_const hX dL_most_80 ?_
  refine yt_icmp_ge hX dL_most_82 (ya_in rfl) (ya_in rfl) (by decide) ?_
  refine g_aload hX dL_most_197 rfl rfl ?_
  refine g_const hX dL_most_198 ?_
  refine g_const hX dL_most_200 ?_
  refine l_clashes hX hst dL_most_202 hH hV (ya_in rfl) (ya_in rfl) yme110 (show cs + 10 + 10 + 10 + 3 ≤ 5000 by omega) (show ss + 250 + 250 + 250 + 18 ≤ 125000 by omega) (by first | exact Nat.le_of_ble_eq_true rfl | simp [cat_rf, Value.category]) (fun A ow τ M sz hH hV => ?_)
  refine g_const hX dL_most_205 ?_
  refine yf_icmp_ne hX dL_most_207 (ya_in rfl) (ya_in rfl) (by decide) ?_
  refine g_aload hX dL_most_210 rfl rfl ?_
  refine g_const hX dL_most_211 ?_
  refine g_const hX dL_most_212 ?_
  refine l_fits hX hst dL_most_213 hH hV (ya_in rfl) (ya_in rfl) yme111 (show cs + 10 + 10 + 10 + 3 + 2 ≤ 5000 by omega) (show ss + 250 + 250 + 250 + 18 + 12 ≤ 125000 by omega) (by first | exact Nat.le_of_ble_eq_true rfl | simp [cat_rf, Value.category]) (fun A ow τ M sz hH hV => ?_)
  refine g_const hX dL_most_216 ?_
  refine yf_icmp_ne hX dL_most_217 (ya_in rfl) (ya_in rfl) (by decide) ?_
  refine g_aload hX dL_most_220 rfl rfl ?_
  refine g_const hX dL_most_221 ?_
  refine g_const hX dL_most_222 ?_
  exact mo_g16 hX hst hR hK hH hV (by omega) (by omega)

set_option maxRecDepth 20000 in
theorem mo_g14 {X : hX} (hX : Cok X mL_most) (hst : X.1.2.1.stackTraces = false) {M0 : hM} {sz0 : Nat} {K : hK} (hR : Ret X mL_most M0 sz0 K) (hK : ∀ (M' : hM) (s9 : Nat), K (.inl (some (.int (iZ 1)))) M' s9) {h : Nat} {A : Nat → Nat → Nat} {ow : Nat → Nat × Nat} {τ : Nat → Nat → Int} {M : hM} {sz cs ss : Nat} (hH : HX X.2.2.2.2.2.2.2.2.2 h A ow (ya_TB ymS49) τ M) (hV : SV (ya_TB ymS49)) (hc : cs + 3789 ≤ 5000) (hs : ss + 90754 ≤ 125000) : G X 194 [.ref h, .int (iZ 7), U9, U9, U9] [] M sz cs ss := by
  refine g_goto hX dL_most_194 ?_
  refine g_iload hX dL_most_79 rfl ?_
  refine g_const hX dL_most_80 ?_
  refine yf_icmp_ge hX dL_most_82 (ya_in rfl) (ya_in rfl) (by decide) ?_
  refine g_aload hX dL_most_85 rfl rfl ?_
  refine g_const hX dL_most_86 ?_
  refine g_const hX dL_most_87 ?_
  refine g_const hX dL_most_89 ?_
  refine g_const hX dL_most_91 ?_
  refine g_const hX dL_most_94 ?_
  refine l_act hX hst dL_most_95 hH hV (ya_in rfl) (ya_in rfl) (ya_in rfl) (ya_in rfl) (ya_in rfl) yme99 (show cs + 10 ≤ 5000 by omega) (show ss + 250 ≤ 125000 by omega) (by first | exact Nat.le_of_ble_eq_true rfl | simp [cat_rf, Value.category]) (fun A ow τ M sz hH hV => ?_)
  refine g_iload hX dL_most_98 rfl ?_
  refine g_const hX dL_most_99 ?_
  refine yf_icmp_ge hX dL_most_101 (ya_in rfl) (ya_in rfl) (by decide) ?_
  refine g_iload hX dL_most_104 rfl ?_
  refine g_const hX dL_most_105 ?_
  refine y_iadd (c := 8) hX dL_most_106 (by decide) ?_
  refine g_goto hX dL_most_107 ?_
  refine yf_icmp_ne hX dL_most_112 (ya_in rfl) (ya_in rfl) (by decide) ?_
  refine g_aload hX dL_most_115 rfl rfl ?_
  refine g_const hX dL_most_116 ?_
  refine g_const hX dL_most_117 ?_
  refine g_const hX dL_most_119 ?_
  refine g_const hX dL_most_121 ?_
  refine g_const hX dL_most_122 ?_
  refine l_act hX hst dL_most_123 hH hV (ya_in rfl) (ya_in rfl) (ya_in rfl) (ya_in rfl) (ya_in rfl) yme101 (show cs + 10 + 10 ≤ 5000 by omega) (show ss + 250 + 250 ≤ 125000 by omega) (by first | exact Nat.le_of_ble_eq_true rfl | simp [cat_rf, Value.category]) (fun A ow τ M sz hH hV => ?_)
  refine g_iload hX dL_most_126 rfl ?_
  refine g_const hX dL_most_127 ?_
  refine yf_icmp_ge hX dL_most_129 (ya_in rfl) (ya_in rfl) (by decide) ?_
  refine g_iload hX dL_most_132 rfl ?_
  refine g_const hX dL_most_133 ?_
  refine y_iadd (c := 8) hX dL_most_134 (by decide) ?_
  refine g_goto hX dL_most_135 ?_
  refine yf_icmp_ne hX dL_most_140 (ya_in rfl) (ya_in rfl) (by decide) ?_
  refine g_aload hX dL_most_143 rfl rfl ?_
  refine g_const hX dL_most_144 ?_
  refine g_const hX dL_most_145 ?_
  refine g_const hX dL_most_146 ?_
  refine g_iload hX dL_most_147 rfl ?_
  refine g_const hX dL_most_148 ?_
  refine y_irem (c := 1) hX dL_most_149 (ya_in rfl) (ya_in rfl) (by decide) (by decide) (by decide) ?_
  refine g_const hX dL_most_150 ?_
  refine l_act hX hst dL_most_151 hH hV (ya_in rfl) (ya_in rfl) (ya_in rfl) (ya_in rfl) (ya_in rfl) yme103 (show cs + 10 + 10 + 10 ≤ 5000 by omega) (show ss + 250 + 250 + 250 ≤ 125000 by omega) (by first | exact Nat.le_of_ble_eq_true rfl | simp [cat_rf, Value.category]) (fun A ow τ M sz hH hV => ?_)
  refine g_iload hX dL_most_154 rfl ?_
  refine g_const hX dL_most_155 ?_
  refine yf_icmp_ge hX dL_most_157 (ya_in rfl) (ya_in rfl) (by decide) ?_
  refine g_iload hX dL_most_160 rfl ?_
  refine g_const hX dL_most_161 ?_
  refine y_iadd (c := 8) hX dL_most_162 (by decide) ?_
  refine g_goto hX dL_most_163 ?_
  refine yf_icmp_ne hX dL_most_168 (ya_in rfl) (ya_in rfl) (by decide) ?_
  refine g_iload hX dL_most_171 rfl ?_
  refine g_const hX dL_most_172 ?_
  refine yt_icmp_ge hX dL_most_173 (ya_in rfl) (ya_in rfl) (by decide) ?_
  refine y_iinc (c := 8) hX dL_most_191 rfl (by decide) ?_
  dsimp only [List.set]
  refine g_goto hX dL_most_194 ?_
  refine g_iload hX dL_most_79 rfl ?_
  refine g_const hX dL_most_80 ?_
  refine yf_icmp_ge hX dL_most_82 (ya_in rfl) (ya_in rfl) (by decide) ?_
  refine g_aload hX dL_most_85 rfl rfl ?_
  exact mo_g15 hX hst hR hK hH hV (by omega) (by omega)

set_option maxRecDepth 20000 in
theorem mo_g13 {X : hX} (hX : Cok X mL_most) (hst : X.1.2.1.stackTraces = false) {M0 : hM} {sz0 : Nat} {K : hK} (hR : Ret X mL_most M0 sz0 K) (hK : ∀ (M' : hM) (s9 : Nat), K (.inl (some (.int (iZ 1)))) M' s9) {h : Nat} {A : Nat → Nat → Nat} {ow : Nat → Nat × Nat} {τ : Nat → Nat → Int} {M : hM} {sz cs ss : Nat} (hH : HX X.2.2.2.2.2.2.2.2.2 h A ow (ya_TB ymS46) τ M) (hV : SV (ya_TB ymS46)) (hc : cs + 3819 ≤ 5000) (hs : ss + 91504 ≤ 125000) : G X 171 [.ref h, .int (iZ 5), U9, U9, U9] [] M sz cs ss := by
  refine g_iload hX dL_most_171 rfl ?_
  refine g_const hX dL_most_172 ?_
  refine yt_icmp_ge hX dL_most_173 (ya_in rfl) (ya_in rfl) (by decide) ?_
  refine y_iinc (c := 6) hX dL_most_191 rfl (by decide) ?_
  dsimp only [List.set]
  refine g_goto hX dL_most_194 ?_
  refine g_iload hX dL_most_79 rfl ?_
  refine g_const hX dL_most_80 ?_
  refine yf_icmp_ge hX dL_most_82 (ya_in rfl) (ya_in rfl) (by decide) ?_
  refine g_aload hX dL_most_85 rfl rfl ?_
  refine g_const hX dL_most_86 ?_
  refine g_const hX dL_most_87 ?_
  refine g_const hX dL_most_89 ?_
  refine g_const hX dL_most_91 ?_
  refine g_const hX dL_most_94 ?_
  refine l_act hX hst dL_most_95 hH hV (ya_in rfl) (ya_in rfl) (ya_in rfl) (ya_in rfl) (ya_in rfl) yme93 (show cs + 10 ≤ 5000 by omega) (show ss + 250 ≤ 125000 by omega) (by first | exact Nat.le_of_ble_eq_true rfl | simp [cat_rf, Value.category]) (fun A ow τ M sz hH hV => ?_)
  refine g_iload hX dL_most_98 rfl ?_
  refine g_const hX dL_most_99 ?_
  refine yf_icmp_ge hX dL_most_101 (ya_in rfl) (ya_in rfl) (by decide) ?_
  refine g_iload hX dL_most_104 rfl ?_
  refine g_const hX dL_most_105 ?_
  refine y_iadd (c := 7) hX dL_most_106 (by decide) ?_
  refine g_goto hX dL_most_107 ?_
  refine yf_icmp_ne hX dL_most_112 (ya_in rfl) (ya_in rfl) (by decide) ?_
  refine g_aload hX dL_most_115 rfl rfl ?_
  refine g_const hX dL_most_116 ?_
  refine g_const hX dL_most_117 ?_
  refine g_const hX dL_most_119 ?_
  refine g_const hX dL_most_121 ?_
  refine g_const hX dL_most_122 ?_
  refine l_act hX hst dL_most_123 hH hV (ya_in rfl) (ya_in rfl) (ya_in rfl) (ya_in rfl) (ya_in rfl) yme95 (show cs + 10 + 10 ≤ 5000 by omega) (show ss + 250 + 250 ≤ 125000 by omega) (by first | exact Nat.le_of_ble_eq_true rfl | simp [cat_rf, Value.category]) (fun A ow τ M sz hH hV => ?_)
  refine g_iload hX dL_most_126 rfl ?_
  refine g_const hX dL_most_127 ?_
  refine yf_icmp_ge hX dL_most_129 (ya_in rfl) (ya_in rfl) (by decide) ?_
  refine g_iload hX dL_most_132 rfl ?_
  refine g_const hX dL_most_133 ?_
  refine y_iadd (c := 7) hX dL_most_134 (by decide) ?_
  refine g_goto hX dL_most_135 ?_
  refine yf_icmp_ne hX dL_most_140 (ya_in rfl) (ya_in rfl) (by decide) ?_
  refine g_aload hX dL_most_143 rfl rfl ?_
  refine g_const hX dL_most_144 ?_
  refine g_const hX dL_most_145 ?_
  refine g_const hX dL_most_146 ?_
  refine g_iload hX dL_most_147 rfl ?_
  refine g_const hX dL_most_148 ?_
  refine y_irem (c := 0) hX dL_most_149 (ya_in rfl) (ya_in rfl) (by decide) (by decide) (by decide) ?_
  refine g_const hX dL_most_150 ?_
  refine l_act hX hst dL_most_151 hH hV (ya_in rfl) (ya_in rfl) (ya_in rfl) (ya_in rfl) (ya_in rfl) yme97 (show cs + 10 + 10 + 10 ≤ 5000 by omega) (show ss + 250 + 250 + 250 ≤ 125000 by omega) (by first | exact Nat.le_of_ble_eq_true rfl | simp [cat_rf, Value.category]) (fun A ow τ M sz hH hV => ?_)
  refine g_iload hX dL_most_154 rfl ?_
  refine g_const hX dL_most_155 ?_
  refine yf_icmp_ge hX dL_most_157 (ya_in rfl) (ya_in rfl) (by decide) ?_
  refine g_iload hX dL_most_160 rfl ?_
  refine g_const hX dL_most_161 ?_
  refine y_iadd (c := 7) hX dL_most_162 (by decide) ?_
  refine g_goto hX dL_most_163 ?_
  refine yf_icmp_ne hX dL_most_168 (ya_in rfl) (ya_in rfl) (by decide) ?_
  refine g_iload hX dL_most_171 rfl ?_
  refine g_const hX dL_most_172 ?_
  refine yt_icmp_ge hX dL_most_173 (ya_in rfl) (ya_in rfl) (by decide) ?_
  refine y_iinc (c := 7) hX dL_most_191 rfl (by decide) ?_
  dsimp only [List.set]
  exact mo_g14 hX hst hR hK hH hV (by omega) (by omega)

set_option maxRecDepth 20000 in
theorem mo_g12 {X : hX} (hX : Cok X mL_most) (hst : X.1.2.1.stackTraces = false) {M0 : hM} {sz0 : Nat} {K : hK} (hR : Ret X mL_most M0 sz0 K) (hK : ∀ (M' : hM) (s9 : Nat), K (.inl (some (.int (iZ 1)))) M' s9) {h : Nat} {A : Nat → Nat → Nat} {ow : Nat → Nat × Nat} {τ : Nat → Nat → Int} {M : hM} {sz cs ss : Nat} (hH : HX X.2.2.2.2.2.2.2.2.2 h A ow (ya_TB ymS43) τ M) (hV : SV (ya_TB ymS43)) (hc : cs + 3849 ≤ 5000) (hs : ss + 92254 ≤ 125000) : G X 160 [.ref h, .int (iZ 4), U9, U9, U9] [.int (iZ 5)] M sz cs ss := by
  refine g_iload hX dL_most_160 rfl ?_
  refine g_const hX dL_most_161 ?_
  refine y_iadd (c := 5) hX dL_most_162 (by decide) ?_
  refine g_goto hX dL_most_163 ?_
  refine yf_icmp_ne hX dL_most_168 (ya_in rfl) (ya_in rfl) (by decide) ?_
  refine g_iload hX dL_most_171 rfl ?_
  refine g_const hX dL_most_172 ?_
  refine yt_icmp_ge hX dL_most_173 (ya_in rfl) (ya_in rfl) (by decide) ?_
  refine y_iinc (c := 5) hX dL_most_191 rfl (by decide) ?_
  dsimp only [List.set]
  refine g_goto hX dL_most_194 ?_
  refine g_iload hX dL_most_79 rfl ?_
  refine g_const hX dL_most_80 ?_
  refine yf_icmp_ge hX dL_most_82 (ya_in rfl) (ya_in rfl) (by decide) ?_
  refine g_aload hX dL_most_85 rfl rfl ?_
  refine g_const hX dL_most_86 ?_
  refine g_const hX dL_most_87 ?_
  refine g_const hX dL_most_89 ?_
  refine g_const hX dL_most_91 ?_
  refine g_const hX dL_most_94 ?_
  refine l_act hX hst dL_most_95 hH hV (ya_in rfl) (ya_in rfl) (ya_in rfl) (ya_in rfl) (ya_in rfl) yme87 (show cs + 10 ≤ 5000 by omega) (show ss + 250 ≤ 125000 by omega) (by first | exact Nat.le_of_ble_eq_true rfl | simp [cat_rf, Value.category]) (fun A ow τ M sz hH hV => ?_)
  refine g_iload hX dL_most_98 rfl ?_
  refine g_const hX dL_most_99 ?_
  refine yf_icmp_ge hX dL_most_101 (ya_in rfl) (ya_in rfl) (by decide) ?_
  refine g_iload hX dL_most_104 rfl ?_
  refine g_const hX dL_most_105 ?_
  refine y_iadd (c := 6) hX dL_most_106 (by decide) ?_
  refine g_goto hX dL_most_107 ?_
  refine yf_icmp_ne hX dL_most_112 (ya_in rfl) (ya_in rfl) (by decide) ?_
  refine g_aload hX dL_most_115 rfl rfl ?_
  refine g_const hX dL_most_116 ?_
  refine g_const hX dL_most_117 ?_
  refine g_const hX dL_most_119 ?_
  refine g_const hX dL_most_121 ?_
  refine g_const hX dL_most_122 ?_
  refine l_act hX hst dL_most_123 hH hV (ya_in rfl) (ya_in rfl) (ya_in rfl) (ya_in rfl) (ya_in rfl) yme89 (show cs + 10 + 10 ≤ 5000 by omega) (show ss + 250 + 250 ≤ 125000 by omega) (by first | exact Nat.le_of_ble_eq_true rfl | simp [cat_rf, Value.category]) (fun A ow τ M sz hH hV => ?_)
  refine g_iload hX dL_most_126 rfl ?_
  refine g_const hX dL_most_127 ?_
  refine yf_icmp_ge hX dL_most_129 (ya_in rfl) (ya_in rfl) (by decide) ?_
  refine g_iload hX dL_most_132 rfl ?_
  refine g_const hX dL_most_133 ?_
  refine y_iadd (c := 6) hX dL_most_134 (by decide) ?_
  refine g_goto hX dL_most_135 ?_
  refine yf_icmp_ne hX dL_most_140 (ya_in rfl) (ya_in rfl) (by decide) ?_
  refine g_aload hX dL_most_143 rfl rfl ?_
  refine g_const hX dL_most_144 ?_
  refine g_const hX dL_most_145 ?_
  refine g_const hX dL_most_146 ?_
  refine g_iload hX dL_most_147 rfl ?_
  refine g_const hX dL_most_148 ?_
  refine y_irem (c := 1) hX dL_most_149 (ya_in rfl) (ya_in rfl) (by decide) (by decide) (by decide) ?_
  refine g_const hX dL_most_150 ?_
  refine l_act hX hst dL_most_151 hH hV (ya_in rfl) (ya_in rfl) (ya_in rfl) (ya_in rfl) (ya_in rfl) yme91 (show cs + 10 + 10 + 10 ≤ 5000 by omega) (show ss + 250 + 250 + 250 ≤ 125000 by omega) (by first | exact Nat.le_of_ble_eq_true rfl | simp [cat_rf, Value.category]) (fun A ow τ M sz hH hV => ?_)
  refine g_iload hX dL_most_154 rfl ?_
  refine g_const hX dL_most_155 ?_
  refine yf_icmp_ge hX dL_most_157 (ya_in rfl) (ya_in rfl) (by decide) ?_
  refine g_iload hX dL_most_160 rfl ?_
  refine g_const hX dL_most_161 ?_
  refine y_iadd (c := 6) hX dL_most_162 (by decide) ?_
  refine g_goto hX dL_most_163 ?_
  refine yf_icmp_ne hX dL_most_168 (ya_in rfl) (ya_in rfl) (by decide) ?_
  exact mo_g13 hX hst hR hK hH hV (by omega) (by omega)

set_option maxRecDepth 20000 in
theorem mo_g11 {X : hX} (hX : Cok X mL_most) (hst : X.1.2.1.stackTraces = false) {M0 : hM} {sz0 : Nat} {K : hK} (hR : Ret X mL_most M0 sz0 K) (hK : ∀ (M' : hM) (s9 : Nat), K (.inl (some (.int (iZ 1)))) M' s9) {h : Nat} {A : Nat → Nat → Nat} {ow : Nat → Nat × Nat} {τ : Nat → Nat → Int} {M : hM} {sz cs ss : Nat} (hH : HX X.2.2.2.2.2.2.2.2.2 h A ow (ya_TB ymS39) τ M) (hV : SV (ya_TB ymS39)) (hc : cs + 3883 ≤ 5000) (hs : ss + 93028 ≤ 125000) : G X 168 [.ref h, .int (iZ 3), U9, U9, U9] [.int (iZ 4), .int (iZ 4)] M sz cs ss := by
  refine yf_icmp_ne hX dL_most_168 (ya_in rfl) (ya_in rfl) (by decide) ?_
  refine g_iload hX dL_most_171 rfl ?_
  refine g_const hX dL_most_172 ?_
  refine yf_icmp_ge hX dL_most_173 (ya_in rfl) (ya_in rfl) (by decide) ?_
  refine g_aload hX dL_most_176 rfl rfl ?_
  refine g_const hX dL_most_177 ?_
  refine g_const hX dL_most_178 ?_
  refine g_const hX dL_most_179 ?_
  refine l_phrase hX hst dL_most_180 hH hV (ya_in rfl) (ya_in rfl) (ya_in rfl) yme79 (show cs + 4 ≤ 5000 by omega) (show ss + 24 ≤ 125000 by omega) (by first | exact Nat.le_of_ble_eq_true rfl | simp [cat_rf, Value.category]) (fun A ow τ M sz hH hV => ?_)
  refine g_iload hX dL_most_183 rfl ?_
  refine g_const hX dL_most_184 ?_
  refine y_iadd (c := 4) hX dL_most_185 (by decide) ?_
  refine yt_icmp_eq hX dL_most_186 (ya_in rfl) (ya_in rfl) (by decide) ?_
  refine y_iinc (c := 4) hX dL_most_191 rfl (by decide) ?_
  dsimp only [List.set]
  refine g_goto hX dL_most_194 ?_
  refine g_iload hX dL_most_79 rfl ?_
  refine g_const hX dL_most_80 ?_
  refine yf_icmp_ge hX dL_most_82 (ya_in rfl) (ya_in rfl) (by decide) ?_
  refine g_aload hX dL_most_85 rfl rfl ?_
  refine g_const hX dL_most_86 ?_
  refine g_const hX dL_most_87 ?_
  refine g_const hX dL_most_89 ?_
  refine g_const hX dL_most_91 ?_
  refine g_const hX dL_most_94 ?_
  refine l_act hX hst dL_most_95 hH hV (ya_in rfl) (ya_in rfl) (ya_in rfl) (ya_in rfl) (ya_in rfl) yme81 (show cs + 4 + 10 ≤ 5000 by omega) (show ss + 24 + 250 ≤ 125000 by omega) (by first | exact Nat.le_of_ble_eq_true rfl | simp [cat_rf, Value.category]) (fun A ow τ M sz hH hV => ?_)
  refine g_iload hX dL_most_98 rfl ?_
  refine g_const hX dL_most_99 ?_
  refine yf_icmp_ge hX dL_most_101 (ya_in rfl) (ya_in rfl) (by decide) ?_
  refine g_iload hX dL_most_104 rfl ?_
  refine g_const hX dL_most_105 ?_
  refine y_iadd (c := 5) hX dL_most_106 (by decide) ?_
  refine g_goto hX dL_most_107 ?_
  refine yf_icmp_ne hX dL_most_112 (ya_in rfl) (ya_in rfl) (by decide) ?_
  refine g_aload hX dL_most_115 rfl rfl ?_
  refine g_const hX dL_most_116 ?_
  refine g_const hX dL_most_117 ?_
  refine g_const hX dL_most_119 ?_
  refine g_const hX dL_most_121 ?_
  refine g_const hX dL_most_122 ?_
  refine l_act hX hst dL_most_123 hH hV (ya_in rfl) (ya_in rfl) (ya_in rfl) (ya_in rfl) (ya_in rfl) yme83 (show cs + 4 + 10 + 10 ≤ 5000 by omega) (show ss + 24 + 250 + 250 ≤ 125000 by omega) (by first | exact Nat.le_of_ble_eq_true rfl | simp [cat_rf, Value.category]) (fun A ow τ M sz hH hV => ?_)
  refine g_iload hX dL_most_126 rfl ?_
  refine g_const hX dL_most_127 ?_
  refine yf_icmp_ge hX dL_most_129 (ya_in rfl) (ya_in rfl) (by decide) ?_
  refine g_iload hX dL_most_132 rfl ?_
  refine g_const hX dL_most_133 ?_
  refine y_iadd (c := 5) hX dL_most_134 (by decide) ?_
  refine g_goto hX dL_most_135 ?_
  refine yf_icmp_ne hX dL_most_140 (ya_in rfl) (ya_in rfl) (by decide) ?_
  refine g_aload hX dL_most_143 rfl rfl ?_
  refine g_const hX dL_most_144 ?_
  refine g_const hX dL_most_145 ?_
  refine g_const hX dL_most_146 ?_
  refine g_iload hX dL_most_147 rfl ?_
  refine g_const hX dL_most_148 ?_
  refine y_irem (c := 0) hX dL_most_149 (ya_in rfl) (ya_in rfl) (by decide) (by decide) (by decide) ?_
  refine g_const hX dL_most_150 ?_
  refine l_act hX hst dL_most_151 hH hV (ya_in rfl) (ya_in rfl) (ya_in rfl) (ya_in rfl) (ya_in rfl) yme85 (show cs + 4 + 10 + 10 + 10 ≤ 5000 by omega) (show ss + 24 + 250 + 250 + 250 ≤ 125000 by omega) (by first | exact Nat.le_of_ble_eq_true rfl | simp [cat_rf, Value.category]) (fun A ow τ M sz hH hV => ?_)
  refine g_iload hX dL_most_154 rfl ?_
  refine g_const hX dL_most_155 ?_
  refine yf_icmp_ge hX dL_most_157 (ya_in rfl) (ya_in rfl) (by decide) ?_
  exact mo_g12 hX hst hR hK hH hV (by omega) (by omega)

set_option maxRecDepth 20000 in
theorem mo_g10 {X : hX} (hX : Cok X mL_most) (hst : X.1.2.1.stackTraces = false) {M0 : hM} {sz0 : Nat} {K : hK} (hR : Ret X mL_most M0 sz0 K) (hK : ∀ (M' : hM) (s9 : Nat), K (.inl (some (.int (iZ 1)))) M' s9) {h : Nat} {A : Nat → Nat → Nat} {ow : Nat → Nat × Nat} {τ : Nat → Nat → Int} {M : hM} {sz cs ss : Nat} (hH : HX X.2.2.2.2.2.2.2.2.2 h A ow (ya_TB ymS35) τ M) (hV : SV (ya_TB ymS35)) (hc : cs + 3917 ≤ 5000) (hs : ss + 93802 ≤ 125000) : G X 176 [.ref h, .int (iZ 2), U9, U9, U9] [] M sz cs ss := by
  refine g_aload hX dL_most_176 rfl rfl ?_
  refine g_const hX dL_most_177 ?_
  refine g_const hX dL_most_178 ?_
  refine g_const hX dL_most_179 ?_
  refine l_phrase hX hst dL_most_180 hH hV (ya_in rfl) (ya_in rfl) (ya_in rfl) yme72 (show cs + 4 ≤ 5000 by omega) (show ss + 24 ≤ 125000 by omega) (by first | exact Nat.le_of_ble_eq_true rfl | simp [cat_rf, Value.category]) (fun A ow τ M sz hH hV => ?_)
  refine g_iload hX dL_most_183 rfl ?_
  refine g_const hX dL_most_184 ?_
  refine y_iadd (c := 3) hX dL_most_185 (by decide) ?_
  refine yt_icmp_eq hX dL_most_186 (ya_in rfl) (ya_in rfl) (by decide) ?_
  refine y_iinc (c := 3) hX dL_most_191 rfl (by decide) ?_
  dsimp only [List.set]
  refine g_goto hX dL_most_194 ?_
  refine g_iload hX dL_most_79 rfl ?_
  refine g_const hX dL_most_80 ?_
  refine yf_icmp_ge hX dL_most_82 (ya_in rfl) (ya_in rfl) (by decide) ?_
  refine g_aload hX dL_most_85 rfl rfl ?_
  refine g_const hX dL_most_86 ?_
  refine g_const hX dL_most_87 ?_
  refine g_const hX dL_most_89 ?_
  refine g_const hX dL_most_91 ?_
  refine g_const hX dL_most_94 ?_
  refine l_act hX hst dL_most_95 hH hV (ya_in rfl) (ya_in rfl) (ya_in rfl) (ya_in rfl) (ya_in rfl) yme74 (show cs + 4 + 10 ≤ 5000 by omega) (show ss + 24 + 250 ≤ 125000 by omega) (by first | exact Nat.le_of_ble_eq_true rfl | simp [cat_rf, Value.category]) (fun A ow τ M sz hH hV => ?_)
  refine g_iload hX dL_most_98 rfl ?_
  refine g_const hX dL_most_99 ?_
  refine yf_icmp_ge hX dL_most_101 (ya_in rfl) (ya_in rfl) (by decide) ?_
  refine g_iload hX dL_most_104 rfl ?_
  refine g_const hX dL_most_105 ?_
  refine y_iadd (c := 4) hX dL_most_106 (by decide) ?_
  refine g_goto hX dL_most_107 ?_
  refine yf_icmp_ne hX dL_most_112 (ya_in rfl) (ya_in rfl) (by decide) ?_
  refine g_aload hX dL_most_115 rfl rfl ?_
  refine g_const hX dL_most_116 ?_
  refine g_const hX dL_most_117 ?_
  refine g_const hX dL_most_119 ?_
  refine g_const hX dL_most_121 ?_
  refine g_const hX dL_most_122 ?_
  refine l_act hX hst dL_most_123 hH hV (ya_in rfl) (ya_in rfl) (ya_in rfl) (ya_in rfl) (ya_in rfl) yme76 (show cs + 4 + 10 + 10 ≤ 5000 by omega) (show ss + 24 + 250 + 250 ≤ 125000 by omega) (by first | exact Nat.le_of_ble_eq_true rfl | simp [cat_rf, Value.category]) (fun A ow τ M sz hH hV => ?_)
  refine g_iload hX dL_most_126 rfl ?_
  refine g_const hX dL_most_127 ?_
  refine yf_icmp_ge hX dL_most_129 (ya_in rfl) (ya_in rfl) (by decide) ?_
  refine g_iload hX dL_most_132 rfl ?_
  refine g_const hX dL_most_133 ?_
  refine y_iadd (c := 4) hX dL_most_134 (by decide) ?_
  refine g_goto hX dL_most_135 ?_
  refine yf_icmp_ne hX dL_most_140 (ya_in rfl) (ya_in rfl) (by decide) ?_
  refine g_aload hX dL_most_143 rfl rfl ?_
  refine g_const hX dL_most_144 ?_
  refine g_const hX dL_most_145 ?_
  refine g_const hX dL_most_146 ?_
  refine g_iload hX dL_most_147 rfl ?_
  refine g_const hX dL_most_148 ?_
  refine y_irem (c := 1) hX dL_most_149 (ya_in rfl) (ya_in rfl) (by decide) (by decide) (by decide) ?_
  refine g_const hX dL_most_150 ?_
  refine l_act hX hst dL_most_151 hH hV (ya_in rfl) (ya_in rfl) (ya_in rfl) (ya_in rfl) (ya_in rfl) yme78 (show cs + 4 + 10 + 10 + 10 ≤ 5000 by omega) (show ss + 24 + 250 + 250 + 250 ≤ 125000 by omega) (by first | exact Nat.le_of_ble_eq_true rfl | simp [cat_rf, Value.category]) (fun A ow τ M sz hH hV => ?_)
  refine g_iload hX dL_most_154 rfl ?_
  refine g_const hX dL_most_155 ?_
  refine yf_icmp_ge hX dL_most_157 (ya_in rfl) (ya_in rfl) (by decide) ?_
  refine g_iload hX dL_most_160 rfl ?_
  refine g_const hX dL_most_161 ?_
  refine y_iadd (c := 4) hX dL_most_162 (by decide) ?_
  refine g_goto hX dL_most_163 ?_
  exact mo_g11 hX hst hR hK hH hV (by omega) (by omega)

set_option maxRecDepth 20000 in
theorem mo_g9 {X : hX} (hX : Cok X mL_most) (hst : X.1.2.1.stackTraces = false) {M0 : hM} {sz0 : Nat} {K : hK} (hR : Ret X mL_most M0 sz0 K) (hK : ∀ (M' : hM) (s9 : Nat), K (.inl (some (.int (iZ 1)))) M' s9) {h : Nat} {A : Nat → Nat → Nat} {ow : Nat → Nat × Nat} {τ : Nat → Nat → Int} {M : hM} {sz cs ss : Nat} (hH : HX X.2.2.2.2.2.2.2.2.2 h A ow (ya_TB ymS31) τ M) (hV : SV (ya_TB ymS31)) (hc : cs + 3951 ≤ 5000) (hs : ss + 94576 ≤ 125000) : G X 180 [.ref h, .int (iZ 1), U9, U9, U9] [.int (iZ 1), .int (iZ 1), .int (iZ 4), .ref h] M sz cs ss := by
  refine l_phrase hX hst dL_most_180 hH hV (ya_in rfl) (ya_in rfl) (ya_in rfl) yme65 (show cs + 4 ≤ 5000 by omega) (show ss + 24 ≤ 125000 by omega) (by first | exact Nat.le_of_ble_eq_true rfl | simp [cat_rf, Value.category]) (fun A ow τ M sz hH hV => ?_)
  refine g_iload hX dL_most_183 rfl ?_
  refine g_const hX dL_most_184 ?_
  refine y_iadd (c := 2) hX dL_most_185 (by decide) ?_
  refine yt_icmp_eq hX dL_most_186 (ya_in rfl) (ya_in rfl) (by decide) ?_
  refine y_iinc (c := 2) hX dL_most_191 rfl (by decide) ?_
  dsimp only [List.set]
  refine g_goto hX dL_most_194 ?_
  refine g_iload hX dL_most_79 rfl ?_
  refine g_const hX dL_most_80 ?_
  refine yf_icmp_ge hX dL_most_82 (ya_in rfl) (ya_in rfl) (by decide) ?_
  refine g_aload hX dL_most_85 rfl rfl ?_
  refine g_const hX dL_most_86 ?_
  refine g_const hX dL_most_87 ?_
  refine g_const hX dL_most_89 ?_
  refine g_const hX dL_most_91 ?_
  refine g_const hX dL_most_94 ?_
  refine l_act hX hst dL_most_95 hH hV (ya_in rfl) (ya_in rfl) (ya_in rfl) (ya_in rfl) (ya_in rfl) yme67 (show cs + 4 + 10 ≤ 5000 by omega) (show ss + 24 + 250 ≤ 125000 by omega) (by first | exact Nat.le_of_ble_eq_true rfl | simp [cat_rf, Value.category]) (fun A ow τ M sz hH hV => ?_)
  refine g_iload hX dL_most_98 rfl ?_
  refine g_const hX dL_most_99 ?_
  refine yf_icmp_ge hX dL_most_101 (ya_in rfl) (ya_in rfl) (by decide) ?_
  refine g_iload hX dL_most_104 rfl ?_
  refine g_const hX dL_most_105 ?_
  refine y_iadd (c := 3) hX dL_most_106 (by decide) ?_
  refine g_goto hX dL_most_107 ?_
  refine yf_icmp_ne hX dL_most_112 (ya_in rfl) (ya_in rfl) (by decide) ?_
  refine g_aload hX dL_most_115 rfl rfl ?_
  refine g_const hX dL_most_116 ?_
  refine g_const hX dL_most_117 ?_
  refine g_const hX dL_most_119 ?_
  refine g_const hX dL_most_121 ?_
  refine g_const hX dL_most_122 ?_
  refine l_act hX hst dL_most_123 hH hV (ya_in rfl) (ya_in rfl) (ya_in rfl) (ya_in rfl) (ya_in rfl) yme69 (show cs + 4 + 10 + 10 ≤ 5000 by omega) (show ss + 24 + 250 + 250 ≤ 125000 by omega) (by first | exact Nat.le_of_ble_eq_true rfl | simp [cat_rf, Value.category]) (fun A ow τ M sz hH hV => ?_)
  refine g_iload hX dL_most_126 rfl ?_
  refine g_const hX dL_most_127 ?_
  refine yf_icmp_ge hX dL_most_129 (ya_in rfl) (ya_in rfl) (by decide) ?_
  refine g_iload hX dL_most_132 rfl ?_
  refine g_const hX dL_most_133 ?_
  refine y_iadd (c := 3) hX dL_most_134 (by decide) ?_
  refine g_goto hX dL_most_135 ?_
  refine yf_icmp_ne hX dL_most_140 (ya_in rfl) (ya_in rfl) (by decide) ?_
  refine g_aload hX dL_most_143 rfl rfl ?_
  refine g_const hX dL_most_144 ?_
  refine g_const hX dL_most_145 ?_
  refine g_const hX dL_most_146 ?_
  refine g_iload hX dL_most_147 rfl ?_
  refine g_const hX dL_most_148 ?_
  refine y_irem (c := 0) hX dL_most_149 (ya_in rfl) (ya_in rfl) (by decide) (by decide) (by decide) ?_
  refine g_const hX dL_most_150 ?_
  refine l_act hX hst dL_most_151 hH hV (ya_in rfl) (ya_in rfl) (ya_in rfl) (ya_in rfl) (ya_in rfl) yme71 (show cs + 4 + 10 + 10 + 10 ≤ 5000 by omega) (show ss + 24 + 250 + 250 + 250 ≤ 125000 by omega) (by first | exact Nat.le_of_ble_eq_true rfl | simp [cat_rf, Value.category]) (fun A ow τ M sz hH hV => ?_)
  refine g_iload hX dL_most_154 rfl ?_
  refine g_const hX dL_most_155 ?_
  refine yf_icmp_ge hX dL_most_157 (ya_in rfl) (ya_in rfl) (by decide) ?_
  refine g_iload hX dL_most_160 rfl ?_
  refine g_const hX dL_most_161 ?_
  refine y_iadd (c := 3) hX dL_most_162 (by decide) ?_
  refine g_goto hX dL_most_163 ?_
  refine yf_icmp_ne hX dL_most_168 (ya_in rfl) (ya_in rfl) (by decide) ?_
  refine g_iload hX dL_most_171 rfl ?_
  refine g_const hX dL_most_172 ?_
  refine yf_icmp_ge hX dL_most_173 (ya_in rfl) (ya_in rfl) (by decide) ?_
  exact mo_g10 hX hst hR hK hH hV (by omega) (by omega)

set_option maxRecDepth 20000 in
theorem mo_g8 {X : hX} (hX : Cok X mL_most) (hst : X.1.2.1.stackTraces = false) {M0 : hM} {sz0 : Nat} {K : hK} (hR : Ret X mL_most M0 sz0 K) (hK : ∀ (M' : hM) (s9 : Nat), K (.inl (some (.int (iZ 1)))) M' s9) {h : Nat} {A : Nat → Nat → Nat} {ow : Nat → Nat × Nat} {τ : Nat → Nat → Int} {M : hM} {sz cs ss : Nat} (hH : HX X.2.2.2.2.2.2.2.2.2 h A ow (ya_TB ymS28) τ M) (hV : SV (ya_TB ymS28)) (hc : cs + 3981 ≤ 5000) (hs : ss + 95326 ≤ 125000) : G X 186 [.ref h, .int (iZ 0), U9, U9, U9] [.int (iZ 1), .int (iZ 1)] M sz cs ss := by
  refine yt_icmp_eq hX dL_most_186 (ya_in rfl) (ya_in rfl) (by decide) ?_
  refine y_iinc (c := 1) hX dL_most_191 rfl (by decide) ?_
  dsimp only [List.set]
  refine g_goto hX dL_most_194 ?_
  refine g_iload hX dL_most_79 rfl ?_
  refine g_const hX dL_most_80 ?_
  refine yf_icmp_ge hX dL_most_82 (ya_in rfl) (ya_in rfl) (by decide) ?_
  refine g_aload hX dL_most_85 rfl rfl ?_
  refine g_const hX dL_most_86 ?_
  refine g_const hX dL_most_87 ?_
  refine g_const hX dL_most_89 ?_
  refine g_const hX dL_most_91 ?_
  refine g_const hX dL_most_94 ?_
  refine l_act hX hst dL_most_95 hH hV (ya_in rfl) (ya_in rfl) (ya_in rfl) (ya_in rfl) (ya_in rfl) yme60 (show cs + 10 ≤ 5000 by omega) (show ss + 250 ≤ 125000 by omega) (by first | exact Nat.le_of_ble_eq_true rfl | simp [cat_rf, Value.category]) (fun A ow τ M sz hH hV => ?_)
  refine g_iload hX dL_most_98 rfl ?_
  refine g_const hX dL_most_99 ?_
  refine yf_icmp_ge hX dL_most_101 (ya_in rfl) (ya_in rfl) (by decide) ?_
  refine g_iload hX dL_most_104 rfl ?_
  refine g_const hX dL_most_105 ?_
  refine y_iadd (c := 2) hX dL_most_106 (by decide) ?_
  refine g_goto hX dL_most_107 ?_
  refine yf_icmp_ne hX dL_most_112 (ya_in rfl) (ya_in rfl) (by decide) ?_
  refine g_aload hX dL_most_115 rfl rfl ?_
  refine g_const hX dL_most_116 ?_
  refine g_const hX dL_most_117 ?_
  refine g_const hX dL_most_119 ?_
  refine g_const hX dL_most_121 ?_
  refine g_const hX dL_most_122 ?_
  refine l_act hX hst dL_most_123 hH hV (ya_in rfl) (ya_in rfl) (ya_in rfl) (ya_in rfl) (ya_in rfl) yme62 (show cs + 10 + 10 ≤ 5000 by omega) (show ss + 250 + 250 ≤ 125000 by omega) (by first | exact Nat.le_of_ble_eq_true rfl | simp [cat_rf, Value.category]) (fun A ow τ M sz hH hV => ?_)
  refine g_iload hX dL_most_126 rfl ?_
  refine g_const hX dL_most_127 ?_
  refine yf_icmp_ge hX dL_most_129 (ya_in rfl) (ya_in rfl) (by decide) ?_
  refine g_iload hX dL_most_132 rfl ?_
  refine g_const hX dL_most_133 ?_
  refine y_iadd (c := 2) hX dL_most_134 (by decide) ?_
  refine g_goto hX dL_most_135 ?_
  refine yf_icmp_ne hX dL_most_140 (ya_in rfl) (ya_in rfl) (by decide) ?_
  refine g_aload hX dL_most_143 rfl rfl ?_
  refine g_const hX dL_most_144 ?_
  refine g_const hX dL_most_145 ?_
  refine g_const hX dL_most_146 ?_
  refine g_iload hX dL_most_147 rfl ?_
  refine g_const hX dL_most_148 ?_
  refine y_irem (c := 1) hX dL_most_149 (ya_in rfl) (ya_in rfl) (by decide) (by decide) (by decide) ?_
  refine g_const hX dL_most_150 ?_
  refine l_act hX hst dL_most_151 hH hV (ya_in rfl) (ya_in rfl) (ya_in rfl) (ya_in rfl) (ya_in rfl) yme64 (show cs + 10 + 10 + 10 ≤ 5000 by omega) (show ss + 250 + 250 + 250 ≤ 125000 by omega) (by first | exact Nat.le_of_ble_eq_true rfl | simp [cat_rf, Value.category]) (fun A ow τ M sz hH hV => ?_)
  refine g_iload hX dL_most_154 rfl ?_
  refine g_const hX dL_most_155 ?_
  refine yf_icmp_ge hX dL_most_157 (ya_in rfl) (ya_in rfl) (by decide) ?_
  refine g_iload hX dL_most_160 rfl ?_
  refine g_const hX dL_most_161 ?_
  refine y_iadd (c := 2) hX dL_most_162 (by decide) ?_
  refine g_goto hX dL_most_163 ?_
  refine yf_icmp_ne hX dL_most_168 (ya_in rfl) (ya_in rfl) (by decide) ?_
  refine g_iload hX dL_most_171 rfl ?_
  refine g_const hX dL_most_172 ?_
  refine yf_icmp_ge hX dL_most_173 (ya_in rfl) (ya_in rfl) (by decide) ?_
  refine g_aload hX dL_most_176 rfl rfl ?_
  refine g_const hX dL_most_177 ?_
  refine g_const hX dL_most_178 ?_
  refine g_const hX dL_most_179 ?_
  exact mo_g9 hX hst hR hK hH hV (by omega) (by omega)

set_option maxRecDepth 20000 in
theorem mo_g7 {X : hX} (hX : Cok X mL_most) (hst : X.1.2.1.stackTraces = false) {M0 : hM} {sz0 : Nat} {K : hK} (hR : Ret X mL_most M0 sz0 K) (hK : ∀ (M' : hM) (s9 : Nat), K (.inl (some (.int (iZ 1)))) M' s9) {h : Nat} {A : Nat → Nat → Nat} {ow : Nat → Nat × Nat} {τ : Nat → Nat → Int} {M : hM} {sz cs ss : Nat} (hH : HX X.2.2.2.2.2.2.2.2.2 h A ow (ya_TB ymS24) τ M) (hV : SV (ya_TB ymS24)) (hc : cs + 4015 ≤ 5000) (hs : ss + 96100 ≤ 125000) : G X 79 [.ref h, .int (iZ 0), U9, U9, U9] [] M sz cs ss := by
  refine g_iload hX dL_most_79 rfl ?_
  refine g_const hX dL_most_80 ?_
  refine yf_icmp_ge hX dL_most_82 (ya_in rfl) (ya_in rfl) (by decide) ?_
  refine g_aload hX dL_most_85 rfl rfl ?_
  refine g_const hX dL_most_86 ?_
  refine g_const hX dL_most_87 ?_
  refine g_const hX dL_most_89 ?_
  refine g_const hX dL_most_91 ?_
  refine g_const hX dL_most_94 ?_
  refine l_act hX hst dL_most_95 hH hV (ya_in rfl) (ya_in rfl) (ya_in rfl) (ya_in rfl) (ya_in rfl) yme53 (show cs + 10 ≤ 5000 by omega) (show ss + 250 ≤ 125000 by omega) (by first | exact Nat.le_of_ble_eq_true rfl | simp [cat_rf, Value.category]) (fun A ow τ M sz hH hV => ?_)
  refine g_iload hX dL_most_98 rfl ?_
  refine g_const hX dL_most_99 ?_
  refine yf_icmp_ge hX dL_most_101 (ya_in rfl) (ya_in rfl) (by decide) ?_
  refine g_iload hX dL_most_104 rfl ?_
  refine g_const hX dL_most_105 ?_
  refine y_iadd (c := 1) hX dL_most_106 (by decide) ?_
  refine g_goto hX dL_most_107 ?_
  refine yf_icmp_ne hX dL_most_112 (ya_in rfl) (ya_in rfl) (by decide) ?_
  refine g_aload hX dL_most_115 rfl rfl ?_
  refine g_const hX dL_most_116 ?_
  refine g_const hX dL_most_117 ?_
  refine g_const hX dL_most_119 ?_
  refine g_const hX dL_most_121 ?_
  refine g_const hX dL_most_122 ?_
  refine l_act hX hst dL_most_123 hH hV (ya_in rfl) (ya_in rfl) (ya_in rfl) (ya_in rfl) (ya_in rfl) yme55 (show cs + 10 + 10 ≤ 5000 by omega) (show ss + 250 + 250 ≤ 125000 by omega) (by first | exact Nat.le_of_ble_eq_true rfl | simp [cat_rf, Value.category]) (fun A ow τ M sz hH hV => ?_)
  refine g_iload hX dL_most_126 rfl ?_
  refine g_const hX dL_most_127 ?_
  refine yf_icmp_ge hX dL_most_129 (ya_in rfl) (ya_in rfl) (by decide) ?_
  refine g_iload hX dL_most_132 rfl ?_
  refine g_const hX dL_most_133 ?_
  refine y_iadd (c := 1) hX dL_most_134 (by decide) ?_
  refine g_goto hX dL_most_135 ?_
  refine yf_icmp_ne hX dL_most_140 (ya_in rfl) (ya_in rfl) (by decide) ?_
  refine g_aload hX dL_most_143 rfl rfl ?_
  refine g_const hX dL_most_144 ?_
  refine g_const hX dL_most_145 ?_
  refine g_const hX dL_most_146 ?_
  refine g_iload hX dL_most_147 rfl ?_
  refine g_const hX dL_most_148 ?_
  refine y_irem (c := 0) hX dL_most_149 (ya_in rfl) (ya_in rfl) (by decide) (by decide) (by decide) ?_
  refine g_const hX dL_most_150 ?_
  refine l_act hX hst dL_most_151 hH hV (ya_in rfl) (ya_in rfl) (ya_in rfl) (ya_in rfl) (ya_in rfl) yme57 (show cs + 10 + 10 + 10 ≤ 5000 by omega) (show ss + 250 + 250 + 250 ≤ 125000 by omega) (by first | exact Nat.le_of_ble_eq_true rfl | simp [cat_rf, Value.category]) (fun A ow τ M sz hH hV => ?_)
  refine g_iload hX dL_most_154 rfl ?_
  refine g_const hX dL_most_155 ?_
  refine yf_icmp_ge hX dL_most_157 (ya_in rfl) (ya_in rfl) (by decide) ?_
  refine g_iload hX dL_most_160 rfl ?_
  refine g_const hX dL_most_161 ?_
  refine y_iadd (c := 1) hX dL_most_162 (by decide) ?_
  refine g_goto hX dL_most_163 ?_
  refine yf_icmp_ne hX dL_most_168 (ya_in rfl) (ya_in rfl) (by decide) ?_
  refine g_iload hX dL_most_171 rfl ?_
  refine g_const hX dL_most_172 ?_
  refine yf_icmp_ge hX dL_most_173 (ya_in rfl) (ya_in rfl) (by decide) ?_
  refine g_aload hX dL_most_176 rfl rfl ?_
  refine g_const hX dL_most_177 ?_
  refine g_const hX dL_most_178 ?_
  refine g_const hX dL_most_179 ?_
  refine l_phrase hX hst dL_most_180 hH hV (ya_in rfl) (ya_in rfl) (ya_in rfl) yme58 (show cs + 10 + 10 + 10 + 4 ≤ 5000 by omega) (show ss + 250 + 250 + 250 + 24 ≤ 125000 by omega) (by first | exact Nat.le_of_ble_eq_true rfl | simp [cat_rf, Value.category]) (fun A ow τ M sz hH hV => ?_)
  refine g_iload hX dL_most_183 rfl ?_
  refine g_const hX dL_most_184 ?_
  refine y_iadd (c := 1) hX dL_most_185 (by decide) ?_
  exact mo_g8 hX hst hR hK hH hV (by omega) (by omega)

set_option maxRecDepth 20000 in
theorem mo_g6 {X : hX} (hX : Cok X mL_most) (hst : X.1.2.1.stackTraces = false) {M0 : hM} {sz0 : Nat} {K : hK} (hR : Ret X mL_most M0 sz0 K) (hK : ∀ (M' : hM) (s9 : Nat), K (.inl (some (.int (iZ 1)))) M' s9) {h : Nat} {A : Nat → Nat → Nat} {ow : Nat → Nat × Nat} {τ : Nat → Nat → Int} {M : hM} {sz cs ss : Nat} (hH : HX X.2.2.2.2.2.2.2.2.2 h A ow (ya_TB ymS22) τ M) (hV : SV (ya_TB ymS22)) (hc : cs + 4055 ≤ 5000) (hs : ss + 97100 ≤ 125000) : G X 21 [.ref h, .int (iZ 11), U9, U9, U9] [.int (iZ 1500), .int (iZ 0), .ref h] M sz cs ss := by
  refine g_const hX dL_most_21 ?_
  refine g_const hX dL_most_23 ?_
  refine g_const hX dL_most_24 ?_
  refine l_act hX hst dL_most_25 hH hV (ya_in rfl) (ya_in rfl) (ya_in rfl) (ya_in rfl) (ya_in rfl) yme45 (show cs + 10 ≤ 5000 by omega) (show ss + 250 ≤ 125000 by omega) (by first | exact Nat.le_of_ble_eq_true rfl | simp [cat_rf, Value.category]) (fun A ow τ M sz hH hV => ?_)
  refine g_iload hX dL_most_28 rfl ?_
  refine g_const hX dL_most_29 ?_
  refine yf_icmp_ge hX dL_most_31 (ya_in rfl) (ya_in rfl) (by decide) ?_
  refine g_iload hX dL_most_34 rfl ?_
  refine g_goto hX dL_most_35 ?_
  refine yf_icmp_ne hX dL_most_40 (ya_in rfl) (ya_in rfl) (by decide) ?_
  refine g_aload hX dL_most_43 rfl rfl ?_
  refine g_const hX dL_most_44 ?_
  refine g_const hX dL_most_45 ?_
  refine g_const hX dL_most_48 ?_
  refine g_const hX dL_most_49 ?_
  refine g_const hX dL_most_50 ?_
  refine l_act hX hst dL_most_51 hH hV (ya_in rfl) (ya_in rfl) (ya_in rfl) (ya_in rfl) (ya_in rfl) yme47 (show cs + 10 + 10 ≤ 5000 by omega) (show ss + 250 + 250 ≤ 125000 by omega) (by first | exact Nat.le_of_ble_eq_true rfl | simp [cat_rf, Value.category]) (fun A ow τ M sz hH hV => ?_)
  refine g_iload hX dL_most_54 rfl ?_
  refine g_const hX dL_most_55 ?_
  refine yf_icmp_ge hX dL_most_57 (ya_in rfl) (ya_in rfl) (by decide) ?_
  refine g_iload hX dL_most_60 rfl ?_
  refine g_goto hX dL_most_61 ?_
  refine yt_icmp_eq hX dL_most_66 (ya_in rfl) (ya_in rfl) (by decide) ?_
  refine y_iinc (c := 12) hX dL_most_71 rfl (by decide) ?_
  dsimp only [List.set]
  refine g_goto hX dL_most_74 ?_
  refine g_iload hX dL_most_10 rfl ?_
  refine g_const hX dL_most_11 ?_
  refine yf_icmp_ge hX dL_most_13 (ya_in rfl) (ya_in rfl) (by decide) ?_
  refine g_aload hX dL_most_16 rfl rfl ?_
  refine g_const hX dL_most_17 ?_
  refine g_const hX dL_most_18 ?_
  refine g_const hX dL_most_21 ?_
  refine g_const hX dL_most_23 ?_
  refine g_const hX dL_most_24 ?_
  refine l_act hX hst dL_most_25 hH hV (ya_in rfl) (ya_in rfl) (ya_in rfl) (ya_in rfl) (ya_in rfl) yme49 (show cs + 10 + 10 + 10 ≤ 5000 by omega) (show ss + 250 + 250 + 250 ≤ 125000 by omega) (by first | exact Nat.le_of_ble_eq_true rfl | simp [cat_rf, Value.category]) (fun A ow τ M sz hH hV => ?_)
  refine g_iload hX dL_most_28 rfl ?_
  refine g_const hX dL_most_29 ?_
  refine yt_icmp_ge hX dL_most_31 (ya_in rfl) (ya_in rfl) (by decide) ?_
  refine g_const hX dL_most_38 ?_
  refine yf_icmp_ne hX dL_most_40 (ya_in rfl) (ya_in rfl) (by decide) ?_
  refine g_aload hX dL_most_43 rfl rfl ?_
  refine g_const hX dL_most_44 ?_
  refine g_const hX dL_most_45 ?_
  refine g_const hX dL_most_48 ?_
  refine g_const hX dL_most_49 ?_
  refine g_const hX dL_most_50 ?_
  refine l_act hX hst dL_most_51 hH hV (ya_in rfl) (ya_in rfl) (ya_in rfl) (ya_in rfl) (ya_in rfl) yme51 (show cs + 10 + 10 + 10 + 10 ≤ 5000 by omega) (show ss + 250 + 250 + 250 + 250 ≤ 125000 by omega) (by first | exact Nat.le_of_ble_eq_true rfl | simp [cat_rf, Value.category]) (fun A ow τ M sz hH hV => ?_)
  refine g_iload hX dL_most_54 rfl ?_
  refine g_const hX dL_most_55 ?_
  refine yt_icmp_ge hX dL_most_57 (ya_in rfl) (ya_in rfl) (by decide) ?_
  refine g_const hX dL_most_64 ?_
  refine yt_icmp_eq hX dL_most_66 (ya_in rfl) (ya_in rfl) (by decide) ?_
  refine y_iinc (c := 13) hX dL_most_71 rfl (by decide) ?_
  dsimp only [List.set]
  refine g_goto hX dL_most_74 ?_
  refine g_iload hX dL_most_10 rfl ?_
  refine g_const hX dL_most_11 ?_
  refine yt_icmp_ge hX dL_most_13 (ya_in rfl) (ya_in rfl) (by decide) ?_
  refine g_const hX dL_most_77 ?_
  refine g_istore hX dL_most_78 ?_
  dsimp only [List.set]
  exact mo_g7 hX hst hR hK hH hV (by omega) (by omega)

set_option maxRecDepth 20000 in
theorem mo_g5 {X : hX} (hX : Cok X mL_most) (hst : X.1.2.1.stackTraces = false) {M0 : hM} {sz0 : Nat} {K : hK} (hR : Ret X mL_most M0 sz0 K) (hK : ∀ (M' : hM) (s9 : Nat), K (.inl (some (.int (iZ 1)))) M' s9) {h : Nat} {A : Nat → Nat → Nat} {ow : Nat → Nat × Nat} {τ : Nat → Nat → Int} {M : hM} {sz cs ss : Nat} (hH : HX X.2.2.2.2.2.2.2.2.2 h A ow (ya_TB ymS18) τ M) (hV : SV (ya_TB ymS18)) (hc : cs + 4095 ≤ 5000) (hs : ss + 98100 ≤ 125000) : G X 25 [.ref h, .int (iZ 9), U9, U9, U9] [.int (iZ 0), .int (iZ 0), .int (iZ 65535), .int (iZ 1500), .int (iZ 0), .ref h] M sz cs ss := by
  refine l_act hX hst dL_most_25 hH hV (ya_in rfl) (ya_in rfl) (ya_in rfl) (ya_in rfl) (ya_in rfl) yme37 (show cs + 10 ≤ 5000 by omega) (show ss + 250 ≤ 125000 by omega) (by first | exact Nat.le_of_ble_eq_true rfl | simp [cat_rf, Value.category]) (fun A ow τ M sz hH hV => ?_)
  refine g_iload hX dL_most_28 rfl ?_
  refine g_const hX dL_most_29 ?_
  refine yf_icmp_ge hX dL_most_31 (ya_in rfl) (ya_in rfl) (by decide) ?_
  refine g_iload hX dL_most_34 rfl ?_
  refine g_goto hX dL_most_35 ?_
  refine yf_icmp_ne hX dL_most_40 (ya_in rfl) (ya_in rfl) (by decide) ?_
  refine g_aload hX dL_most_43 rfl rfl ?_
  refine g_const hX dL_most_44 ?_
  refine g_const hX dL_most_45 ?_
  refine g_const hX dL_most_48 ?_
  refine g_const hX dL_most_49 ?_
  refine g_const hX dL_most_50 ?_
  refine l_act hX hst dL_most_51 hH hV (ya_in rfl) (ya_in rfl) (ya_in rfl) (ya_in rfl) (ya_in rfl) yme39 (show cs + 10 + 10 ≤ 5000 by omega) (show ss + 250 + 250 ≤ 125000 by omega) (by first | exact Nat.le_of_ble_eq_true rfl | simp [cat_rf, Value.category]) (fun A ow τ M sz hH hV => ?_)
  refine g_iload hX dL_most_54 rfl ?_
  refine g_const hX dL_most_55 ?_
  refine yf_icmp_ge hX dL_most_57 (ya_in rfl) (ya_in rfl) (by decide) ?_
  refine g_iload hX dL_most_60 rfl ?_
  refine g_goto hX dL_most_61 ?_
  refine yt_icmp_eq hX dL_most_66 (ya_in rfl) (ya_in rfl) (by decide) ?_
  refine y_iinc (c := 10) hX dL_most_71 rfl (by decide) ?_
  dsimp only [List.set]
  refine g_goto hX dL_most_74 ?_
  refine g_iload hX dL_most_10 rfl ?_
  refine g_const hX dL_most_11 ?_
  refine yf_icmp_ge hX dL_most_13 (ya_in rfl) (ya_in rfl) (by decide) ?_
  refine g_aload hX dL_most_16 rfl rfl ?_
  refine g_const hX dL_most_17 ?_
  refine g_const hX dL_most_18 ?_
  refine g_const hX dL_most_21 ?_
  refine g_const hX dL_most_23 ?_
  refine g_const hX dL_most_24 ?_
  refine l_act hX hst dL_most_25 hH hV (ya_in rfl) (ya_in rfl) (ya_in rfl) (ya_in rfl) (ya_in rfl) yme41 (show cs + 10 + 10 + 10 ≤ 5000 by omega) (show ss + 250 + 250 + 250 ≤ 125000 by omega) (by first | exact Nat.le_of_ble_eq_true rfl | simp [cat_rf, Value.category]) (fun A ow τ M sz hH hV => ?_)
  refine g_iload hX dL_most_28 rfl ?_
  refine g_const hX dL_most_29 ?_
  refine yf_icmp_ge hX dL_most_31 (ya_in rfl) (ya_in rfl) (by decide) ?_
  refine g_iload hX dL_most_34 rfl ?_
  refine g_goto hX dL_most_35 ?_
  refine yf_icmp_ne hX dL_most_40 (ya_in rfl) (ya_in rfl) (by decide) ?_
  refine g_aload hX dL_most_43 rfl rfl ?_
  refine g_const hX dL_most_44 ?_
  refine g_const hX dL_most_45 ?_
  refine g_const hX dL_most_48 ?_
  refine g_const hX dL_most_49 ?_
  refine g_const hX dL_most_50 ?_
  refine l_act hX hst dL_most_51 hH hV (ya_in rfl) (ya_in rfl) (ya_in rfl) (ya_in rfl) (ya_in rfl) yme43 (show cs + 10 + 10 + 10 + 10 ≤ 5000 by omega) (show ss + 250 + 250 + 250 + 250 ≤ 125000 by omega) (by first | exact Nat.le_of_ble_eq_true rfl | simp [cat_rf, Value.category]) (fun A ow τ M sz hH hV => ?_)
  refine g_iload hX dL_most_54 rfl ?_
  refine g_const hX dL_most_55 ?_
  refine yf_icmp_ge hX dL_most_57 (ya_in rfl) (ya_in rfl) (by decide) ?_
  refine g_iload hX dL_most_60 rfl ?_
  refine g_goto hX dL_most_61 ?_
  refine yt_icmp_eq hX dL_most_66 (ya_in rfl) (ya_in rfl) (by decide) ?_
  refine y_iinc (c := 11) hX dL_most_71 rfl (by decide) ?_
  dsimp only [List.set]
  refine g_goto hX dL_most_74 ?_
  refine g_iload hX dL_most_10 rfl ?_
  refine g_const hX dL_most_11 ?_
  refine yf_icmp_ge hX dL_most_13 (ya_in rfl) (ya_in rfl) (by decide) ?_
  refine g_aload hX dL_most_16 rfl rfl ?_
  refine g_const hX dL_most_17 ?_
  refine g_const hX dL_most_18 ?_
  exact mo_g6 hX hst hR hK hH hV (by omega) (by omega)

set_option maxRecDepth 20000 in
theorem mo_g4 {X : hX} (hX : Cok X mL_most) (hst : X.1.2.1.stackTraces = false) {M0 : hM} {sz0 : Nat} {K : hK} (hR : Ret X mL_most M0 sz0 K) (hK : ∀ (M' : hM) (s9 : Nat), K (.inl (some (.int (iZ 1)))) M' s9) {h : Nat} {A : Nat → Nat → Nat} {ow : Nat → Nat × Nat} {τ : Nat → Nat → Int} {M : hM} {sz cs ss : Nat} (hH : HX X.2.2.2.2.2.2.2.2.2 h A ow (ya_TB ymS15) τ M) (hV : SV (ya_TB ymS15)) (hc : cs + 4125 ≤ 5000) (hs : ss + 98850 ≤ 125000) : G X 31 [.ref h, .int (iZ 7), U9, U9, U9] [.int (iZ 12), .int (iZ 7), .int (iZ 7)] M sz cs ss := by
  refine yf_icmp_ge hX dL_most_31 (ya_in rfl) (ya_in rfl) (by decide) ?_
  refine g_iload hX dL_most_34 rfl ?_
  refine g_goto hX dL_most_35 ?_
  refine yf_icmp_ne hX dL_most_40 (ya_in rfl) (ya_in rfl) (by decide) ?_
  refine g_aload hX dL_most_43 rfl rfl ?_
  refine g_const hX dL_most_44 ?_
  refine g_const hX dL_most_45 ?_
  refine g_const hX dL_most_48 ?_
  refine g_const hX dL_most_49 ?_
  refine g_const hX dL_most_50 ?_
  refine l_act hX hst dL_most_51 hH hV (ya_in rfl) (ya_in rfl) (ya_in rfl) (ya_in rfl) (ya_in rfl) yme31 (show cs + 10 ≤ 5000 by omega) (show ss + 250 ≤ 125000 by omega) (by first | exact Nat.le_of_ble_eq_true rfl | simp [cat_rf, Value.category]) (fun A ow τ M sz hH hV => ?_)
  refine g_iload hX dL_most_54 rfl ?_
  refine g_const hX dL_most_55 ?_
  refine yf_icmp_ge hX dL_most_57 (ya_in rfl) (ya_in rfl) (by decide) ?_
  refine g_iload hX dL_most_60 rfl ?_
  refine g_goto hX dL_most_61 ?_
  refine yt_icmp_eq hX dL_most_66 (ya_in rfl) (ya_in rfl) (by decide) ?_
  refine y_iinc (c := 8) hX dL_most_71 rfl (by decide) ?_
  dsimp only [List.set]
  refine g_goto hX dL_most_74 ?_
  refine g_iload hX dL_most_10 rfl ?_
  refine g_const hX dL_most_11 ?_
  refine yf_icmp_ge hX dL_most_13 (ya_in rfl) (ya_in rfl) (by decide) ?_
  refine g_aload hX dL_most_16 rfl rfl ?_
  refine g_const hX dL_most_17 ?_
  refine g_const hX dL_most_18 ?_
  refine g_const hX dL_most_21 ?_
  refine g_const hX dL_most_23 ?_
  refine g_const hX dL_most_24 ?_
  refine l_act hX hst dL_most_25 hH hV (ya_in rfl) (ya_in rfl) (ya_in rfl) (ya_in rfl) (ya_in rfl) yme33 (show cs + 10 + 10 ≤ 5000 by omega) (show ss + 250 + 250 ≤ 125000 by omega) (by first | exact Nat.le_of_ble_eq_true rfl | simp [cat_rf, Value.category]) (fun A ow τ M sz hH hV => ?_)
  refine g_iload hX dL_most_28 rfl ?_
  refine g_const hX dL_most_29 ?_
  refine yf_icmp_ge hX dL_most_31 (ya_in rfl) (ya_in rfl) (by decide) ?_
  refine g_iload hX dL_most_34 rfl ?_
  refine g_goto hX dL_most_35 ?_
  refine yf_icmp_ne hX dL_most_40 (ya_in rfl) (ya_in rfl) (by decide) ?_
  refine g_aload hX dL_most_43 rfl rfl ?_
  refine g_const hX dL_most_44 ?_
  refine g_const hX dL_most_45 ?_
  refine g_const hX dL_most_48 ?_
  refine g_const hX dL_most_49 ?_
  refine g_const hX dL_most_50 ?_
  refine l_act hX hst dL_most_51 hH hV (ya_in rfl) (ya_in rfl) (ya_in rfl) (ya_in rfl) (ya_in rfl) yme35 (show cs + 10 + 10 + 10 ≤ 5000 by omega) (show ss + 250 + 250 + 250 ≤ 125000 by omega) (by first | exact Nat.le_of_ble_eq_true rfl | simp [cat_rf, Value.category]) (fun A ow τ M sz hH hV => ?_)
  refine g_iload hX dL_most_54 rfl ?_
  refine g_const hX dL_most_55 ?_
  refine yf_icmp_ge hX dL_most_57 (ya_in rfl) (ya_in rfl) (by decide) ?_
  refine g_iload hX dL_most_60 rfl ?_
  refine g_goto hX dL_most_61 ?_
  refine yt_icmp_eq hX dL_most_66 (ya_in rfl) (ya_in rfl) (by decide) ?_
  refine y_iinc (c := 9) hX dL_most_71 rfl (by decide) ?_
  dsimp only [List.set]
  refine g_goto hX dL_most_74 ?_
  refine g_iload hX dL_most_10 rfl ?_
  refine g_const hX dL_most_11 ?_
  refine yf_icmp_ge hX dL_most_13 (ya_in rfl) (ya_in rfl) (by decide) ?_
  refine g_aload hX dL_most_16 rfl rfl ?_
  refine g_const hX dL_most_17 ?_
  refine g_const hX dL_most_18 ?_
  refine g_const hX dL_most_21 ?_
  refine g_const hX dL_most_23 ?_
  refine g_const hX dL_most_24 ?_
  exact mo_g5 hX hst hR hK hH hV (by omega) (by omega)

set_option maxRecDepth 20000 in
theorem mo_g3 {X : hX} (hX : Cok X mL_most) (hst : X.1.2.1.stackTraces = false) {M0 : hM} {sz0 : Nat} {K : hK} (hR : Ret X mL_most M0 sz0 K) (hK : ∀ (M' : hM) (s9 : Nat), K (.inl (some (.int (iZ 1)))) M' s9) {h : Nat} {A : Nat → Nat → Nat} {ow : Nat → Nat × Nat} {τ : Nat → Nat → Int} {M : hM} {sz cs ss : Nat} (hH : HX X.2.2.2.2.2.2.2.2.2 h A ow (ya_TB ymS11) τ M) (hV : SV (ya_TB ymS11)) (hc : cs + 4165 ≤ 5000) (hs : ss + 99850 ≤ 125000) : G X 40 [.ref h, .int (iZ 5), U9, U9, U9] [.int (iZ 5), .int (iZ 5)] M sz cs ss := by
  refine yf_icmp_ne hX dL_most_40 (ya_in rfl) (ya_in rfl) (by decide) ?_
  refine g_aload hX dL_most_43 rfl rfl ?_
  refine g_const hX dL_most_44 ?_
  refine g_const hX dL_most_45 ?_
  refine g_const hX dL_most_48 ?_
  refine g_const hX dL_most_49 ?_
  refine g_const hX dL_most_50 ?_
  refine l_act hX hst dL_most_51 hH hV (ya_in rfl) (ya_in rfl) (ya_in rfl) (ya_in rfl) (ya_in rfl) yme23 (show cs + 10 ≤ 5000 by omega) (show ss + 250 ≤ 125000 by omega) (by first | exact Nat.le_of_ble_eq_true rfl | simp [cat_rf, Value.category]) (fun A ow τ M sz hH hV => ?_)
  refine g_iload hX dL_most_54 rfl ?_
  refine g_const hX dL_most_55 ?_
  refine yf_icmp_ge hX dL_most_57 (ya_in rfl) (ya_in rfl) (by decide) ?_
  refine g_iload hX dL_most_60 rfl ?_
  refine g_goto hX dL_most_61 ?_
  refine yt_icmp_eq hX dL_most_66 (ya_in rfl) (ya_in rfl) (by decide) ?_
  refine y_iinc (c := 6) hX dL_most_71 rfl (by decide) ?_
  dsimp only [List.set]
  refine g_goto hX dL_most_74 ?_
  refine g_iload hX dL_most_10 rfl ?_
  refine g_const hX dL_most_11 ?_
  refine yf_icmp_ge hX dL_most_13 (ya_in rfl) (ya_in rfl) (by decide) ?_
  refine g_aload hX dL_most_16 rfl rfl ?_
  refine g_const hX dL_most_17 ?_
  refine g_const hX dL_most_18 ?_
  refine g_const hX dL_most_21 ?_
  refine g_const hX dL_most_23 ?_
  refine g_const hX dL_most_24 ?_
  refine l_act hX hst dL_most_25 hH hV (ya_in rfl) (ya_in rfl) (ya_in rfl) (ya_in rfl) (ya_in rfl) yme25 (show cs + 10 + 10 ≤ 5000 by omega) (show ss + 250 + 250 ≤ 125000 by omega) (by first | exact Nat.le_of_ble_eq_true rfl | simp [cat_rf, Value.category]) (fun A ow τ M sz hH hV => ?_)
  refine g_iload hX dL_most_28 rfl ?_
  refine g_const hX dL_most_29 ?_
  refine yf_icmp_ge hX dL_most_31 (ya_in rfl) (ya_in rfl) (by decide) ?_
  refine g_iload hX dL_most_34 rfl ?_
  refine g_goto hX dL_most_35 ?_
  refine yf_icmp_ne hX dL_most_40 (ya_in rfl) (ya_in rfl) (by decide) ?_
  refine g_aload hX dL_most_43 rfl rfl ?_
  refine g_const hX dL_most_44 ?_
  refine g_const hX dL_most_45 ?_
  refine g_const hX dL_most_48 ?_
  refine g_const hX dL_most_49 ?_
  refine g_const hX dL_most_50 ?_
  refine l_act hX hst dL_most_51 hH hV (ya_in rfl) (ya_in rfl) (ya_in rfl) (ya_in rfl) (ya_in rfl) yme27 (show cs + 10 + 10 + 10 ≤ 5000 by omega) (show ss + 250 + 250 + 250 ≤ 125000 by omega) (by first | exact Nat.le_of_ble_eq_true rfl | simp [cat_rf, Value.category]) (fun A ow τ M sz hH hV => ?_)
  refine g_iload hX dL_most_54 rfl ?_
  refine g_const hX dL_most_55 ?_
  refine yf_icmp_ge hX dL_most_57 (ya_in rfl) (ya_in rfl) (by decide) ?_
  refine g_iload hX dL_most_60 rfl ?_
  refine g_goto hX dL_most_61 ?_
  refine yt_icmp_eq hX dL_most_66 (ya_in rfl) (ya_in rfl) (by decide) ?_
  refine y_iinc (c := 7) hX dL_most_71 rfl (by decide) ?_
  dsimp only [List.set]
  refine g_goto hX dL_most_74 ?_
  refine g_iload hX dL_most_10 rfl ?_
  refine g_const hX dL_most_11 ?_
  refine yf_icmp_ge hX dL_most_13 (ya_in rfl) (ya_in rfl) (by decide) ?_
  refine g_aload hX dL_most_16 rfl rfl ?_
  refine g_const hX dL_most_17 ?_
  refine g_const hX dL_most_18 ?_
  refine g_const hX dL_most_21 ?_
  refine g_const hX dL_most_23 ?_
  refine g_const hX dL_most_24 ?_
  refine l_act hX hst dL_most_25 hH hV (ya_in rfl) (ya_in rfl) (ya_in rfl) (ya_in rfl) (ya_in rfl) yme29 (show cs + 10 + 10 + 10 + 10 ≤ 5000 by omega) (show ss + 250 + 250 + 250 + 250 ≤ 125000 by omega) (by first | exact Nat.le_of_ble_eq_true rfl | simp [cat_rf, Value.category]) (fun A ow τ M sz hH hV => ?_)
  refine g_iload hX dL_most_28 rfl ?_
  refine g_const hX dL_most_29 ?_
  exact mo_g4 hX hst hR hK hH hV (by omega) (by omega)

set_option maxRecDepth 20000 in
theorem mo_g2 {X : hX} (hX : Cok X mL_most) (hst : X.1.2.1.stackTraces = false) {M0 : hM} {sz0 : Nat} {K : hK} (hR : Ret X mL_most M0 sz0 K) (hK : ∀ (M' : hM) (s9 : Nat), K (.inl (some (.int (iZ 1)))) M' s9) {h : Nat} {A : Nat → Nat → Nat} {ow : Nat → Nat × Nat} {τ : Nat → Nat → Int} {M : hM} {sz cs ss : Nat} (hH : HX X.2.2.2.2.2.2.2.2.2 h A ow (ya_TB ymS7) τ M) (hV : SV (ya_TB ymS7)) (hc : cs + 4205 ≤ 5000) (hs : ss + 100850 ≤ 125000) : G X 45 [.ref h, .int (iZ 3), U9, U9, U9] [.int (iZ 2), .ref h] M sz cs ss := by
  refine g_const hX dL_most_45 ?_
  refine g_const hX dL_most_48 ?_
  refine g_const hX dL_most_49 ?_
  refine g_const hX dL_most_50 ?_
  refine l_act hX hst dL_most_51 hH hV (ya_in rfl) (ya_in rfl) (ya_in rfl) (ya_in rfl) (ya_in rfl) yme15 (show cs + 10 ≤ 5000 by omega) (show ss + 250 ≤ 125000 by omega) (by first | exact Nat.le_of_ble_eq_true rfl | simp [cat_rf, Value.category]) (fun A ow τ M sz hH hV => ?_)
  refine g_iload hX dL_most_54 rfl ?_
  refine g_const hX dL_most_55 ?_
  refine yf_icmp_ge hX dL_most_57 (ya_in rfl) (ya_in rfl) (by decide) ?_
  refine g_iload hX dL_most_60 rfl ?_
  refine g_goto hX dL_most_61 ?_
  refine yt_icmp_eq hX dL_most_66 (ya_in rfl) (ya_in rfl) (by decide) ?_
  refine y_iinc (c := 4) hX dL_most_71 rfl (by decide) ?_
  dsimp only [List.set]
  refine g_goto hX dL_most_74 ?_
  refine g_iload hX dL_most_10 rfl ?_
  refine g_const hX dL_most_11 ?_
  refine yf_icmp_ge hX dL_most_13 (ya_in rfl) (ya_in rfl) (by decide) ?_
  refine g_aload hX dL_most_16 rfl rfl ?_
  refine g_const hX dL_most_17 ?_
  refine g_const hX dL_most_18 ?_
  refine g_const hX dL_most_21 ?_
  refine g_const hX dL_most_23 ?_
  refine g_const hX dL_most_24 ?_
  refine l_act hX hst dL_most_25 hH hV (ya_in rfl) (ya_in rfl) (ya_in rfl) (ya_in rfl) (ya_in rfl) yme17 (show cs + 10 + 10 ≤ 5000 by omega) (show ss + 250 + 250 ≤ 125000 by omega) (by first | exact Nat.le_of_ble_eq_true rfl | simp [cat_rf, Value.category]) (fun A ow τ M sz hH hV => ?_)
  refine g_iload hX dL_most_28 rfl ?_
  refine g_const hX dL_most_29 ?_
  refine yf_icmp_ge hX dL_most_31 (ya_in rfl) (ya_in rfl) (by decide) ?_
  refine g_iload hX dL_most_34 rfl ?_
  refine g_goto hX dL_most_35 ?_
  refine yf_icmp_ne hX dL_most_40 (ya_in rfl) (ya_in rfl) (by decide) ?_
  refine g_aload hX dL_most_43 rfl rfl ?_
  refine g_const hX dL_most_44 ?_
  refine g_const hX dL_most_45 ?_
  refine g_const hX dL_most_48 ?_
  refine g_const hX dL_most_49 ?_
  refine g_const hX dL_most_50 ?_
  refine l_act hX hst dL_most_51 hH hV (ya_in rfl) (ya_in rfl) (ya_in rfl) (ya_in rfl) (ya_in rfl) yme19 (show cs + 10 + 10 + 10 ≤ 5000 by omega) (show ss + 250 + 250 + 250 ≤ 125000 by omega) (by first | exact Nat.le_of_ble_eq_true rfl | simp [cat_rf, Value.category]) (fun A ow τ M sz hH hV => ?_)
  refine g_iload hX dL_most_54 rfl ?_
  refine g_const hX dL_most_55 ?_
  refine yf_icmp_ge hX dL_most_57 (ya_in rfl) (ya_in rfl) (by decide) ?_
  refine g_iload hX dL_most_60 rfl ?_
  refine g_goto hX dL_most_61 ?_
  refine yt_icmp_eq hX dL_most_66 (ya_in rfl) (ya_in rfl) (by decide) ?_
  refine y_iinc (c := 5) hX dL_most_71 rfl (by decide) ?_
  dsimp only [List.set]
  refine g_goto hX dL_most_74 ?_
  refine g_iload hX dL_most_10 rfl ?_
  refine g_const hX dL_most_11 ?_
  refine yf_icmp_ge hX dL_most_13 (ya_in rfl) (ya_in rfl) (by decide) ?_
  refine g_aload hX dL_most_16 rfl rfl ?_
  refine g_const hX dL_most_17 ?_
  refine g_const hX dL_most_18 ?_
  refine g_const hX dL_most_21 ?_
  refine g_const hX dL_most_23 ?_
  refine g_const hX dL_most_24 ?_
  refine l_act hX hst dL_most_25 hH hV (ya_in rfl) (ya_in rfl) (ya_in rfl) (ya_in rfl) (ya_in rfl) yme21 (show cs + 10 + 10 + 10 + 10 ≤ 5000 by omega) (show ss + 250 + 250 + 250 + 250 ≤ 125000 by omega) (by first | exact Nat.le_of_ble_eq_true rfl | simp [cat_rf, Value.category]) (fun A ow τ M sz hH hV => ?_)
  refine g_iload hX dL_most_28 rfl ?_
  refine g_const hX dL_most_29 ?_
  refine yf_icmp_ge hX dL_most_31 (ya_in rfl) (ya_in rfl) (by decide) ?_
  refine g_iload hX dL_most_34 rfl ?_
  refine g_goto hX dL_most_35 ?_
  exact mo_g3 hX hst hR hK hH hV (by omega) (by omega)

set_option maxRecDepth 20000 in
theorem mo_g1 {X : hX} (hX : Cok X mL_most) (hst : X.1.2.1.stackTraces = false) {M0 : hM} {sz0 : Nat} {K : hK} (hR : Ret X mL_most M0 sz0 K) (hK : ∀ (M' : hM) (s9 : Nat), K (.inl (some (.int (iZ 1)))) M' s9) {h : Nat} {A : Nat → Nat → Nat} {ow : Nat → Nat × Nat} {τ : Nat → Nat → Int} {M : hM} {sz cs ss : Nat} (hH : HX X.2.2.2.2.2.2.2.2.2 h A ow (ya_TB ymS3) τ M) (hV : SV (ya_TB ymS3)) (hc : cs + 4245 ≤ 5000) (hs : ss + 101850 ≤ 125000) : G X 50 [.ref h, .int (iZ 1), U9, U9, U9] [.int (iZ 0), .int (iZ 0), .int (iZ 1500), .int (iZ 2), .ref h] M sz cs ss := by
  refine g_const hX dL_most_50 ?_
  refine l_act hX hst dL_most_51 hH hV (ya_in rfl) (ya_in rfl) (ya_in rfl) (ya_in rfl) (ya_in rfl) yme7 (show cs + 10 ≤ 5000 by omega) (show ss + 250 ≤ 125000 by omega) (by first | exact Nat.le_of_ble_eq_true rfl | simp [cat_rf, Value.category]) (fun A ow τ M sz hH hV => ?_)
  refine g_iload hX dL_most_54 rfl ?_
  refine g_const hX dL_most_55 ?_
  refine yf_icmp_ge hX dL_most_57 (ya_in rfl) (ya_in rfl) (by decide) ?_
  refine g_iload hX dL_most_60 rfl ?_
  refine g_goto hX dL_most_61 ?_
  refine yt_icmp_eq hX dL_most_66 (ya_in rfl) (ya_in rfl) (by decide) ?_
  refine y_iinc (c := 2) hX dL_most_71 rfl (by decide) ?_
  dsimp only [List.set]
  refine g_goto hX dL_most_74 ?_
  refine g_iload hX dL_most_10 rfl ?_
  refine g_const hX dL_most_11 ?_
  refine yf_icmp_ge hX dL_most_13 (ya_in rfl) (ya_in rfl) (by decide) ?_
  refine g_aload hX dL_most_16 rfl rfl ?_
  refine g_const hX dL_most_17 ?_
  refine g_const hX dL_most_18 ?_
  refine g_const hX dL_most_21 ?_
  refine g_const hX dL_most_23 ?_
  refine g_const hX dL_most_24 ?_
  refine l_act hX hst dL_most_25 hH hV (ya_in rfl) (ya_in rfl) (ya_in rfl) (ya_in rfl) (ya_in rfl) yme9 (show cs + 10 + 10 ≤ 5000 by omega) (show ss + 250 + 250 ≤ 125000 by omega) (by first | exact Nat.le_of_ble_eq_true rfl | simp [cat_rf, Value.category]) (fun A ow τ M sz hH hV => ?_)
  refine g_iload hX dL_most_28 rfl ?_
  refine g_const hX dL_most_29 ?_
  refine yf_icmp_ge hX dL_most_31 (ya_in rfl) (ya_in rfl) (by decide) ?_
  refine g_iload hX dL_most_34 rfl ?_
  refine g_goto hX dL_most_35 ?_
  refine yf_icmp_ne hX dL_most_40 (ya_in rfl) (ya_in rfl) (by decide) ?_
  refine g_aload hX dL_most_43 rfl rfl ?_
  refine g_const hX dL_most_44 ?_
  refine g_const hX dL_most_45 ?_
  refine g_const hX dL_most_48 ?_
  refine g_const hX dL_most_49 ?_
  refine g_const hX dL_most_50 ?_
  refine l_act hX hst dL_most_51 hH hV (ya_in rfl) (ya_in rfl) (ya_in rfl) (ya_in rfl) (ya_in rfl) yme11 (show cs + 10 + 10 + 10 ≤ 5000 by omega) (show ss + 250 + 250 + 250 ≤ 125000 by omega) (by first | exact Nat.le_of_ble_eq_true rfl | simp [cat_rf, Value.category]) (fun A ow τ M sz hH hV => ?_)
  refine g_iload hX dL_most_54 rfl ?_
  refine g_const hX dL_most_55 ?_
  refine yf_icmp_ge hX dL_most_57 (ya_in rfl) (ya_in rfl) (by decide) ?_
  refine g_iload hX dL_most_60 rfl ?_
  refine g_goto hX dL_most_61 ?_
  refine yt_icmp_eq hX dL_most_66 (ya_in rfl) (ya_in rfl) (by decide) ?_
  refine y_iinc (c := 3) hX dL_most_71 rfl (by decide) ?_
  dsimp only [List.set]
  refine g_goto hX dL_most_74 ?_
  refine g_iload hX dL_most_10 rfl ?_
  refine g_const hX dL_most_11 ?_
  refine yf_icmp_ge hX dL_most_13 (ya_in rfl) (ya_in rfl) (by decide) ?_
  refine g_aload hX dL_most_16 rfl rfl ?_
  refine g_const hX dL_most_17 ?_
  refine g_const hX dL_most_18 ?_
  refine g_const hX dL_most_21 ?_
  refine g_const hX dL_most_23 ?_
  refine g_const hX dL_most_24 ?_
  refine l_act hX hst dL_most_25 hH hV (ya_in rfl) (ya_in rfl) (ya_in rfl) (ya_in rfl) (ya_in rfl) yme13 (show cs + 10 + 10 + 10 + 10 ≤ 5000 by omega) (show ss + 250 + 250 + 250 + 250 ≤ 125000 by omega) (by first | exact Nat.le_of_ble_eq_true rfl | simp [cat_rf, Value.category]) (fun A ow τ M sz hH hV => ?_)
  refine g_iload hX dL_most_28 rfl ?_
  refine g_const hX dL_most_29 ?_
  refine yf_icmp_ge hX dL_most_31 (ya_in rfl) (ya_in rfl) (by decide) ?_
  refine g_iload hX dL_most_34 rfl ?_
  refine g_goto hX dL_most_35 ?_
  refine yf_icmp_ne hX dL_most_40 (ya_in rfl) (ya_in rfl) (by decide) ?_
  refine g_aload hX dL_most_43 rfl rfl ?_
  refine g_const hX dL_most_44 ?_
  exact mo_g2 hX hst hR hK hH hV (by omega) (by omega)

set_option maxRecDepth 20000 in
theorem mo_g0 {X : hX} (hX : Cok X mL_most) (hst : X.1.2.1.stackTraces = false) {M0 : hM} {sz0 : Nat} {K : hK} (hR : Ret X mL_most M0 sz0 K) (hK : ∀ (M' : hM) (s9 : Nat), K (.inl (some (.int (iZ 1)))) M' s9) {M : hM} {sz cs ss : Nat} (hc : cs + 4285 ≤ 5000) (hs : ss + 103014 ≤ 125000) : G X 0 [U9, U9, U9, U9, U9] [] M sz cs ss := by
  refine g_drop ?_
  refine l_new hX hst dL_most_0 dL_most_3 dL_most_4 (show cs + 10 ≤ 5000 by omega) (show ss + 414 ≤ 125000 by omega) (fun h A ow τ M sz hH hV => ?_)
  rw [ya_TB0] at hH hV
  refine g_astore hX dL_most_7 rfl ?_
  dsimp only [List.set]
  refine g_const hX dL_most_8 ?_
  refine g_istore hX dL_most_9 ?_
  dsimp only [List.set]
  refine g_iload hX dL_most_10 rfl ?_
  refine g_const hX dL_most_11 ?_
  refine yf_icmp_ge hX dL_most_13 (ya_in rfl) (ya_in rfl) (by decide) ?_
  refine g_aload hX dL_most_16 rfl rfl ?_
  refine g_const hX dL_most_17 ?_
  refine g_const hX dL_most_18 ?_
  refine g_const hX dL_most_21 ?_
  refine g_const hX dL_most_23 ?_
  refine g_const hX dL_most_24 ?_
  refine l_act hX hst dL_most_25 hH hV (ya_in rfl) (ya_in rfl) (ya_in rfl) (ya_in rfl) (ya_in rfl) yme1 (show cs + 10 + 10 ≤ 5000 by omega) (show ss + 414 + 250 ≤ 125000 by omega) (by first | exact Nat.le_of_ble_eq_true rfl | simp [cat_rf, Value.category]) (fun A ow τ M sz hH hV => ?_)
  refine g_iload hX dL_most_28 rfl ?_
  refine g_const hX dL_most_29 ?_
  refine yf_icmp_ge hX dL_most_31 (ya_in rfl) (ya_in rfl) (by decide) ?_
  refine g_iload hX dL_most_34 rfl ?_
  refine g_goto hX dL_most_35 ?_
  refine yf_icmp_ne hX dL_most_40 (ya_in rfl) (ya_in rfl) (by decide) ?_
  refine g_aload hX dL_most_43 rfl rfl ?_
  refine g_const hX dL_most_44 ?_
  refine g_const hX dL_most_45 ?_
  refine g_const hX dL_most_48 ?_
  refine g_const hX dL_most_49 ?_
  refine g_const hX dL_most_50 ?_
  refine l_act hX hst dL_most_51 hH hV (ya_in rfl) (ya_in rfl) (ya_in rfl) (ya_in rfl) (ya_in rfl) yme3 (show cs + 10 + 10 + 10 ≤ 5000 by omega) (show ss + 414 + 250 + 250 ≤ 125000 by omega) (by first | exact Nat.le_of_ble_eq_true rfl | simp [cat_rf, Value.category]) (fun A ow τ M sz hH hV => ?_)
  refine g_iload hX dL_most_54 rfl ?_
  refine g_const hX dL_most_55 ?_
  refine yf_icmp_ge hX dL_most_57 (ya_in rfl) (ya_in rfl) (by decide) ?_
  refine g_iload hX dL_most_60 rfl ?_
  refine g_goto hX dL_most_61 ?_
  refine yt_icmp_eq hX dL_most_66 (ya_in rfl) (ya_in rfl) (by decide) ?_
  refine y_iinc (c := 1) hX dL_most_71 rfl (by decide) ?_
  dsimp only [List.set]
  refine g_goto hX dL_most_74 ?_
  refine g_iload hX dL_most_10 rfl ?_
  refine g_const hX dL_most_11 ?_
  refine yf_icmp_ge hX dL_most_13 (ya_in rfl) (ya_in rfl) (by decide) ?_
  refine g_aload hX dL_most_16 rfl rfl ?_
  refine g_const hX dL_most_17 ?_
  refine g_const hX dL_most_18 ?_
  refine g_const hX dL_most_21 ?_
  refine g_const hX dL_most_23 ?_
  refine g_const hX dL_most_24 ?_
  refine l_act hX hst dL_most_25 hH hV (ya_in rfl) (ya_in rfl) (ya_in rfl) (ya_in rfl) (ya_in rfl) yme5 (show cs + 10 + 10 + 10 + 10 ≤ 5000 by omega) (show ss + 414 + 250 + 250 + 250 ≤ 125000 by omega) (by first | exact Nat.le_of_ble_eq_true rfl | simp [cat_rf, Value.category]) (fun A ow τ M sz hH hV => ?_)
  refine g_iload hX dL_most_28 rfl ?_
  refine g_const hX dL_most_29 ?_
  refine yf_icmp_ge hX dL_most_31 (ya_in rfl) (ya_in rfl) (by decide) ?_
  refine g_iload hX dL_most_34 rfl ?_
  refine g_goto hX dL_most_35 ?_
  refine yf_icmp_ne hX dL_most_40 (ya_in rfl) (ya_in rfl) (by decide) ?_
  refine g_aload hX dL_most_43 rfl rfl ?_
  refine g_const hX dL_most_44 ?_
  refine g_const hX dL_most_45 ?_
  refine g_const hX dL_most_48 ?_
  refine g_const hX dL_most_49 ?_
  exact mo_g1 hX hst hR hK hH hV (by omega) (by omega)

def sp_L_most : hS := fun as M sz K => as = [] ∧ ∀ (M' : hM) (s9 : Nat), K (.inl (some (.int (iZ 1)))) M' s9
theorem s_L_most {l : Launch} {g : hG} (hst : l.stackTraces = false) : Ctr l g mL_most sp_L_most := by
  refine Ctr.mk9 hst (by decide) ?_ ?_
  · rintro as M sz K ⟨rfl, hK⟩
    exact ⟨by simp [mL_most], cat_ok rfl⟩
  rintro X as M sz K hX rfl rfl hR ⟨rfl, hK⟩
  show G X 0 [U9, U9, U9, U9, U9] [] M sz 0 0
  exact mo_g0 hX hst hR hK (by omega) (by omega)

