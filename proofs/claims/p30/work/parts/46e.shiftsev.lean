/-! shifts: the states and what is answered -/
def yhS0 : ya_ST := []
def yhS1 : ya_ST := [[[], [[1]]], [], [[[1500]], [[5]], [[15]]]]
def yhS2 : ya_ST := [[[], [[2]]], [], [[[1500], [2399]], [[5], [40]], [[15], [40]]]]
set_option maxRecDepth 100000
theorem yhe0 : oc_tune (ya_TB yhS0) 1500 5 15 = (0, 0, ya_TB yhS1) := ya_m_tune (by decide +kernel)
theorem yhe1 : oc_shift (ya_TB yhS1) 0 7 20 = (0, 2, ya_TB yhS1) := ya_q3 (ya_q_shift _ _ _ _) (by decide +kernel)
theorem yhe2 : oc_shift (ya_TB yhS1) 0 0 12 = (0, (-3), ya_TB yhS1) := ya_q3 (ya_q_shift _ _ _ _) (by decide +kernel)
theorem yhe3 : oc_shift (ya_TB yhS1) 0 0 40 = (0, 0, ya_TB yhS1) := ya_q3 (ya_q_shift _ _ _ _) (by decide +kernel)
theorem yhe4 : oc_shift (ya_TB yhS1) 0 5 15 = (0, 0, ya_TB yhS1) := ya_q3 (ya_q_shift _ _ _ _) (by decide +kernel)
theorem yhe5 : oc_shift (ya_TB yhS1) 0 0 9 = (0, (-100), ya_TB yhS1) := ya_q3 (ya_q_shift _ _ _ _) (by decide +kernel)
theorem yhe6 : oc_shift (ya_TB yhS1) 0 30 40 = (0, 25, ya_TB yhS1) := ya_q3 (ya_q_shift _ _ _ _) (by decide +kernel)
theorem yhe7 : oc_shift (ya_TB yhS1) 0 31 40 = (0, (-100), ya_TB yhS1) := ya_q3 (ya_q_shift _ _ _ _) (by decide +kernel)
theorem yhe8 : oc_shift (ya_TB yhS1) 0 0 10 = (0, (-5), ya_TB yhS1) := ya_q3 (ya_q_shift _ _ _ _) (by decide +kernel)
theorem yhe9 : oc_tune (ya_TB yhS1) 2399 40 40 = (0, 1, ya_TB yhS2) := ya_m_tune (by decide +kernel)
theorem yhe10 : oc_shift (ya_TB yhS2) 1 0 0 = (0, (-40), ya_TB yhS2) := ya_q3 (ya_q_shift _ _ _ _) (by decide +kernel)
theorem yhe11 : oc_metres (ya_TB yhS2) = (0, 1, ya_TB yhS2) := ya_q3 (ya_q_metres _) (by decide +kernel)
theorem yhe12 : oc_alike (ya_TB yhS2) 1 = (0, 2, ya_TB yhS2) := ya_q3 (ya_q_alike _ _) (by decide +kernel)
