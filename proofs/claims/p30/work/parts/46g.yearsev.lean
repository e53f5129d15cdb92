/-! years: the states and what is answered -/
def yyS0 : ya_ST := []
def yyS1 : ya_ST := [[[], [], [[1]]], [], [], [[[9]], [[0]], [[12]], [[25]], [[0]]]]
def yyS2 : ya_ST := [[[], [], [[2]]], [], [], [[[9], [3]], [[0], [1]], [[12], [2]], [[25], [29]], [[0], [0]]]]
def yyS3 : ya_ST := [[[], [], [[3]]], [], [], [[[9], [3], [8]], [[0], [1], [0]], [[12], [2], [0]], [[25], [29], [39]], [[0], [0], [1]]]]
def yyS4 : ya_ST := [[[], [], [[4]]], [], [], [[[9], [3], [8], [7]], [[0], [1], [0], [1]], [[12], [2], [0], [3]], [[25], [29], [39], [25]], [[0], [0], [1], [0]]]]
def yyS5 : ya_ST := [[[], [], [[5]]], [], [], [[[9], [3], [8], [7], [9]], [[0], [1], [0], [1], [0]], [[12], [2], [0], [3], [0]], [[25], [29], [39], [25], [0]], [[0], [0], [1], [0], [1]]]]
def yyS6 : ya_ST := [[[], [], [[6]]], [], [], [[[9], [3], [8], [7], [9], [8]], [[0], [1], [0], [1], [0], [0]], [[12], [2], [0], [3], [0], [0]], [[25], [29], [39], [25], [0], [(-6)]], [[0], [0], [1], [0], [1], [1]]]]
def yyS7 : ya_ST := [[[], [], [[7]]], [], [], [[[9], [3], [8], [7], [9], [8], [8]], [[0], [1], [0], [1], [0], [0], [0]], [[12], [2], [0], [3], [0], [0], [0]], [[25], [29], [39], [25], [0], [(-6)], [(-5)]], [[0], [0], [1], [0], [1], [1], [1]]]]
def yyS8 : ya_ST := [[[], [], [[7]], [], [[8]]], [], [], [[[9], [3], [8], [7], [9], [8], [8]], [[0], [1], [0], [1], [0], [0], [0]], [[12], [2], [0], [3], [0], [0], [0]], [[25], [29], [39], [25], [0], [(-6)], [(-5)]], [[0], [0], [1], [0], [1], [1], [1]]]]
def yyS9 : ya_ST := [[[], [], [[8]], [], [[8]]], [], [], [[[9], [3], [8], [7], [9], [8], [8], [5]], [[0], [1], [0], [1], [0], [0], [0], [0]], [[12], [2], [0], [3], [0], [0], [0], [3]], [[25], [29], [39], [25], [0], [(-6)], [(-5)], [25]], [[0], [0], [1], [0], [1], [1], [1], [0]]]]
def yyS10 : ya_ST := [[[], [], [[9]], [], [[8]]], [], [], [[[9], [3], [8], [7], [9], [8], [8], [5], [7]], [[0], [1], [0], [1], [0], [0], [0], [0], [1]], [[12], [2], [0], [3], [0], [0], [0], [3], [3]], [[25], [29], [39], [25], [0], [(-6)], [(-5)], [25], [25]], [[0], [0], [1], [0], [1], [1], [1], [0], [0]]]]
def yyS11 : ya_ST := [[[], [], [[10]], [], [[8]]], [], [], [[[9], [3], [8], [7], [9], [8], [8], [5], [7], [1]], [[0], [1], [0], [1], [0], [0], [0], [0], [1], [1]], [[12], [2], [0], [3], [0], [0], [0], [3], [3], [12]], [[25], [29], [39], [25], [0], [(-6)], [(-5)], [25], [25], [25]], [[0], [0], [1], [0], [1], [1], [1], [0], [0], [0]]]]
def yyS12 : ya_ST := [[[], [], [[11]], [], [[8]]], [], [], [[[9], [3], [8], [7], [9], [8], [8], [5], [7], [1], [1]], [[0], [1], [0], [1], [0], [0], [0], [0], [1], [1], [1]], [[12], [2], [0], [3], [0], [0], [0], [3], [3], [12], [12]], [[25], [29], [39], [25], [0], [(-6)], [(-5)], [25], [25], [25], [31]], [[0], [0], [1], [0], [1], [1], [1], [0], [0], [0], [0]]]]
def yyS13 : ya_ST := [[[], [], [[12]], [], [[8]]], [], [], [[[9], [3], [8], [7], [9], [8], [8], [5], [7], [1], [1], [2]], [[0], [1], [0], [1], [0], [0], [0], [0], [1], [1], [1], [0]], [[12], [2], [0], [3], [0], [0], [0], [3], [3], [12], [12], [12]], [[25], [29], [39], [25], [0], [(-6)], [(-5)], [25], [25], [25], [31], [31]], [[0], [0], [1], [0], [1], [1], [1], [0], [0], [0], [0], [0]]]]
def yyS14 : ya_ST := [[[], [], [[12]], [], [[0]]], [], [], [[[9], [3], [8], [7], [9], [8], [8], [5], [7], [1], [1], [2]], [[0], [1], [0], [1], [0], [0], [0], [0], [1], [1], [1], [0]], [[12], [2], [0], [3], [0], [0], [0], [3], [3], [12], [12], [12]], [[25], [29], [39], [25], [0], [(-6)], [(-5)], [25], [25], [25], [31], [31]], [[0], [0], [1], [0], [1], [1], [1], [0], [0], [0], [0], [0]]]]
def yyS15 : ya_ST := [[[], [], [[12]], [], [[9]]], [], [], [[[9], [3], [8], [7], [9], [8], [8], [5], [7], [1], [1], [2]], [[0], [1], [0], [1], [0], [0], [0], [0], [1], [1], [1], [0]], [[12], [2], [0], [3], [0], [0], [0], [3], [3], [12], [12], [12]], [[25], [29], [39], [25], [0], [(-6)], [(-5)], [25], [25], [25], [31], [31]], [[0], [0], [1], [0], [1], [1], [1], [0], [0], [0], [0], [0]]]]
set_option maxRecDepth 100000
theorem yye0 : oc_weekday (ya_TB yyS0) 2000 1 1 = (0, 6, ya_TB yyS0) := ya_q3 (ya_q_weekday _ _ _ _) (by decide +kernel)
theorem yye1 : oc_weekday (ya_TB yyS0) 2024 3 31 = (0, 0, ya_TB yyS0) := ya_q3 (ya_q_weekday _ _ _ _) (by decide +kernel)
theorem yye2 : oc_weekday (ya_TB yyS0) 1600 1 1 = (0, 6, ya_TB yyS0) := ya_q3 (ya_q_weekday _ _ _ _) (by decide +kernel)
theorem yye3 : oc_weekday (ya_TB yyS0) 2026 11 17 = (0, 2, ya_TB yyS0) := ya_q3 (ya_q_weekday _ _ _ _) (by decide +kernel)
theorem yye4 : oc_weekday (ya_TB yyS0) 1900 3 1 = (0, 4, ya_TB yyS0) := ya_q3 (ya_q_weekday _ _ _ _) (by decide +kernel)
theorem yye5 : oc_weekday (ya_TB yyS0) 2399 12 31 = (0, 5, ya_TB yyS0) := ya_q3 (ya_q_weekday _ _ _ _) (by decide +kernel)
theorem yye6 : oc_weekday (ya_TB yyS0) 2000 2 29 = (0, 2, ya_TB yyS0) := ya_q3 (ya_q_weekday _ _ _ _) (by decide +kernel)
theorem yye7 : oc_kept (ya_TB yyS0) 2024 3 31 = (0, (-2), ya_TB yyS0) := ya_q3 (ya_q_kept _ _ _ _) (by decide +kernel)
theorem yye8 : oc_kept (ya_TB yyS0) 2024 3 30 = (0, (-100), ya_TB yyS0) := ya_q3 (ya_q_kept _ _ _ _) (by decide +kernel)
theorem yye9 : oc_theme (ya_TB yyS0) 2024 3 31 = (0, (-100), ya_TB yyS0) := ya_q3 (ya_q_theme _ _ _ _) (by decide +kernel)
theorem yye10 : oc_feast (ya_TB yyS0) 9 0 12 25 = (0, 0, ya_TB yyS1) := ya_m_feast (by decide +kernel)
theorem yye11 : oc_feast (ya_TB yyS1) 3 1 2 29 = (0, 1, ya_TB yyS2) := ya_m_feast (by decide +kernel)
theorem yye12 : oc_moving (ya_TB yyS2) 8 0 39 = (0, 2, ya_TB yyS3) := ya_m_moving (by decide +kernel)
theorem yye13 : oc_feast (ya_TB yyS3) 7 1 3 25 = (0, 3, ya_TB yyS4) := ya_m_feast (by decide +kernel)
theorem yye14 : oc_when (ya_TB yyS4) 3 2024 = (0, 325, ya_TB yyS4) := ya_q3 (ya_q_when _ _ _) (by decide +kernel)
theorem yye15 : oc_moving (ya_TB yyS4) 9 0 0 = (0, 4, ya_TB yyS5) := ya_m_moving (by decide +kernel)
theorem yye16 : oc_moving (ya_TB yyS5) 8 0 (-6) = (0, 5, ya_TB yyS6) := ya_m_moving (by decide +kernel)
theorem yye17 : oc_when (ya_TB yyS6) 3 2024 = (0, 326, ya_TB yyS6) := ya_q3 (ya_q_when _ _ _) (by decide +kernel)
theorem yye18 : oc_moving (ya_TB yyS6) 8 0 (-5) = (0, 6, ya_TB yyS7) := ya_m_moving (by decide +kernel)
theorem yye19 : oc_when (ya_TB yyS7) 0 2024 = (0, 1225, ya_TB yyS7) := ya_q3 (ya_q_when _ _ _) (by decide +kernel)
theorem yye20 : oc_when (ya_TB yyS7) 1 2024 = (0, 229, ya_TB yyS7) := ya_q3 (ya_q_when _ _ _) (by decide +kernel)
theorem yye21 : oc_when (ya_TB yyS7) 1 2023 = (0, (-100), ya_TB yyS7) := ya_q3 (ya_q_when _ _ _) (by decide +kernel)
theorem yye22 : oc_when (ya_TB yyS7) 2 2024 = (0, 509, ya_TB yyS7) := ya_q3 (ya_q_when _ _ _) (by decide +kernel)
theorem yye23 : oc_when (ya_TB yyS7) 3 2024 = (0, 327, ya_TB yyS7) := ya_q3 (ya_q_when _ _ _) (by decide +kernel)
theorem yye24 : oc_when (ya_TB yyS7) 3 2025 = (0, 325, ya_TB yyS7) := ya_q3 (ya_q_when _ _ _) (by decide +kernel)
theorem yye25 : oc_when (ya_TB yyS7) 4 2024 = (0, 331, ya_TB yyS7) := ya_q3 (ya_q_when _ _ _) (by decide +kernel)
theorem yye26 : oc_when (ya_TB yyS7) 5 2024 = (0, 325, ya_TB yyS7) := ya_q3 (ya_q_when _ _ _) (by decide +kernel)
theorem yye27 : oc_kept (ya_TB yyS7) 2024 3 31 = (0, 4, ya_TB yyS7) := ya_q3 (ya_q_kept _ _ _ _) (by decide +kernel)
theorem yye28 : oc_kept (ya_TB yyS7) 2024 3 27 = (0, 3, ya_TB yyS7) := ya_q3 (ya_q_kept _ _ _ _) (by decide +kernel)
theorem yye29 : oc_kept (ya_TB yyS7) 2024 3 28 = (0, (-100), ya_TB yyS7) := ya_q3 (ya_q_kept _ _ _ _) (by decide +kernel)
theorem yye30 : oc_kept (ya_TB yyS7) 2024 6 2 = (0, (-2), ya_TB yyS7) := ya_q3 (ya_q_kept _ _ _ _) (by decide +kernel)
theorem yye31 : oc_when (ya_TB yyS7) 3 2029 = (0, 325, ya_TB yyS7) := ya_q3 (ya_q_when _ _ _) (by decide +kernel)
theorem yye32 : oc_sundays (ya_TB yyS7) 8 = (0, 0, ya_TB yyS8) := ya_m_sundays (by decide +kernel)
theorem yye33 : oc_when (ya_TB yyS8) 3 2029 = (0, 328, ya_TB yyS8) := ya_q3 (ya_q_when _ _ _) (by decide +kernel)
theorem yye34 : oc_kept (ya_TB yyS8) 2029 3 25 = (0, (-2), ya_TB yyS8) := ya_q3 (ya_q_kept _ _ _ _) (by decide +kernel)
theorem yye35 : oc_kept (ya_TB yyS8) 2029 3 26 = (0, 5, ya_TB yyS8) := ya_q3 (ya_q_kept _ _ _ _) (by decide +kernel)
theorem yye36 : oc_kept (ya_TB yyS8) 2029 3 28 = (0, 3, ya_TB yyS8) := ya_q3 (ya_q_kept _ _ _ _) (by decide +kernel)
theorem yye37 : oc_feast (ya_TB yyS8) 5 0 3 25 = (0, 7, ya_TB yyS9) := ya_m_feast (by decide +kernel)
theorem yye38 : oc_when (ya_TB yyS9) 7 2029 = (0, (-100), ya_TB yyS9) := ya_q3 (ya_q_when _ _ _) (by decide +kernel)
theorem yye39 : oc_when (ya_TB yyS9) 7 2024 = (0, (-100), ya_TB yyS9) := ya_q3 (ya_q_when _ _ _) (by decide +kernel)
theorem yye40 : oc_when (ya_TB yyS9) 7 2025 = (0, (-100), ya_TB yyS9) := ya_q3 (ya_q_when _ _ _) (by decide +kernel)
theorem yye41 : oc_feast (ya_TB yyS9) 7 1 3 25 = (0, 8, ya_TB yyS10) := ya_m_feast (by decide +kernel)
theorem yye42 : oc_when (ya_TB yyS10) 8 2025 = (0, 326, ya_TB yyS10) := ya_q3 (ya_q_when _ _ _) (by decide +kernel)
theorem yye43 : oc_when (ya_TB yyS10) 3 2025 = (0, 325, ya_TB yyS10) := ya_q3 (ya_q_when _ _ _) (by decide +kernel)
theorem yye44 : oc_feast (ya_TB yyS10) 1 1 12 25 = (0, 9, ya_TB yyS11) := ya_m_feast (by decide +kernel)
theorem yye45 : oc_when (ya_TB yyS11) 9 2024 = (0, 1226, ya_TB yyS11) := ya_q3 (ya_q_when _ _ _) (by decide +kernel)
theorem yye46 : oc_feast (ya_TB yyS11) 1 1 12 31 = (0, 10, ya_TB yyS12) := ya_m_feast (by decide +kernel)
theorem yye47 : oc_when (ya_TB yyS12) 10 2024 = (0, 1231, ya_TB yyS12) := ya_q3 (ya_q_when _ _ _) (by decide +kernel)
theorem yye48 : oc_feast (ya_TB yyS12) 2 0 12 31 = (0, 11, ya_TB yyS13) := ya_m_feast (by decide +kernel)
theorem yye49 : oc_when (ya_TB yyS13) 10 2024 = (0, (-100), ya_TB yyS13) := ya_q3 (ya_q_when _ _ _) (by decide +kernel)
theorem yye50 : oc_when (ya_TB yyS13) 11 2024 = (0, 1231, ya_TB yyS13) := ya_q3 (ya_q_when _ _ _) (by decide +kernel)
theorem yye51 : oc_sundays (ya_TB yyS13) 0 = (0, 8, ya_TB yyS14) := ya_m_sundays (by decide +kernel)
theorem yye52 : oc_when (ya_TB yyS14) 7 2029 = (0, (-100), ya_TB yyS14) := ya_q3 (ya_q_when _ _ _) (by decide +kernel)
theorem yye53 : oc_when (ya_TB yyS14) 8 2029 = (0, 328, ya_TB yyS14) := ya_q3 (ya_q_when _ _ _) (by decide +kernel)
theorem yye54 : oc_sundays (ya_TB yyS14) 9 = (0, 0, ya_TB yyS15) := ya_m_sundays (by decide +kernel)
theorem yye55 : oc_when (ya_TB yyS15) 4 2024 = (0, 331, ya_TB yyS15) := ya_q3 (ya_q_when _ _ _) (by decide +kernel)
