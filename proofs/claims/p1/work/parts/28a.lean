def s_Ep (v a b c d : Int) : SE := [s_full, (a, b), (c, d), s_full, s_full, s_full, (6, 6), (v, v)]
set_option maxRecDepth 100000 in
theorem t_0 : s_okv (s_Ev 0 0) = true := by decide +kernel
set_option maxRecDepth 100000 in
theorem t_1 : s_okv (s_Ev 1 1) = true := by decide +kernel
set_option maxRecDepth 100000 in
theorem t_2 : s_okv (s_Ev 2 2) = true := by decide +kernel
set_option maxRecDepth 100000 in
theorem t_3 : s_okv (s_Ev 3 3) = true := by decide +kernel
set_option maxRecDepth 100000 in
theorem t_4 : s_okv (s_Ev 4 4) = true := by decide +kernel
set_option maxRecDepth 100000 in
theorem t_5 : s_okv (s_Ev 5 5) = true := by decide +kernel
set_option maxRecDepth 100000 in
theorem t_6 : s_okv (s_Ev 6 6) = true := by decide +kernel
set_option maxRecDepth 100000 in
theorem t_7 : s_okv (s_Ev 7 7) = true := by decide +kernel
set_option maxRecDepth 100000 in
theorem t_8 : s_okv (s_Ev 8 8) = true := by decide +kernel
set_option maxRecDepth 100000 in
theorem t_9 : s_okv (s_Ev 9 9) = true := by decide +kernel
set_option maxRecDepth 100000 in
theorem t_10 : s_okv (s_Ev 10 10) = true := by decide +kernel
set_option maxRecDepth 100000 in
theorem t_11 : s_okv (s_Ev 11 11) = true := by decide +kernel
set_option maxRecDepth 100000 in
theorem t_12 : s_okv (s_Ev 12 12) = true := by decide +kernel
set_option maxRecDepth 100000 in
theorem t_13 : s_okv (s_Ev 13 13) = true := by decide +kernel
