set_option maxRecDepth 100000 in
theorem t_36_0_2 : s_okv (s_Ep 36 (0) (0) (2) (2)) = true := by decide +kernel
set_option maxRecDepth 100000 in
theorem t_36_1_0 : s_okv (s_Ep 36 (1) (1) (0) (0)) = true := by decide +kernel
