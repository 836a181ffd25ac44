set_option maxRecDepth 100000 in
theorem t_36_0_0 : s_okv (s_Ep 36 (0) (0) (0) (0)) = true := by decide +kernel
set_option maxRecDepth 100000 in
theorem t_36_0_1 : s_okv (s_Ep 36 (0) (0) (1) (1)) = true := by decide +kernel
