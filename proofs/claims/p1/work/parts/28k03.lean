set_option maxRecDepth 100000 in
theorem t_36_2_0 : s_okv (s_Ep 36 (2) (2) (0) (0)) = true := by decide +kernel
set_option maxRecDepth 100000 in
theorem t_36_2_1 : s_okv (s_Ep 36 (2) (2) (1) (1)) = true := by decide +kernel
