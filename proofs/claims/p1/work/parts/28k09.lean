set_option maxRecDepth 100000 in
theorem t_36_6_0 : s_okv (s_Ep 36 (6) (6) (0) (0)) = true := by decide +kernel
set_option maxRecDepth 100000 in
theorem t_36_6_1 : s_okv (s_Ep 36 (6) (6) (1) (1)) = true := by decide +kernel
