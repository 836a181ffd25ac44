set_option maxRecDepth 100000 in
theorem t_36_4_0 : s_okv (s_Ep 36 (4) (4) (0) (0)) = true := by decide +kernel
set_option maxRecDepth 100000 in
theorem t_36_4_1 : s_okv (s_Ep 36 (4) (4) (1) (1)) = true := by decide +kernel
