set_option maxRecDepth 100000 in
theorem t_36_5_1 : s_okv (s_Ep 36 (5) (5) (1) (1)) = true := by decide +kernel
set_option maxRecDepth 100000 in
theorem t_36_5_2 : s_okv (s_Ep 36 (5) (5) (2) (2)) = true := by decide +kernel
