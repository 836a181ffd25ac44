set_option maxRecDepth 100000 in
theorem t_36_1_1 : s_okv (s_Ep 36 (1) (1) (1) (1)) = true := by decide +kernel
set_option maxRecDepth 100000 in
theorem t_36_1_2 : s_okv (s_Ep 36 (1) (1) (2) (2)) = true := by decide +kernel
