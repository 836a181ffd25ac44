set_option maxRecDepth 100000 in
theorem t_36_3_1 : s_okv (s_Ep 36 (3) (3) (1) (1)) = true := by decide +kernel
set_option maxRecDepth 100000 in
theorem t_36_3_2 : s_okv (s_Ep 36 (3) (3) (2) (2)) = true := by decide +kernel
