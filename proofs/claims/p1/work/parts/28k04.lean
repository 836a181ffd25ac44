set_option maxRecDepth 100000 in
theorem t_36_2_2 : s_okv (s_Ep 36 (2) (2) (2) (2)) = true := by decide +kernel
set_option maxRecDepth 100000 in
theorem t_36_3_0 : s_okv (s_Ep 36 (3) (3) (0) (0)) = true := by decide +kernel
