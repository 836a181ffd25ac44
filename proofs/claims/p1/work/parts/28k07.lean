set_option maxRecDepth 100000 in
theorem t_36_4_2 : s_okv (s_Ep 36 (4) (4) (2) (2)) = true := by decide +kernel
set_option maxRecDepth 100000 in
theorem t_36_5_0 : s_okv (s_Ep 36 (5) (5) (0) (0)) = true := by decide +kernel
