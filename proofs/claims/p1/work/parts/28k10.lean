set_option maxRecDepth 100000 in
theorem t_36_6_2 : s_okv (s_Ep 36 (6) (6) (2) (2)) = true := by decide +kernel
set_option maxRecDepth 100000 in
theorem t_36_7_0 : s_okv (s_Ep 36 (7) (7) (0) (0)) = true := by decide +kernel
