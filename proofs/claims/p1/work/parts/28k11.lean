set_option maxRecDepth 100000 in
theorem t_36_7_1 : s_okv (s_Ep 36 (7) (7) (1) (1)) = true := by decide +kernel
set_option maxRecDepth 100000 in
theorem t_36_7_2 : s_okv (s_Ep 36 (7) (7) (2) (2)) = true := by decide +kernel
