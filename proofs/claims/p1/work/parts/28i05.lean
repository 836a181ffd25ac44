set_option maxRecDepth 100000 in
theorem t_26_7 : s_okv (s_Ep 26 (7) (7) (-2147483648) (2147483647)) = true := by decide +kernel
set_option maxRecDepth 100000 in
theorem t_26_8 : s_okv (s_Ep 26 (8) (8) (-2147483648) (2147483647)) = true := by decide +kernel
