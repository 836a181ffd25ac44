set_option maxRecDepth 100000 in
theorem t_26_1 : s_okv (s_Ep 26 (1) (1) (-2147483648) (2147483647)) = true := by decide +kernel
set_option maxRecDepth 100000 in
theorem t_26_2 : s_okv (s_Ep 26 (2) (2) (-2147483648) (2147483647)) = true := by decide +kernel
