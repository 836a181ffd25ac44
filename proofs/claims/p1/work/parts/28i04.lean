set_option maxRecDepth 100000 in
theorem t_26_5 : s_okv (s_Ep 26 (5) (5) (-2147483648) (2147483647)) = true := by decide +kernel
set_option maxRecDepth 100000 in
theorem t_26_6 : s_okv (s_Ep 26 (6) (6) (-2147483648) (2147483647)) = true := by decide +kernel
