set_option maxRecDepth 100000 in
theorem t_26_9 : s_okv (s_Ep 26 (9) (9) (-2147483648) (2147483647)) = true := by decide +kernel
set_option maxRecDepth 100000 in
theorem t_26_10 : s_okv (s_Ep 26 (10) (10) (-2147483648) (2147483647)) = true := by decide +kernel
