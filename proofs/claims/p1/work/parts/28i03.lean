set_option maxRecDepth 100000 in
theorem t_26_3 : s_okv (s_Ep 26 (3) (3) (-2147483648) (2147483647)) = true := by decide +kernel
set_option maxRecDepth 100000 in
theorem t_26_4 : s_okv (s_Ep 26 (4) (4) (-2147483648) (2147483647)) = true := by decide +kernel
