set_option maxRecDepth 100000 in
theorem t_26_n : s_okv (s_Ep 26 (-2147483648) (-2) (-2147483648) (2147483647)) = true := by decide +kernel
set_option maxRecDepth 100000 in
theorem t_26_p : s_okv (s_Ep 26 (12) (2147483647) (-2147483648) (2147483647)) = true := by decide +kernel
