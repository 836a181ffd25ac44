set_option maxRecDepth 100000 in
theorem t_26_11 : s_okv (s_Ep 26 (11) (11) (-2147483648) (2147483647)) = true := by decide +kernel
