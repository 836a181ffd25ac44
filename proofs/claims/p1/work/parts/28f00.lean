set_option maxRecDepth 100000 in
theorem t_14_n : s_okv (s_Ep 14 (-2147483648) (-1) (-2147483648) (2147483647)) = true := by decide +kernel
set_option maxRecDepth 100000 in
theorem t_14_p : s_okv (s_Ep 14 (10) (2147483647) (-2147483648) (2147483647)) = true := by decide +kernel
set_option maxRecDepth 100000 in
theorem t_14_0 : s_okv (s_Ep 14 (0) (0) (-2147483648) (2147483647)) = true := by decide +kernel
set_option maxRecDepth 100000 in
theorem t_14_1 : s_okv (s_Ep 14 (1) (1) (-2147483648) (2147483647)) = true := by decide +kernel
set_option maxRecDepth 100000 in
theorem t_14_2 : s_okv (s_Ep 14 (2) (2) (-2147483648) (2147483647)) = true := by decide +kernel
set_option maxRecDepth 100000 in
theorem t_14_3 : s_okv (s_Ep 14 (3) (3) (-2147483648) (2147483647)) = true := by decide +kernel
