set_option maxRecDepth 100000 in
theorem t_15_n : s_okv (s_Ep 15 (-2147483648) (-1) (-2147483648) (2147483647)) = true := by decide +kernel
set_option maxRecDepth 100000 in
theorem t_15_p : s_okv (s_Ep 15 (12) (2147483647) (-2147483648) (2147483647)) = true := by decide +kernel
set_option maxRecDepth 100000 in
theorem t_15_0 : s_okv (s_Ep 15 (0) (0) (-2147483648) (2147483647)) = true := by decide +kernel
set_option maxRecDepth 100000 in
theorem t_15_1 : s_okv (s_Ep 15 (1) (1) (-2147483648) (2147483647)) = true := by decide +kernel
set_option maxRecDepth 100000 in
theorem t_15_2 : s_okv (s_Ep 15 (2) (2) (-2147483648) (2147483647)) = true := by decide +kernel
set_option maxRecDepth 100000 in
theorem t_15_3 : s_okv (s_Ep 15 (3) (3) (-2147483648) (2147483647)) = true := by decide +kernel
set_option maxRecDepth 100000 in
theorem t_15_4 : s_okv (s_Ep 15 (4) (4) (-2147483648) (2147483647)) = true := by decide +kernel
