set_option maxRecDepth 100000 in
theorem t_24_n : s_okv (s_Ep 24 (-2147483648) (-1) (-2147483648) (2147483647)) = true := by decide +kernel
set_option maxRecDepth 100000 in
theorem t_24_p : s_okv (s_Ep 24 (12) (2147483647) (-2147483648) (2147483647)) = true := by decide +kernel
set_option maxRecDepth 100000 in
theorem t_24_0 : s_okv (s_Ep 24 (0) (0) (-2147483648) (2147483647)) = true := by decide +kernel
set_option maxRecDepth 100000 in
theorem t_24_1 : s_okv (s_Ep 24 (1) (1) (-2147483648) (2147483647)) = true := by decide +kernel
set_option maxRecDepth 100000 in
theorem t_24_2 : s_okv (s_Ep 24 (2) (2) (-2147483648) (2147483647)) = true := by decide +kernel
set_option maxRecDepth 100000 in
theorem t_24_3 : s_okv (s_Ep 24 (3) (3) (-2147483648) (2147483647)) = true := by decide +kernel
set_option maxRecDepth 100000 in
theorem t_24_4 : s_okv (s_Ep 24 (4) (4) (-2147483648) (2147483647)) = true := by decide +kernel
