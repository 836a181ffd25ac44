set_option maxRecDepth 100000 in
theorem t_15_5 : s_okv (s_Ep 15 (5) (5) (-2147483648) (2147483647)) = true := by decide +kernel
set_option maxRecDepth 100000 in
theorem t_15_6 : s_okv (s_Ep 15 (6) (6) (-2147483648) (2147483647)) = true := by decide +kernel
set_option maxRecDepth 100000 in
theorem t_15_7 : s_okv (s_Ep 15 (7) (7) (-2147483648) (2147483647)) = true := by decide +kernel
set_option maxRecDepth 100000 in
theorem t_15_8 : s_okv (s_Ep 15 (8) (8) (-2147483648) (2147483647)) = true := by decide +kernel
set_option maxRecDepth 100000 in
theorem t_15_9 : s_okv (s_Ep 15 (9) (9) (-2147483648) (2147483647)) = true := by decide +kernel
set_option maxRecDepth 100000 in
theorem t_15_10 : s_okv (s_Ep 15 (10) (10) (-2147483648) (2147483647)) = true := by decide +kernel
set_option maxRecDepth 100000 in
theorem t_15_11 : s_okv (s_Ep 15 (11) (11) (-2147483648) (2147483647)) = true := by decide +kernel
