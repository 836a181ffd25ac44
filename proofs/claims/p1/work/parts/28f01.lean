set_option maxRecDepth 100000 in
theorem t_14_4 : s_okv (s_Ep 14 (4) (4) (-2147483648) (2147483647)) = true := by decide +kernel
set_option maxRecDepth 100000 in
theorem t_14_5 : s_okv (s_Ep 14 (5) (5) (-2147483648) (2147483647)) = true := by decide +kernel
set_option maxRecDepth 100000 in
theorem t_14_6 : s_okv (s_Ep 14 (6) (6) (-2147483648) (2147483647)) = true := by decide +kernel
set_option maxRecDepth 100000 in
theorem t_14_7 : s_okv (s_Ep 14 (7) (7) (-2147483648) (2147483647)) = true := by decide +kernel
set_option maxRecDepth 100000 in
theorem t_14_8 : s_okv (s_Ep 14 (8) (8) (-2147483648) (2147483647)) = true := by decide +kernel
set_option maxRecDepth 100000 in
theorem t_14_9 : s_okv (s_Ep 14 (9) (9) (-2147483648) (2147483647)) = true := by decide +kernel
