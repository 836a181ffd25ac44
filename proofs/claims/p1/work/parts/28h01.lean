set_option maxRecDepth 100000 in
theorem t_24_5 : s_okv (s_Ep 24 (5) (5) (-2147483648) (2147483647)) = true := by decide +kernel
set_option maxRecDepth 100000 in
theorem t_24_6 : s_okv (s_Ep 24 (6) (6) (-2147483648) (2147483647)) = true := by decide +kernel
set_option maxRecDepth 100000 in
theorem t_24_7 : s_okv (s_Ep 24 (7) (7) (-2147483648) (2147483647)) = true := by decide +kernel
set_option maxRecDepth 100000 in
theorem t_24_8 : s_okv (s_Ep 24 (8) (8) (-2147483648) (2147483647)) = true := by decide +kernel
set_option maxRecDepth 100000 in
theorem t_24_9 : s_okv (s_Ep 24 (9) (9) (-2147483648) (2147483647)) = true := by decide +kernel
set_option maxRecDepth 100000 in
theorem t_24_10 : s_okv (s_Ep 24 (10) (10) (-2147483648) (2147483647)) = true := by decide +kernel
set_option maxRecDepth 100000 in
theorem t_24_11 : s_okv (s_Ep 24 (11) (11) (-2147483648) (2147483647)) = true := by decide +kernel
