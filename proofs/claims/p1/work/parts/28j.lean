set_option maxRecDepth 100000 in
theorem t_36_n : s_okv (s_Ep 36 (-2147483648) (-1) (-2147483648) (2147483647)) = true := by decide +kernel
set_option maxRecDepth 100000 in
theorem t_36_p : s_okv (s_Ep 36 (8) (2147483647) (-2147483648) (2147483647)) = true := by decide +kernel
set_option maxRecDepth 100000 in
theorem t_36_0_n : s_okv (s_Ep 36 (0) (0) (-2147483648) (-1)) = true := by decide +kernel
set_option maxRecDepth 100000 in
theorem t_36_0_p : s_okv (s_Ep 36 (0) (0) (3) (2147483647)) = true := by decide +kernel
set_option maxRecDepth 100000 in
theorem t_36_1_n : s_okv (s_Ep 36 (1) (1) (-2147483648) (-1)) = true := by decide +kernel
set_option maxRecDepth 100000 in
theorem t_36_1_p : s_okv (s_Ep 36 (1) (1) (3) (2147483647)) = true := by decide +kernel
set_option maxRecDepth 100000 in
theorem t_36_2_n : s_okv (s_Ep 36 (2) (2) (-2147483648) (-1)) = true := by decide +kernel
set_option maxRecDepth 100000 in
theorem t_36_2_p : s_okv (s_Ep 36 (2) (2) (3) (2147483647)) = true := by decide +kernel
set_option maxRecDepth 100000 in
theorem t_36_3_n : s_okv (s_Ep 36 (3) (3) (-2147483648) (-1)) = true := by decide +kernel
set_option maxRecDepth 100000 in
theorem t_36_3_p : s_okv (s_Ep 36 (3) (3) (3) (2147483647)) = true := by decide +kernel
set_option maxRecDepth 100000 in
theorem t_36_4_n : s_okv (s_Ep 36 (4) (4) (-2147483648) (-1)) = true := by decide +kernel
set_option maxRecDepth 100000 in
theorem t_36_4_p : s_okv (s_Ep 36 (4) (4) (3) (2147483647)) = true := by decide +kernel
set_option maxRecDepth 100000 in
theorem t_36_5_n : s_okv (s_Ep 36 (5) (5) (-2147483648) (-1)) = true := by decide +kernel
set_option maxRecDepth 100000 in
theorem t_36_5_p : s_okv (s_Ep 36 (5) (5) (3) (2147483647)) = true := by decide +kernel
set_option maxRecDepth 100000 in
theorem t_36_6_n : s_okv (s_Ep 36 (6) (6) (-2147483648) (-1)) = true := by decide +kernel
set_option maxRecDepth 100000 in
theorem t_36_6_p : s_okv (s_Ep 36 (6) (6) (3) (2147483647)) = true := by decide +kernel
set_option maxRecDepth 100000 in
theorem t_36_7_n : s_okv (s_Ep 36 (7) (7) (-2147483648) (-1)) = true := by decide +kernel
set_option maxRecDepth 100000 in
theorem t_36_7_p : s_okv (s_Ep 36 (7) (7) (3) (2147483647)) = true := by decide +kernel
