set_option maxRecDepth 100000 in
theorem t_21 : s_okv (s_Ev 21 21) = true := by decide +kernel
set_option maxRecDepth 100000 in
theorem t_22 : s_okv (s_Ev 22 22) = true := by decide +kernel
