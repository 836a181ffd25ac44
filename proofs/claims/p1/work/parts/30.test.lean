set_option maxRecDepth 100000 in
theorem t_14 : s_okv (s_Ev 14 14) = true := by decide +kernel
set_option maxRecDepth 100000 in
theorem t_15 : s_okv (s_Ev 15 15) = true := by decide +kernel
