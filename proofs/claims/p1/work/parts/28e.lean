set_option maxRecDepth 100000 in
theorem t_42 : s_okv (s_Ev 42 63) = true := by decide +kernel
set_option maxRecDepth 100000 in
theorem t_short : s_okv s_Es = true := by decide +kernel
