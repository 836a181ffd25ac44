set_option maxRecDepth 100000 in
theorem t_37 : s_okv (s_Ev 37 37) = true := by decide +kernel
set_option maxRecDepth 100000 in
theorem t_38 : s_okv (s_Ev 38 38) = true := by decide +kernel
set_option maxRecDepth 100000 in
theorem t_39 : s_okv (s_Ev 39 39) = true := by decide +kernel
set_option maxRecDepth 100000 in
theorem t_40 : s_okv (s_Ev 40 40) = true := by decide +kernel
set_option maxRecDepth 100000 in
theorem t_41 : s_okv (s_Ev 41 41) = true := by decide +kernel
set_option maxRecDepth 100000 in
theorem t_34 : s_okv (s_Ev 34 34) = true := by decide +kernel
