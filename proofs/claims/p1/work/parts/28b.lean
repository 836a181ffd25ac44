set_option maxRecDepth 100000 in
theorem t_16 : s_okv (s_Ev 16 16) = true := by decide +kernel
set_option maxRecDepth 100000 in
theorem t_17 : s_okv (s_Ev 17 17) = true := by decide +kernel
set_option maxRecDepth 100000 in
theorem t_18 : s_okv (s_Ev 18 18) = true := by decide +kernel
set_option maxRecDepth 100000 in
theorem t_19 : s_okv (s_Ev 19 19) = true := by decide +kernel
set_option maxRecDepth 100000 in
theorem t_20 : s_okv (s_Ev 20 20) = true := by decide +kernel
set_option maxRecDepth 100000 in
theorem t_23 : s_okv (s_Ev 23 23) = true := by decide +kernel
set_option maxRecDepth 100000 in
theorem t_25 : s_okv (s_Ev 25 25) = true := by decide +kernel
set_option maxRecDepth 100000 in
theorem t_27 : s_okv (s_Ev 27 27) = true := by decide +kernel
set_option maxRecDepth 100000 in
theorem t_28 : s_okv (s_Ev 28 28) = true := by decide +kernel
set_option maxRecDepth 100000 in
theorem t_29 : s_okv (s_Ev 29 29) = true := by decide +kernel
set_option maxRecDepth 100000 in
theorem t_30 : s_okv (s_Ev 30 30) = true := by decide +kernel
set_option maxRecDepth 100000 in
theorem t_31 : s_okv (s_Ev 31 31) = true := by decide +kernel
set_option maxRecDepth 100000 in
theorem t_33 : s_okv (s_Ev 33 33) = true := by decide +kernel
set_option maxRecDepth 100000 in
theorem t_35 : s_okv (s_Ev 35 35) = true := by decide +kernel
