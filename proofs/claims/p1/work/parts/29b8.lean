set_option maxRecDepth 100000 in
theorem x_i8 : s_go 1300 256 59 2 (x_Li 800) [] (x_Ai 800) x_E32 = some (2, x_Li 900, [], x_Ai 900) := x_eqG (by decide +kernel)
set_option maxRecDepth 100000 in
theorem x_i9 : s_go 1300 256 59 2 (x_Li 900) [] (x_Ai 900) x_E32 = some (2, x_Li 1000, [], x_Ai 1000) := x_eqG (by decide +kernel)
set_option maxRecDepth 100000 in
theorem x_i10 : s_go 1300 256 59 2 (x_Li 1000) [] (x_Ai 1000) x_E32 = some (2, x_Li 1100, [], x_Ai 1100) := x_eqG (by decide +kernel)
