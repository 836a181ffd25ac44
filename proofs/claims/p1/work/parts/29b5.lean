set_option maxRecDepth 100000 in
theorem x_i5 : s_go 1300 256 59 2 (x_Li 500) [] (x_Ai 500) x_E32 = some (2, x_Li 600, [], x_Ai 600) := x_eqG (by decide +kernel)
set_option maxRecDepth 100000 in
theorem x_i6 : s_go 1300 256 59 2 (x_Li 600) [] (x_Ai 600) x_E32 = some (2, x_Li 700, [], x_Ai 700) := x_eqG (by decide +kernel)
set_option maxRecDepth 100000 in
theorem x_i7 : s_go 1300 256 59 2 (x_Li 700) [] (x_Ai 700) x_E32 = some (2, x_Li 800, [], x_Ai 800) := x_eqG (by decide +kernel)
