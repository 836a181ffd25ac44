set_option maxRecDepth 100000 in
theorem x_i2 : s_go 1300 256 59 2 (x_Li 200) [] (x_Ai 200) x_E32 = some (2, x_Li 300, [], x_Ai 300) := x_eqG (by decide +kernel)
set_option maxRecDepth 100000 in
theorem x_i3 : s_go 1300 256 59 2 (x_Li 300) [] (x_Ai 300) x_E32 = some (2, x_Li 400, [], x_Ai 400) := x_eqG (by decide +kernel)
set_option maxRecDepth 100000 in
theorem x_i4 : s_go 1300 256 59 2 (x_Li 400) [] (x_Ai 400) x_E32 = some (2, x_Li 500, [], x_Ai 500) := x_eqG (by decide +kernel)
