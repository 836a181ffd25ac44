set_option maxRecDepth 100000 in
theorem x_i11 : s_go 1300 256 59 2 (x_Li 1100) [] (x_Ai 1100) x_E32 = some (2, x_Li 1200, [], x_Ai 1200) := x_eqG (by decide +kernel)
set_option maxRecDepth 100000 in
theorem x_i12 : s_go 1300 256 59 2 (x_Li 1200) [] (x_Ai 1200) x_E32 = some (2, x_Li 1300, [], x_Ai 1300) := x_eqG (by decide +kernel)
set_option maxRecDepth 100000 in
theorem x_i13 : s_go 390 256 59 2 (x_Li 1300) [] (x_Ai 1300) x_E32 = some (2, x_Li 1330, [], x_Ai 1330) := x_eqG (by decide +kernel)
