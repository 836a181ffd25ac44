set_option maxRecDepth 100000 in
theorem x_ig : s_go 2 256 59 0 [(0, .inl (.inr (.inr (some 192))))] [] x_A4 x_E32 = some (2, x_Li 0, [], x_Ai 0) := x_eqG (by decide +kernel)
set_option maxRecDepth 100000 in
theorem x_i0 : s_go 1300 256 59 2 (x_Li 0) [] (x_Ai 0) x_E32 = some (2, x_Li 100, [], x_Ai 100) := x_eqG (by decide +kernel)
set_option maxRecDepth 100000 in
theorem x_i1 : s_go 1300 256 59 2 (x_Li 100) [] (x_Ai 100) x_E32 = some (2, x_Li 200, [], x_Ai 200) := x_eqG (by decide +kernel)
