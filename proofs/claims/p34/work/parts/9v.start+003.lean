def x_L1 : SL := [(4, .inl (.inl (0))), (3, .inl (.inr (.inr (some 213)))), (2, .inl (.inr (.inr (some 192)))), (1, .inl (.inr (.inr (some 8)))), (0, .inl (.inr (.inr (some 0))))]
def s_full : Int × Int := (-2147483648, 2147483647)
def s_E0 : SE := [s_full, s_full, s_full, s_full, s_full, s_full, s_full, s_full]
set_option maxRecDepth 100000 in
theorem x_c1 : s_run 5000 59 103 0 [(0, .inl (.inr (.inr (some 8))))] [] (s_mk (8, 0, 0, []) (11, 10)) s_E0 = some [(s_E0, .inl none, x_A1)] := x_eqQ (by decide +kernel)
set_option maxRecDepth 100000 in
theorem x_c2 : s_run 5000 59 167 0 [(0, .inl (.inr (.inr (some 192))))] [] (s_mk x_A1 (12, 40)) s_E0 = some [(s_E0, .inl none, x_A2)] := x_eqQ (by decide +kernel)
