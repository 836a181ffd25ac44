def h_wb : AW := [(170, 0, 7), (171, 0, 6), (172, 0, 39), (173, 0, 39), (174, 0, 39), (175, 0, 159), (176, 0, 39), (177, 0, 239), (178, 0, 239), (179, 0, 4039), (180, 0, 99), (181, 0, 999)]
def h_x165 : List AV := [a_r [8], a_i (-2147483648) 2147483647]
set_option maxRecDepth 100000 in
theorem h_c165 : (a_rok 165 h_x165 && a_an h_wb (a_orc h_wb) 60 165 [] (a_ent 165 h_x165) (.mulL 4 (.num 0))) = true := by decide +kernel
set_option maxRecDepth 100000 in
theorem h_c166 : (a_rok 166 h_x165 && a_an h_wb (a_orc h_wb) 60 166 [] (a_ent 166 h_x165) (.mulL 4 (.num 0))) = true := by decide +kernel

