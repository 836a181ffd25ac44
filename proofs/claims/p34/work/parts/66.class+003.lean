/-- X0_pushAt -/
def a_w16 : AW := [(170, 6, 6), (177, 0, 239), (178, 0, 239), (179, 0, 4039), (180, 0, 99), (181, 0, 999)]
def a_x16 : List AV := [a_r [170], a_i (-2147483648) 2147483647]
set_option maxRecDepth 100000 in
theorem a_c16 : (a_rok 16 a_x16 && a_an a_w16 (a_orc a_w16) 60 16 [] (a_ent 16 a_x16) (.mulL 4 (.num 0))) = true := by decide +kernel
/-- X11_isPart -/
def a_w149 : AW := []
def a_x149 : List AV := [a_r [8], a_i (-2147483648) 2147483647]
set_option maxRecDepth 100000 in
theorem a_c149 : (a_rok 149 a_x149 && a_an a_w149 (a_orc a_w149) 60 149 [] (a_ent 149 a_x149) (.mulL 4 (.num 0))) = true := by decide +kernel
/-- X11_bestWithout -/
def a_w160 : AW := [(170, 0, 7), (171, 0, 6), (172, 0, 39), (173, 0, 39), (174, 0, 39), (175, 0, 159), (176, 0, 39), (177, 0, 239), (178, 0, 239), (179, 0, 4039), (180, 0, 99), (181, 0, 999)]
def a_x160 : List AV := [a_r [8], a_i (-2147483648) 2147483647, a_i (-2147483648) 2147483647]
set_option maxRecDepth 100000 in
theorem a_c160 : (a_rok 160 a_x160 && a_an a_w160 (a_orc a_w160) 60 160 [] (a_ent 160 a_x160) (.mulL 4 (.num 0))) = true := by decide +kernel
/-- X11_shelfAt -/
def a_w154 : AW := []
def a_x154 : List AV := [a_r [8], a_i (-2147483648) 2147483647]
set_option maxRecDepth 100000 in
theorem a_c154 : (a_rok 154 a_x154 && a_an a_w154 (a_orc a_w154) 60 154 [] (a_ent 154 a_x154) (.mulL 4 (.num 0))) = true := by decide +kernel
/-- X11_refusalOfRow -/
def a_w156 : AW := []
def a_x156 : List AV := [a_r [(-1), 146, 148, 150, 152, 154, 156, 158, 160], a_i (-2147483648) 2147483647]
set_option maxRecDepth 100000 in
theorem a_c156 : (a_rok 156 a_x156 && a_an a_w156 (a_orc a_w156) 60 156 [] (a_ent 156 a_x156) (.mulL 4 (.num 0))) = true := by decide +kernel
/-- X11_tellsCells -/
def a_w163 : AW := []
def a_x163 : List AV := [a_r [8], a_r [146, 148, 150, 152, 154, 156, 158, 160]]
set_option maxRecDepth 100000 in
theorem a_c163 : (a_rok 163 a_x163 && a_an a_w163 (a_orc a_w163) 60 163 [] (a_ent 163 a_x163) (.mulL 4 (.num 0))) = true := by decide +kernel
/-- X5_goOn -/
def a_w60 : AW := [(162, 2, 8), (163, 0, 119), (164, 0, 119), (165, 0, 120), (166, 0, 119), (167, 0, 119), (168, 0, 119), (169, 0, 119)]
def a_x60 : List AV := [a_r [162], a_i (-2147483648) 2147483647]
set_option maxRecDepth 100000 in
theorem a_c60 : (a_rok 60 a_x60 && a_an a_w60 (a_orc a_w60) 60 60 [] (a_ent 60 a_x60) (.mulL 4 (.num 0))) = true := by decide +kernel
/-- X0_clear -/
def a_w3 : AW := [(170, 0, 5), (172, 0, 39)]
def a_x3 : List AV := [a_r [170]]
set_option maxRecDepth 100000 in
theorem a_c3 : (a_rok 3 a_x3 && a_an a_w3 (a_orc a_w3) 60 3 [] (a_ent 3 a_x3) (.mulL 4 (.num 0))) = true := by decide +kernel
/-- X0_addCell -/
def a_w5 : AW := [(170, 0, 0), (173, 0, 39), (174, 0, 39), (175, 0, 159), (176, 0, 39)]
def a_x5 : List AV := [a_r [170], a_i (-2147483648) 2147483647, a_i (-2147483648) 2147483647]
set_option maxRecDepth 100000 in
theorem a_c5 : (a_rok 5 a_x5 && a_an a_w5 (a_orc a_w5) 60 5 [] (a_ent 5 a_x5) (.mulL 4 (.num 0))) = true := by decide +kernel
/-- X0_drawAll -/
def a_w11 : AW := [(177, 0, 239), (178, 0, 239), (179, 0, 4039)]
def a_x11 : List AV := [a_r [170]]
set_option maxRecDepth 100000 in
theorem a_c11 : (a_rok 11 a_x11 && a_an a_w11 (a_orc a_w11) 60 11 [] (a_ent 11 a_x11) (.mulL 4 (.num 0))) = true := by decide +kernel
/-- X0_addChosen -/
def a_w28 : AW := [(180, 0, 99), (181, 0, 999)]
def a_x28 : List AV := [a_r [170], a_i (-2147483648) 2147483647]
set_option maxRecDepth 100000 in
theorem a_c28 : (a_rok 28 a_x28 && a_an a_w28 (a_orc a_w28) 60 28 [] (a_ent 28 a_x28) (.mulL 4 (.num 0))) = true := by decide +kernel
/-- X0_chooseBest -/
def a_w22 : AW := [(170, 1, 2)]
def a_x22 : List AV := [a_r [170]]
set_option maxRecDepth 100000 in
theorem a_c22 : (a_rok 22 a_x22 && a_an a_w22 (a_orc a_w22) 60 22 [] (a_ent 22 a_x22) (.mulL 4 (.num 0))) = true := by decide +kernel

