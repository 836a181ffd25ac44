set_option maxRecDepth 100000 in
theorem a_c115 : (a_rok 115 a_x115 && a_an a_w115 (a_orc a_w115) 60 115 [] (a_ent 115 a_x115) (.mulL 4 (.num 0))) = true := by decide +kernel
/-- X11_led -/
def a_w116 : AW := [(170, 0, 7), (171, 0, 6), (172, 0, 39), (173, 0, 39), (174, 0, 39), (175, 0, 159), (176, 0, 39), (177, 0, 239), (178, 0, 239), (179, 0, 4039), (180, 0, 99), (181, 0, 999), (182, 0, 4)]
def a_x116 : List AV := [a_r [8], a_i (-2147483648) 2147483647, a_i (-2147483648) 2147483647, a_i (-2147483648) 2147483647]
set_option maxRecDepth 100000 in
theorem a_c116 : (a_rok 116 a_x116 && a_an a_w116 (a_orc a_w116) 60 116 [] (a_ent 116 a_x116) (.mulL 4 (.num 0))) = true := by decide +kernel
/-- X11_lies -/
def a_w117 : AW := [(23, 0, 39), (24, 0, 39)]
def a_x117 : List AV := [a_r [8], a_i (-2147483648) 2147483647, a_i (-2147483648) 2147483647, a_i (-2147483648) 2147483647]
set_option maxRecDepth 100000 in
theorem a_c117 : (a_rok 117 a_x117 && a_an a_w117 (a_orc a_w117) 60 117 [] (a_ent 117 a_x117) (.mulL 4 (.num 0))) = true := by decide +kernel
/-- X11_wall -/
def a_w118 : AW := [(27, 0, 9), (28, 0, 9), (29, 0, 9)]
def a_x118 : List AV := [a_r [8], a_i (-2147483648) 2147483647, a_i (-2147483648) 2147483647, a_i (-2147483648) 2147483647, a_i (-2147483648) 2147483647]
set_option maxRecDepth 100000 in
theorem a_c118 : (a_rok 118 a_x118 && a_an a_w118 (a_orc a_w118) 60 118 [] (a_ent 118 a_x118) (.mulL 4 (.num 0))) = true := by decide +kernel
/-- X11_sun -/
def a_w119 : AW := [(30, 0, 11), (31, 0, 11)]
def a_x119 : List AV := [a_r [8], a_i (-2147483648) 2147483647, a_i (-2147483648) 2147483647, a_i (-2147483648) 2147483647]
set_option maxRecDepth 100000 in
theorem a_c119 : (a_rok 119 a_x119 && a_an a_w119 (a_orc a_w119) 60 119 [] (a_ent 119 a_x119) (.mulL 4 (.num 0))) = true := by decide +kernel
/-- X11_lit -/
def a_w120 : AW := [(191, 0, 239)]
def a_x120 : List AV := [a_r [8], a_i (-2147483648) 2147483647, a_i (-2147483648) 2147483647]
set_option maxRecDepth 100000 in
theorem a_c120 : (a_rok 120 a_x120 && a_an a_w120 (a_orc a_w120) 60 120 [] (a_ent 120 a_x120) (.mulL 4 (.num 0))) = true := by decide +kernel
/-- X11_sky -/
def a_w121 : AW := [(26, 6, 7), (32, 0, 119)]
def a_x121 : List AV := [a_r [8], a_i (-2147483648) 2147483647]
set_option maxRecDepth 100000 in
theorem a_c121 : (a_rok 121 a_x121 && a_an a_w121 (a_orc a_w121) 60 121 [] (a_ent 121 a_x121) (.mulL 4 (.num 0))) = true := by decide +kernel
/-- X11_strength -/
def a_w122 : AW := []
def a_x122 : List AV := [a_r [8], a_i (-2147483648) 2147483647, a_i (-2147483648) 2147483647]
set_option maxRecDepth 100000 in
theorem a_c122 : (a_rok 122 a_x122 && a_an a_w122 (a_orc a_w122) 60 122 [] (a_ent 122 a_x122) (.mulL 4 (.num 0))) = true := by decide +kernel
/-- X11_hour -/
def a_w123 : AW := [(170, 0, 7), (171, 0, 6), (172, 0, 39), (173, 0, 39), (174, 0, 39), (175, 0, 159), (176, 0, 39), (177, 0, 239), (178, 0, 239), (179, 0, 4039), (180, 0, 99), (181, 0, 999), (191, 0, 239)]
def a_x123 : List AV := [a_r [8], a_i (-2147483648) 2147483647, a_i (-2147483648) 2147483647, a_i (-2147483648) 2147483647]
set_option maxRecDepth 100000 in
theorem a_c123 : (a_rok 123 a_x123 && a_an a_w123 (a_orc a_w123) 60 123 [] (a_ent 123 a_x123) (.mulL 4 (.num 0))) = true := by decide +kernel
/-- X11_day -/
def a_w124 : AW := [(170, 0, 7), (171, 0, 6), (172, 0, 39), (173, 0, 39), (174, 0, 39), (175, 0, 159), (176, 0, 39), (177, 0, 239), (178, 0, 239), (179, 0, 4039), (180, 0, 99), (181, 0, 999), (191, 0, 239)]
def a_x124 : List AV := [a_r [8], a_i (-2147483648) 2147483647, a_i (-2147483648) 2147483647]
set_option maxRecDepth 100000 in
theorem a_c124 : (a_rok 124 a_x124 && a_an a_w124 (a_orc a_w124) 60 124 [] (a_ent 124 a_x124) (.mulL 4 (.num 0))) = true := by decide +kernel
/-- X11_wash -/
def a_w125 : AW := [(183, 0, 0), (184, 0, 30), (185, 0, 30), (186, 0, 30)]
def a_x125 : List AV := [a_r [8], a_i (-2147483648) 2147483647, a_i (-2147483648) 2147483647]
set_option maxRecDepth 100000 in
theorem a_c125 : (a_rok 125 a_x125 && a_an a_w125 (a_orc a_w125) 60 125 [] (a_ent 125 a_x125) (.mulL 4 (.num 0))) = true := by decide +kernel
/-- X11_washed -/
def a_w126 : AW := [(183, 0, 0), (184, 0, 30), (185, 0, 30), (186, 0, 30)]
def a_x126 : List AV := [a_r [8], a_i (-2147483648) 2147483647, a_i (-2147483648) 2147483647, a_i (-2147483648) 2147483647]
set_option maxRecDepth 100000 in
theorem a_c126 : (a_rok 126 a_x126 && a_an a_w126 (a_orc a_w126) 60 126 [] (a_ent 126 a_x126) (.mulL 4 (.num 0))) = true := by decide +kernel
/-- X11_trade -/
def a_w128 : AW := [(34, 0, 11), (35, 0, 11)]
def a_x128 : List AV := [a_r [8], a_i (-2147483648) 2147483647, a_i (-2147483648) 2147483647]
set_option maxRecDepth 100000 in
theorem a_c128 : (a_rok 128 a_x128 && a_an a_w128 (a_orc a_w128) 60 128 [] (a_ent 128 a_x128) (.mulL 4 (.num 0))) = true := by decide +kernel
/-- X11_room -/
def a_w129 : AW := [(33, 2, 2)]
def a_x129 : List AV := [a_r [8], a_i (-2147483648) 2147483647]
set_option maxRecDepth 100000 in
theorem a_c129 : (a_rok 129 a_x129 && a_an a_w129 (a_orc a_w129) 60 129 [] (a_ent 129 a_x129) (.mulL 4 (.num 0))) = true := by decide +kernel
/-- X11_sells -/
def a_w130 : AW := [(36, 0, 402)]
def a_x130 : List AV := [a_r [8], a_i (-2147483648) 2147483647]
set_option maxRecDepth 100000 in
theorem a_c130 : (a_rok 130 a_x130 && a_an a_w130 (a_orc a_w130) 60 130 [] (a_ent 130 a_x130) (.mulL 4 (.num 0))) = true := by decide +kernel
/-- X11_without -/
def a_w131 : AW := [(170, 0, 7), (171, 0, 6), (172, 0, 39), (173, 0, 39), (174, 0, 39), (175, 0, 159), (176, 0, 39), (177, 0, 239), (178, 0, 239), (179, 0, 4039), (180, 0, 99), (181, 0, 999)]
def a_x131 : List AV := [a_r [8], a_i (-2147483648) 2147483647, a_i (-2147483648) 2147483647]
set_option maxRecDepth 100000 in
theorem a_c131 : (a_rok 131 a_x131 && a_an a_w131 (a_orc a_w131) 60 131 [] (a_ent 131 a_x131) (.mulL 4 (.num 0))) = true := by decide +kernel
/-- X11_faults -/
def a_w133 : AW := [(170, 0, 7), (171, 0, 6), (172, 0, 39), (173, 0, 39), (174, 0, 39), (175, 0, 159), (176, 0, 39)]
def a_x133 : List AV := [a_r [8], a_i (-2147483648) 2147483647]
