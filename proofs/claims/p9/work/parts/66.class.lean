/-- X11_text -/
def a_w104 : AW := [(10, 0, 0), (11, 0, 39), (12, 0, 39), (13, 0, 39), (14, 0, 39), (15, 0, 319), (16, 0, 319), (17, 0, 319), (19, 0, 239), (20, 0, 239), (21, 0, 159), (22, 0, 39), (23, 0, 39), (24, 0, 39), (37, 0, 4), (38, 0, 4), (39, 0, 4), (40, 0, 4), (41, 0, 4), (42, 0, 4), (43, 0, 4), (44, 0, 4), (45, 0, 4), (46, 0, 4), (47, 0, 4), (48, 0, 4), (49, 0, 4), (50, 0, 4), (51, 0, 4), (52, 0, 4), (53, 0, 4), (54, 0, 4), (55, 0, 4), (56, 0, 4), (57, 0, 4), (58, 0, 4), (59, 0, 4), (60, 0, 4), (61, 0, 4), (62, 0, 4), (63, 0, 4), (64, 0, 4), (65, 0, 4), (66, 0, 4), (67, 0, 4), (68, 0, 4), (69, 0, 4), (70, 0, 4), (71, 0, 4), (72, 0, 4), (73, 0, 4), (74, 0, 4), (75, 0, 4), (76, 0, 4), (162, 0, 15), (163, 0, 119), (164, 0, 119), (165, 0, 120), (166, 0, 119), (167, 0, 119), (168, 0, 119), (169, 0, 119)]
def a_x104 : List AV := [a_r [8], a_i (-2147483648) 2147483647]
set_option maxRecDepth 100000 in
theorem a_c104 : (a_rok 104 a_x104 && a_an a_w104 (a_orc a_w104) 60 104 [] (a_ent 104 a_x104) (.mulL 4 (.num 0))) = true := by decide +kernel
/-- X11_about -/
def a_w105 : AW := [(170, 0, 7), (171, 0, 6), (172, 0, 39), (173, 0, 39), (174, 0, 39), (175, 0, 159), (176, 0, 39)]
def a_x105 : List AV := [a_r [8], a_i (-2147483648) 2147483647, a_i (-2147483648) 2147483647]
set_option maxRecDepth 100000 in
theorem a_c105 : (a_rok 105 a_x105 && a_an a_w105 (a_orc a_w105) 60 105 [] (a_ent 105 a_x105) (.mulL 4 (.num 0))) = true := by decide +kernel
/-- X11_point -/
def a_w106 : AW := [(170, 0, 7), (171, 0, 6), (172, 0, 39), (173, 0, 39), (174, 0, 39), (175, 0, 159), (176, 0, 39), (177, 0, 239), (178, 0, 239)]
def a_x106 : List AV := [a_r [8], a_i (-2147483648) 2147483647, a_i (-2147483648) 2147483647, a_i (-2147483648) 2147483647]
set_option maxRecDepth 100000 in
theorem a_c106 : (a_rok 106 a_x106 && a_an a_w106 (a_orc a_w106) 60 106 [] (a_ent 106 a_x106) (.mulL 4 (.num 0))) = true := by decide +kernel
/-- X11_set -/
def a_w107 : AW := [(21, 0, 159)]
def a_x107 : List AV := [a_r [8], a_i (-2147483648) 2147483647, a_i (-2147483648) 2147483647, a_i (-2147483648) 2147483647]
set_option maxRecDepth 100000 in
theorem a_c107 : (a_rok 107 a_x107 && a_an a_w107 (a_orc a_w107) 60 107 [] (a_ent 107 a_x107) (.mulL 4 (.num 0))) = true := by decide +kernel
/-- X11_dead -/
def a_w108 : AW := [(22, 0, 39)]
def a_x108 : List AV := [a_r [8], a_i (-2147483648) 2147483647, a_i 0 1]
set_option maxRecDepth 100000 in
theorem a_c108 : (a_rok 108 a_x108 && a_an a_w108 (a_orc a_w108) 60 108 [] (a_ent 108 a_x108) (.mulL 4 (.num 0))) = true := by decide +kernel
/-- X11_current -/
def a_w110 : AW := [(170, 0, 7), (171, 0, 6), (172, 0, 39), (173, 0, 39), (174, 0, 39), (175, 0, 159), (176, 0, 39), (177, 0, 239), (178, 0, 239), (179, 0, 4039), (180, 0, 99), (181, 0, 999)]
def a_x110 : List AV := [a_r [8], a_i (-2147483648) 2147483647, a_i (-2147483648) 2147483647]
set_option maxRecDepth 100000 in
theorem a_c110 : (a_rok 110 a_x110 && a_an a_w110 (a_orc a_w110) 60 110 [] (a_ent 110 a_x110) (.mulL 4 (.num 0))) = true := by decide +kernel
/-- X11_best -/
def a_w111 : AW := [(170, 0, 7), (171, 0, 6), (172, 0, 39), (173, 0, 39), (174, 0, 39), (175, 0, 159), (176, 0, 39), (177, 0, 239), (178, 0, 239), (179, 0, 4039), (180, 0, 99), (181, 0, 999)]
def a_x111 : List AV := [a_r [8], a_i (-2147483648) 2147483647, a_i (-2147483648) 2147483647]
set_option maxRecDepth 100000 in
theorem a_c111 : (a_rok 111 a_x111 && a_an a_w111 (a_orc a_w111) 60 111 [] (a_ent 111 a_x111) (.mulL 4 (.num 0))) = true := by decide +kernel
/-- X11_hump -/
def a_w112 : AW := [(170, 0, 7), (171, 0, 6), (172, 0, 39), (173, 0, 39), (174, 0, 39), (175, 0, 159), (176, 0, 39), (177, 0, 239), (178, 0, 239), (179, 0, 4039), (180, 0, 99), (181, 0, 999)]
def a_x112 : List AV := [a_r [8], a_i (-2147483648) 2147483647, a_i (-2147483648) 2147483647]
set_option maxRecDepth 100000 in
theorem a_c112 : (a_rok 112 a_x112 && a_an a_w112 (a_orc a_w112) 60 112 [] (a_ent 112 a_x112) (.mulL 4 (.num 0))) = true := by decide +kernel
/-- X11_held -/
def a_w113 : AW := [(170, 0, 7), (171, 0, 6), (172, 0, 39), (173, 0, 39), (174, 0, 39), (175, 0, 159), (176, 0, 39), (177, 0, 239), (178, 0, 239), (179, 0, 4039)]
def a_x113 : List AV := [a_r [8], a_i (-2147483648) 2147483647, a_i (-2147483648) 2147483647, a_i (-2147483648) 2147483647]
set_option maxRecDepth 100000 in
theorem a_c113 : (a_rok 113 a_x113 && a_an a_w113 (a_orc a_w113) 60 113 [] (a_ent 113 a_x113) (.mulL 4 (.num 0))) = true := by decide +kernel
/-- X11_box -/
def a_w114 : AW := [(37, 0, 4), (38, 0, 4), (39, 0, 4), (40, 0, 4), (41, 0, 4), (42, 0, 4), (43, 0, 4), (44, 0, 4), (45, 0, 4), (46, 0, 4), (47, 0, 4), (48, 0, 4), (49, 0, 4), (50, 0, 4), (51, 0, 4), (52, 0, 4), (53, 0, 4), (54, 0, 4), (55, 0, 4), (56, 0, 4), (57, 0, 4), (58, 0, 4), (59, 0, 4), (60, 0, 4), (61, 0, 4), (62, 0, 4), (63, 0, 4), (64, 0, 4), (65, 0, 4), (66, 0, 4), (67, 0, 4), (68, 0, 4), (69, 0, 4), (70, 0, 4), (71, 0, 4), (72, 0, 4), (73, 0, 4), (74, 0, 4), (75, 0, 4), (76, 0, 4)]
def a_x114 : List AV := [a_r [8], a_i (-2147483648) 2147483647, a_i (-2147483648) 2147483647, a_i (-2147483648) 2147483647]
set_option maxRecDepth 100000 in
theorem a_c114 : (a_rok 114 a_x114 && a_an a_w114 (a_orc a_w114) 60 114 [] (a_ent 114 a_x114) (.mulL 4 (.num 0))) = true := by decide +kernel
/-- X11_seek -/
def a_w115 : AW := [(37, 0, 4), (38, 0, 4), (39, 0, 4), (40, 0, 4), (41, 0, 4), (42, 0, 4), (43, 0, 4), (44, 0, 4), (45, 0, 4), (46, 0, 4), (47, 0, 4), (48, 0, 4), (49, 0, 4), (50, 0, 4), (51, 0, 4), (52, 0, 4), (53, 0, 4), (54, 0, 4), (55, 0, 4), (56, 0, 4), (57, 0, 4), (58, 0, 4), (59, 0, 4), (60, 0, 4), (61, 0, 4), (62, 0, 4), (63, 0, 4), (64, 0, 4), (65, 0, 4), (66, 0, 4), (67, 0, 4), (68, 0, 4), (69, 0, 4), (70, 0, 4), (71, 0, 4), (72, 0, 4), (73, 0, 4), (74, 0, 4), (75, 0, 4), (76, 0, 4), (170, 0, 7), (171, 0, 6), (172, 0, 39), (173, 0, 39), (174, 0, 39), (175, 0, 159), (176, 0, 39), (177, 0, 239), (178, 0, 239), (179, 0, 4039), (180, 0, 99), (181, 0, 999)]
def a_x115 : List AV := [a_r [8], a_i (-2147483648) 2147483647, a_i (-2147483648) 2147483647]
set_option maxRecDepth 100000 in
theorem a_c115 : (a_rok 115 a_x115 && a_an a_w115 (a_orc a_w115) 60 115 [] (a_ent 115 a_x115) (.mulL 4 (.num 0))) = true := by decide +kernel
/-- X11_led -/
def a_w116 : AW := [(170, 0, 7), (171, 0, 6), (172, 0, 39), (173, 0, 39), (174, 0, 39), (175, 0, 159), (176, 0, 39), (177, 0, 239), (178, 0, 239), (179, 0, 4039), (180, 0, 99), (181, 0, 999), (182, 0, 4)]
def a_x116 : List AV := [a_r [8], a_i (-2147483648) 2147483647, a_i (-2147483648) 2147483647, a_i (-2147483648) 2147483647]
set_option maxRecDepth 100000 in
theorem a_c116 : (a_rok 116 a_x116 && a_an a_w116 (a_orc a_w116) 60 116 [] (a_ent 116 a_x116) (.mulL 4 (.num 0))) = true := by decide +kernel
/-- X11_lies -/
def a_w117 : AW := [(23, 0, 39), (24, 0, 39)]
def a_x117 : List AV := [a_r [8], a_i (-2147483648) 2147483647, a_i (-2147483648) 2147483647, a_i (-2147483648) 2147483647]
set_option maxRecDepth 100000 in
theorem a_c117 : (a_rok 117 a_x117 && a_an a_w117 (a_orc a_w117) 60 117 [] (a_ent 117 a_x117) (.mulL 4 (.num 0))) = true := by decide +kernel
/-- X11_wall -/
def a_w118 : AW := [(27, 0, 9), (28, 0, 9), (29, 0, 9)]
def a_x118 : List AV := [a_r [8], a_i (-2147483648) 2147483647, a_i (-2147483648) 2147483647, a_i (-2147483648) 2147483647, a_i (-2147483648) 2147483647]
set_option maxRecDepth 100000 in
theorem a_c118 : (a_rok 118 a_x118 && a_an a_w118 (a_orc a_w118) 60 118 [] (a_ent 118 a_x118) (.mulL 4 (.num 0))) = true := by decide +kernel
/-- X11_sun -/
def a_w119 : AW := [(30, 0, 11), (31, 0, 11)]
def a_x119 : List AV := [a_r [8], a_i (-2147483648) 2147483647, a_i (-2147483648) 2147483647, a_i (-2147483648) 2147483647]
set_option maxRecDepth 100000 in
theorem a_c119 : (a_rok 119 a_x119 && a_an a_w119 (a_orc a_w119) 60 119 [] (a_ent 119 a_x119) (.mulL 4 (.num 0))) = true := by decide +kernel
/-- X11_lit -/
def a_w120 : AW := [(191, 0, 239)]
def a_x120 : List AV := [a_r [8], a_i (-2147483648) 2147483647, a_i (-2147483648) 2147483647]
set_option maxRecDepth 100000 in
theorem a_c120 : (a_rok 120 a_x120 && a_an a_w120 (a_orc a_w120) 60 120 [] (a_ent 120 a_x120) (.mulL 4 (.num 0))) = true := by decide +kernel
/-- X11_sky -/
def a_w121 : AW := [(26, 6, 7), (32, 0, 119)]
def a_x121 : List AV := [a_r [8], a_i (-2147483648) 2147483647]
set_option maxRecDepth 100000 in
theorem a_c121 : (a_rok 121 a_x121 && a_an a_w121 (a_orc a_w121) 60 121 [] (a_ent 121 a_x121) (.mulL 4 (.num 0))) = true := by decide +kernel
/-- X11_strength -/
def a_w122 : AW := []
def a_x122 : List AV := [a_r [8], a_i (-2147483648) 2147483647, a_i (-2147483648) 2147483647]
set_option maxRecDepth 100000 in
theorem a_c122 : (a_rok 122 a_x122 && a_an a_w122 (a_orc a_w122) 60 122 [] (a_ent 122 a_x122) (.mulL 4 (.num 0))) = true := by decide +kernel
/-- X11_hour -/
def a_w123 : AW := [(170, 0, 7), (171, 0, 6), (172, 0, 39), (173, 0, 39), (174, 0, 39), (175, 0, 159), (176, 0, 39), (177, 0, 239), (178, 0, 239), (179, 0, 4039), (180, 0, 99), (181, 0, 999), (191, 0, 239)]
def a_x123 : List AV := [a_r [8], a_i (-2147483648) 2147483647, a_i (-2147483648) 2147483647, a_i (-2147483648) 2147483647]
set_option maxRecDepth 100000 in
theorem a_c123 : (a_rok 123 a_x123 && a_an a_w123 (a_orc a_w123) 60 123 [] (a_ent 123 a_x123) (.mulL 4 (.num 0))) = true := by decide +kernel
/-- X11_day -/
def a_w124 : AW := [(170, 0, 7), (171, 0, 6), (172, 0, 39), (173, 0, 39), (174, 0, 39), (175, 0, 159), (176, 0, 39), (177, 0, 239), (178, 0, 239), (179, 0, 4039), (180, 0, 99), (181, 0, 999), (191, 0, 239)]
def a_x124 : List AV := [a_r [8], a_i (-2147483648) 2147483647, a_i (-2147483648) 2147483647]
set_option maxRecDepth 100000 in
theorem a_c124 : (a_rok 124 a_x124 && a_an a_w124 (a_orc a_w124) 60 124 [] (a_ent 124 a_x124) (.mulL 4 (.num 0))) = true := by decide +kernel
/-- X11_wash -/
def a_w125 : AW := [(183, 0, 0), (184, 0, 30), (185, 0, 30), (186, 0, 30)]
def a_x125 : List AV := [a_r [8], a_i (-2147483648) 2147483647, a_i (-2147483648) 2147483647]
set_option maxRecDepth 100000 in
theorem a_c125 : (a_rok 125 a_x125 && a_an a_w125 (a_orc a_w125) 60 125 [] (a_ent 125 a_x125) (.mulL 4 (.num 0))) = true := by decide +kernel
/-- X11_washed -/
def a_w126 : AW := [(183, 0, 0), (184, 0, 30), (185, 0, 30), (186, 0, 30)]
def a_x126 : List AV := [a_r [8], a_i (-2147483648) 2147483647, a_i (-2147483648) 2147483647, a_i (-2147483648) 2147483647]
set_option maxRecDepth 100000 in
theorem a_c126 : (a_rok 126 a_x126 && a_an a_w126 (a_orc a_w126) 60 126 [] (a_ent 126 a_x126) (.mulL 4 (.num 0))) = true := by decide +kernel
/-- X11_trade -/
def a_w128 : AW := [(34, 0, 11), (35, 0, 11)]
def a_x128 : List AV := [a_r [8], a_i (-2147483648) 2147483647, a_i (-2147483648) 2147483647]
set_option maxRecDepth 100000 in
theorem a_c128 : (a_rok 128 a_x128 && a_an a_w128 (a_orc a_w128) 60 128 [] (a_ent 128 a_x128) (.mulL 4 (.num 0))) = true := by decide +kernel
/-- X11_room -/
def a_w129 : AW := [(33, 2, 2)]
def a_x129 : List AV := [a_r [8], a_i (-2147483648) 2147483647]
set_option maxRecDepth 100000 in
theorem a_c129 : (a_rok 129 a_x129 && a_an a_w129 (a_orc a_w129) 60 129 [] (a_ent 129 a_x129) (.mulL 4 (.num 0))) = true := by decide +kernel
/-- X11_sells -/
def a_w130 : AW := [(36, 0, 402)]
def a_x130 : List AV := [a_r [8], a_i (-2147483648) 2147483647]
set_option maxRecDepth 100000 in
theorem a_c130 : (a_rok 130 a_x130 && a_an a_w130 (a_orc a_w130) 60 130 [] (a_ent 130 a_x130) (.mulL 4 (.num 0))) = true := by decide +kernel
/-- X11_without -/
def a_w131 : AW := [(170, 0, 7), (171, 0, 6), (172, 0, 39), (173, 0, 39), (174, 0, 39), (175, 0, 159), (176, 0, 39), (177, 0, 239), (178, 0, 239), (179, 0, 4039), (180, 0, 99), (181, 0, 999)]
def a_x131 : List AV := [a_r [8], a_i (-2147483648) 2147483647, a_i (-2147483648) 2147483647]
set_option maxRecDepth 100000 in
theorem a_c131 : (a_rok 131 a_x131 && a_an a_w131 (a_orc a_w131) 60 131 [] (a_ent 131 a_x131) (.mulL 4 (.num 0))) = true := by decide +kernel
/-- X11_faults -/
def a_w133 : AW := [(170, 0, 7), (171, 0, 6), (172, 0, 39), (173, 0, 39), (174, 0, 39), (175, 0, 159), (176, 0, 39)]
def a_x133 : List AV := [a_r [8], a_i (-2147483648) 2147483647]
set_option maxRecDepth 100000 in
theorem a_c133 : (a_rok 133 a_x133 && a_an a_w133 (a_orc a_w133) 60 133 [] (a_ent 133 a_x133) (.mulL 4 (.num 0))) = true := by decide +kernel
/-- X11_fits -/
def a_w134 : AW := [(170, 0, 7), (171, 0, 6), (172, 0, 39), (173, 0, 39), (174, 0, 39), (175, 0, 159), (176, 0, 39), (177, 0, 239), (178, 0, 239), (179, 0, 4039), (180, 0, 99), (181, 0, 999), (187, 0, 0), (188, 0, 80), (189, 0, 9800)]
def a_x134 : List AV := [a_r [8], a_i (-2147483648) 2147483647, a_i (-2147483648) 2147483647, a_i (-2147483648) 2147483647]
set_option maxRecDepth 100000 in
theorem a_c134 : (a_rok 134 a_x134 && a_an a_w134 (a_orc a_w134) 60 134 [] (a_ent 134 a_x134) (.mulL 4 (.num 0))) = true := by decide +kernel
/-- X11_look -/
def a_w135 : AW := [(170, 0, 7), (171, 0, 6), (172, 0, 39), (173, 0, 39), (174, 0, 39), (175, 0, 159), (176, 0, 39), (177, 0, 239), (178, 0, 239), (179, 0, 4039), (180, 0, 99), (181, 0, 999), (187, 0, 0), (188, 0, 80), (189, 0, 9800), (190, 0, 599)]
def a_x135 : List AV := [a_r [8], a_i (-2147483648) 2147483647, a_i (-2147483648) 2147483647]
set_option maxRecDepth 100000 in
theorem a_c135 : (a_rok 135 a_x135 && a_an a_w135 (a_orc a_w135) 60 135 [] (a_ent 135 a_x135) (.mulL 4 (.num 0))) = true := by decide +kernel
/-- X11_image -/
def a_w136 : AW := [(8, 2, 2), (78, 0, 0), (79, 0, 39), (80, 0, 39), (81, 0, 39), (82, 0, 39), (83, 0, 319), (84, 0, 319), (85, 0, 319), (87, 0, 239), (88, 0, 239), (89, 0, 159), (90, 0, 39), (91, 0, 39), (92, 0, 39), (94, 6, 7), (95, 0, 9), (96, 0, 9), (97, 0, 9), (98, 0, 11), (99, 0, 11), (100, 0, 119), (101, 2, 2), (102, 0, 11), (103, 0, 11), (105, 0, 4), (106, 0, 4), (107, 0, 4), (108, 0, 4), (109, 0, 4), (110, 0, 4), (111, 0, 4), (112, 0, 4), (113, 0, 4), (114, 0, 4), (115, 0, 4), (116, 0, 4), (117, 0, 4), (118, 0, 4), (119, 0, 4), (120, 0, 4), (121, 0, 4), (122, 0, 4), (123, 0, 4), (124, 0, 4), (125, 0, 4), (126, 0, 4), (127, 0, 4), (128, 0, 4), (129, 0, 4), (130, 0, 4), (131, 0, 4), (132, 0, 4), (133, 0, 4), (134, 0, 4), (135, 0, 4), (136, 0, 4), (137, 0, 4), (138, 0, 4), (139, 0, 4), (140, 0, 4), (141, 0, 4), (142, 0, 4), (143, 0, 4), (144, 0, 4)]
def a_x136 : List AV := [a_r [8]]
set_option maxRecDepth 100000 in
theorem a_c136 : (a_rok 136 a_x136 && a_an a_w136 (a_orc a_w136) 60 136 [] (a_ent 136 a_x136) (.mulL 4 (.num 0))) = true := by decide +kernel
/-- X11_restore -/
def a_w137 : AW := [(10, 0, 0), (11, 0, 39), (12, 0, 39), (13, 0, 39), (14, 0, 39), (15, 0, 319), (16, 0, 319), (17, 0, 319), (19, 0, 239), (20, 0, 239), (21, 0, 159), (22, 0, 39), (23, 0, 39), (24, 0, 39), (26, 6, 7), (27, 0, 9), (28, 0, 9), (29, 0, 9), (30, 0, 11), (31, 0, 11), (32, 0, 119), (33, 2, 2), (34, 0, 11), (35, 0, 11), (37, 0, 4), (38, 0, 4), (39, 0, 4), (40, 0, 4), (41, 0, 4), (42, 0, 4), (43, 0, 4), (44, 0, 4), (45, 0, 4), (46, 0, 4), (47, 0, 4), (48, 0, 4), (49, 0, 4), (50, 0, 4), (51, 0, 4), (52, 0, 4), (53, 0, 4), (54, 0, 4), (55, 0, 4), (56, 0, 4), (57, 0, 4), (58, 0, 4), (59, 0, 4), (60, 0, 4), (61, 0, 4), (62, 0, 4), (63, 0, 4), (64, 0, 4), (65, 0, 4), (66, 0, 4), (67, 0, 4), (68, 0, 4), (69, 0, 4), (70, 0, 4), (71, 0, 4), (72, 0, 4), (73, 0, 4), (74, 0, 4), (75, 0, 4), (76, 0, 4)]
def a_x137 : List AV := [a_r [8]]
set_option maxRecDepth 100000 in
theorem a_c137 : (a_rok 137 a_x137 && a_an a_w137 (a_orc a_w137) 60 137 [] (a_ent 137 a_x137) (.mulL 4 (.num 0))) = true := by decide +kernel
/-- X11_count -/
def a_w138 : AW := []
def a_x138 : List AV := [a_r [8], a_i (-2147483648) 2147483647]
set_option maxRecDepth 100000 in
theorem a_c138 : (a_rok 138 a_x138 && a_an a_w138 (a_orc a_w138) 60 138 [] (a_ent 138 a_x138) (.mulL 4 (.num 0))) = true := by decide +kernel
/-- X11_keep -/
def a_w139 : AW := [(146, 0, 3), (148, 0, 3), (150, 0, 3), (152, 0, 3), (154, 0, 3), (156, 0, 3), (158, 0, 3), (160, 0, 3), (170, 0, 7), (171, 0, 6), (172, 0, 39), (173, 0, 39), (174, 0, 39), (175, 0, 159), (176, 0, 39), (177, 0, 239), (178, 0, 239), (179, 0, 4039), (180, 0, 99), (181, 0, 999)]
def a_x139 : List AV := [a_r [8], a_i (-2147483648) 2147483647, a_i (-2147483648) 2147483647, a_i (-2147483648) 2147483647]
set_option maxRecDepth 100000 in
theorem a_c139 : (a_rok 139 a_x139 && a_an a_w139 (a_orc a_w139) 60 139 [] (a_ent 139 a_x139) (.mulL 4 (.num 0))) = true := by decide +kernel
/-- X11_row -/
def a_w140 : AW := [(146, 0, 5), (147, 0, 119), (148, 0, 5), (149, 0, 119), (150, 0, 5), (151, 0, 119), (152, 0, 5), (153, 0, 119), (154, 0, 5), (155, 0, 119), (156, 0, 5), (157, 0, 119), (158, 0, 5), (159, 0, 119), (160, 0, 5), (161, 0, 119)]
def a_x140 : List AV := [a_r [8], a_i (-2147483648) 2147483647, a_i (-2147483648) 2147483647, a_i (-2147483648) 2147483647]
set_option maxRecDepth 100000 in
theorem a_c140 : (a_rok 140 a_x140 && a_an a_w140 (a_orc a_w140) 60 140 [] (a_ent 140 a_x140) (.mulL 4 (.num 0))) = true := by decide +kernel
/-- X11_put -/
def a_w141 : AW := [(147, 0, 119), (149, 0, 119), (151, 0, 119), (153, 0, 119), (155, 0, 119), (157, 0, 119), (159, 0, 119), (161, 0, 119)]
def a_x141 : List AV := [a_r [8], a_i (-2147483648) 2147483647, a_i (-2147483648) 2147483647, a_i (-2147483648) 2147483647]
set_option maxRecDepth 100000 in
theorem a_c141 : (a_rok 141 a_x141 && a_an a_w141 (a_orc a_w141) 60 141 [] (a_ent 141 a_x141) (.mulL 4 (.num 0))) = true := by decide +kernel
/-- X11_weight -/
def a_w144 : AW := []
def a_x144 : List AV := [a_r [8], a_i (-2147483648) 2147483647]
set_option maxRecDepth 100000 in
theorem a_c144 : (a_rok 144 a_x144 && a_an a_w144 (a_orc a_w144) 60 144 [] (a_ent 144 a_x144) (.mulL 4 (.num 0))) = true := by decide +kernel
/-- X11_toss -/
def a_w145 : AW := []
def a_x145 : List AV := [a_r [8], a_i (-2147483648) 2147483647]
set_option maxRecDepth 100000 in
theorem a_c145 : (a_rok 145 a_x145 && a_an a_w145 (a_orc a_w145) 60 145 [] (a_ent 145 a_x145) (.mulL 4 (.num 0))) = true := by decide +kernel
/-- X0_spread -/
def a_w1 : AW := [(170, 0, 7), (171, 0, 6), (172, 0, 39), (173, 0, 39), (174, 0, 39), (175, 0, 159), (176, 0, 39)]
def a_x1 : List AV := [a_r [170], a_i (-2147483648) 2147483647]
set_option maxRecDepth 100000 in
theorem a_c1 : (a_rok 1 a_x1 && a_an a_w1 (a_orc a_w1) 60 1 [] (a_ent 1 a_x1) (.mulL 4 (.num 0))) = true := by decide +kernel
/-- X0_pushAt -/
def a_w16 : AW := [(170, 6, 6), (177, 0, 239), (178, 0, 239), (179, 0, 4039), (180, 0, 99), (181, 0, 999)]
def a_x16 : List AV := [a_r [170], a_i (-2147483648) 2147483647]
set_option maxRecDepth 100000 in
theorem a_c16 : (a_rok 16 a_x16 && a_an a_w16 (a_orc a_w16) 60 16 [] (a_ent 16 a_x16) (.mulL 4 (.num 0))) = true := by decide +kernel
/-- X11_isPart -/
def a_w149 : AW := []
def a_x149 : List AV := [a_r [8], a_i (-2147483648) 2147483647]
set_option maxRecDepth 100000 in
theorem a_c149 : (a_rok 149 a_x149 && a_an a_w149 (a_orc a_w149) 60 149 [] (a_ent 149 a_x149) (.mulL 4 (.num 0))) = true := by decide +kernel
/-- X11_bestWithout -/
def a_w160 : AW := [(170, 0, 7), (171, 0, 6), (172, 0, 39), (173, 0, 39), (174, 0, 39), (175, 0, 159), (176, 0, 39), (177, 0, 239), (178, 0, 239), (179, 0, 4039), (180, 0, 99), (181, 0, 999)]
def a_x160 : List AV := [a_r [8], a_i (-2147483648) 2147483647, a_i (-2147483648) 2147483647]
set_option maxRecDepth 100000 in
theorem a_c160 : (a_rok 160 a_x160 && a_an a_w160 (a_orc a_w160) 60 160 [] (a_ent 160 a_x160) (.mulL 4 (.num 0))) = true := by decide +kernel
/-- X11_shelfAt -/
def a_w154 : AW := []
def a_x154 : List AV := [a_r [8], a_i (-2147483648) 2147483647]
set_option maxRecDepth 100000 in
theorem a_c154 : (a_rok 154 a_x154 && a_an a_w154 (a_orc a_w154) 60 154 [] (a_ent 154 a_x154) (.mulL 4 (.num 0))) = true := by decide +kernel
/-- X11_refusalOfRow -/
def a_w156 : AW := []
def a_x156 : List AV := [a_r [(-1), 146, 148, 150, 152, 154, 156, 158, 160], a_i (-2147483648) 2147483647]
set_option maxRecDepth 100000 in
theorem a_c156 : (a_rok 156 a_x156 && a_an a_w156 (a_orc a_w156) 60 156 [] (a_ent 156 a_x156) (.mulL 4 (.num 0))) = true := by decide +kernel
/-- X11_tellsCells -/
def a_w163 : AW := []
def a_x163 : List AV := [a_r [8], a_r [146, 148, 150, 152, 154, 156, 158, 160]]
set_option maxRecDepth 100000 in
theorem a_c163 : (a_rok 163 a_x163 && a_an a_w163 (a_orc a_w163) 60 163 [] (a_ent 163 a_x163) (.mulL 4 (.num 0))) = true := by decide +kernel
/-- X5_goOn -/
def a_w60 : AW := [(162, 2, 8), (163, 0, 119), (164, 0, 119), (165, 0, 120), (166, 0, 119), (167, 0, 119), (168, 0, 119), (169, 0, 119)]
def a_x60 : List AV := [a_r [162], a_i (-2147483648) 2147483647]
set_option maxRecDepth 100000 in
theorem a_c60 : (a_rok 60 a_x60 && a_an a_w60 (a_orc a_w60) 60 60 [] (a_ent 60 a_x60) (.mulL 4 (.num 0))) = true := by decide +kernel
/-- X0_clear -/
def a_w3 : AW := [(170, 0, 5), (172, 0, 39)]
def a_x3 : List AV := [a_r [170]]
set_option maxRecDepth 100000 in
theorem a_c3 : (a_rok 3 a_x3 && a_an a_w3 (a_orc a_w3) 60 3 [] (a_ent 3 a_x3) (.mulL 4 (.num 0))) = true := by decide +kernel
/-- X0_addCell -/
def a_w5 : AW := [(170, 0, 0), (173, 0, 39), (174, 0, 39), (175, 0, 159), (176, 0, 39)]
def a_x5 : List AV := [a_r [170], a_i (-2147483648) 2147483647, a_i (-2147483648) 2147483647]
set_option maxRecDepth 100000 in
theorem a_c5 : (a_rok 5 a_x5 && a_an a_w5 (a_orc a_w5) 60 5 [] (a_ent 5 a_x5) (.mulL 4 (.num 0))) = true := by decide +kernel
/-- X0_drawAll -/
def a_w11 : AW := [(177, 0, 239), (178, 0, 239), (179, 0, 4039)]
def a_x11 : List AV := [a_r [170]]
set_option maxRecDepth 100000 in
theorem a_c11 : (a_rok 11 a_x11 && a_an a_w11 (a_orc a_w11) 60 11 [] (a_ent 11 a_x11) (.mulL 4 (.num 0))) = true := by decide +kernel
/-- X0_addChosen -/
def a_w28 : AW := [(180, 0, 99), (181, 0, 999)]
def a_x28 : List AV := [a_r [170], a_i (-2147483648) 2147483647]
set_option maxRecDepth 100000 in
theorem a_c28 : (a_rok 28 a_x28 && a_an a_w28 (a_orc a_w28) 60 28 [] (a_ent 28 a_x28) (.mulL 4 (.num 0))) = true := by decide +kernel
/-- X0_chooseBest -/
def a_w22 : AW := [(170, 1, 2)]
def a_x22 : List AV := [a_r [170]]
set_option maxRecDepth 100000 in
theorem a_c22 : (a_rok 22 a_x22 && a_an a_w22 (a_orc a_w22) 60 22 [] (a_ent 22 a_x22) (.mulL 4 (.num 0))) = true := by decide +kernel
