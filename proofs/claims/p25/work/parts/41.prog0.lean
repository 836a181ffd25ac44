/-- X0_spread, 0 -/
def e_t1_0 : e_X := .add (.mulL 102 (.mulR (.mulR (.var 0) 3) 192)) (.add (.mulL 5003 (.var 0)) (.add (.mulL 103 (.sub (.mulL 40 (.add (.mulL 5146 (.add (.mulR (.var 2) 257) (.var 1))) (.num 3))) (.add (.mulL (-25) (.num 1)) (.mulL (-29) (.num 0))))) (.add (.mulL 104 (.sub (.mulL 47 (.var 3)) (.add (.mulL (-35) (.mulL 5146 (.add (.mulR (.var 2) 261) (.mulL 12 (.add (.var 1) (.num 8)))))) (.mulL (-49) (.var 1))))) (.add (.mulR (.add (.var 0) (.sub (.mulL 40 (.add (.mulL 5146 (.add (.mulR (.var 2) 257) (.var 4))) (.num 2))) (.add (.mulL (-66) (.num 1)) (.mulL (-70) (.num 0))))) 7) (.sub (.mulL 46 (.mulR (.var 0) 7)) (.add (.mulL (-81) (.add (.mulL 5004 (.add (.var 0) (.var 4))) (.mulL 2 (.num 0)))) (.mulL (-88) (.add (.mulL 105 (.mulL 5146 (.add (.mulR (.var 2) 260) (.var 4)))) (.add (.mulL 106 (.num 0)) (.mulL 4 (.num 101)))))))))))
/-- X0_spread, 101 -/
def e_t1_101 : e_X := .sub (.mulL 42 (.add (.var 6) (.var 5))) (.add (.mulL (-109) (.add (.mulL 5004 (.add (.var 0) (.mulL 5146 (.add (.mulR (.var 2) 261) (.mulL 10 (.add (.mulL 12 (.add (.var 4) (.num 8))) (.var 6))))))) (.add (.mulL 206 (.num 1)) (.mulL 4 (.num 101))))) (.mulL (-134) (.mulL 2 (.num 0))))
def e_p1 : List (Nat × List (Nat × Nat) × e_X) := [(0, [(0, 2), (1, 0)], e_t1_0), (101, [(0, 2), (1, 0), (2, 2), (3, 3), (4, 0), (5, 0), (6, 0)], e_t1_101)]
/-- X0_spreadTold, 0 -/
def e_t2_0 : e_X := .add (.mulL 5003 (.var 0)) (.add (.mulL 102 (.num 0)) (.mulL 4 (.num 6)))
/-- X0_spreadTold, 6 -/
def e_t2_6 : e_X := .sub (.mulL 42 (.add (.var 2) (.mulR (.var 1) 517))) (.add (.mulL (-15) (.add (.mulL 5005 (.add (.var 0) (.add (.mulL 5146 (.add (.mulR (.var 1) 518) (.var 2))) (.var 2)))) (.add (.mulL 202 (.num 1)) (.mulL 4 (.num 6))))) (.mulL (-34) (.mulL 2 (.num 0))))
def e_p2 : List (Nat × List (Nat × Nat) × e_X) := [(0, [(0, 2), (1, 2)], e_t2_0), (6, [(0, 2), (1, 2), (2, 0)], e_t2_6)]
/-- X0_clear, 0 -/
def e_t3_0 : e_X := .add (.mulR (.add (.var 0) (.num 0)) 0) (.add (.mulR (.add (.var 0) (.num 0)) 4) (.add (.mulR (.add (.var 0) (.num 0)) 5) (.add (.mulL 5270 (.add (.mulR (.var 0) 9) (.num 0))) (.mulL 2 (.num 0)))))
def e_p3 : List (Nat × List (Nat × Nat) × e_X) := [(0, [(0, 2)], e_t3_0)]
/-- X0_addLine, 0 -/
def e_t4_0 : e_X := .add (.mulL 102 (.mulR (.mulR (.var 0) 3) 192)) (.sub (.mulL 46 (.mulL 5146 (.add (.mulR (.var 2) 257) (.var 1)))) (.add (.mulL (-20) (.add (.mulL 5005 (.add (.var 0) (.add (.var 1) (.mulR (.var 0) 4)))) (.add (.mulL 67 (.mulR (.add (.var 0) (.num 1)) 4)) (.mulL 4 (.num 140))))) (.mulL (-42) (.add (.mulL 103 (.mulL 5146 (.add (.mulR (.var 2) 260) (.var 1)))) (.add (.mulL 104 (.num 0)) (.mulL 4 (.num 53)))))))
/-- X0_addLine, 53 -/
def e_t4_53 : e_X := .sub (.mulL 42 (.add (.var 4) (.var 3))) (.add (.mulL (-60) (.add (.mulL 105 (.mulL 10 (.add (.mulL 12 (.add (.var 1) (.num 8))) (.var 4)))) (.add (.mulL 106 (.mulL 10 (.add (.mulR (.var 0) 4) (.mulL 5146 (.add (.mulR (.var 2) 262) (.var 5)))))) (.add (.mulL 5147 (.add (.mulR (.var 0) 9) (.add (.var 6) (.mulL 5146 (.add (.mulR (.var 2) 263) (.var 5)))))) (.add (.mulL 5005 (.add (.var 0) (.add (.mulL 5146 (.add (.mulR (.var 2) 261) (.var 5))) (.var 6)))) (.add (.mulL 204 (.num 1)) (.mulL 4 (.num 53)))))))) (.mulL (-124) (.add (.mulL 67 (.mulR (.add (.var 0) (.mulL 5146 (.add (.mulR (.var 2) 258) (.var 1)))) 4)) (.mulL 4 (.num 140)))))
/-- X0_addLine, 140 -/
def e_t4_140 : e_X := .add (.mulL 67 (.mulR (.add (.var 0) (.num 1)) 5)) (.add (.mulL 5147 (.add (.mulR (.var 0) 8) (.add (.mulR (.var 0) 5) (.mulR (.var 0) 0)))) (.mulL 2 (.num 0)))
def e_p4 : List (Nat × List (Nat × Nat) × e_X) := [(0, [(0, 2), (1, 0)], e_t4_0), (53, [(0, 2), (1, 0), (2, 2), (3, 0), (4, 0)], e_t4_53), (140, [(0, 2), (1, 0), (2, 2)], e_t4_140)]
/-- X0_addCell, 0 -/
def e_t5_0 : e_X := .add (.mulL 5147 (.add (.mulR (.var 0) 11) (.add (.mulR (.var 0) 0) (.var 1)))) (.add (.mulL 5147 (.add (.mulR (.var 0) 10) (.add (.mulR (.var 0) 0) (.var 2)))) (.add (.mulL 5147 (.add (.mulR (.var 0) 13) (.add (.mulR (.var 0) 0) (.mulL 5146 (.add (.mulR (.mulR (.mulR (.var 0) 3) 193) 67) (.var 1)))))) (.add (.mulL 103 (.num 0)) (.mulL 4 (.num 51)))))
/-- X0_addCell, 51 -/
def e_t5_51 : e_X := .sub (.mulL 42 (.add (.var 3) (.num 4))) (.add (.mulL (-57) (.add (.mulL 5147 (.add (.mulR (.var 0) 12) (.add (.mulL 10 (.add (.mulL 12 (.add (.mulR (.var 0) 0) (.num 4))) (.var 3))) (.mulL 5146 (.add (.mulR (.mulR (.mulR (.var 0) 3) 193) 66) (.mulL 10 (.add (.mulL 12 (.add (.var 1) (.num 4))) (.var 3)))))))) (.add (.mulL 203 (.num 1)) (.mulL 4 (.num 51))))) (.mulL (-96) (.add (.mulL 67 (.mulR (.add (.var 0) (.num 1)) 0)) (.mulL 2 (.num 0)))))
def e_p5 : List (Nat × List (Nat × Nat) × e_X) := [(0, [(0, 2), (1, 0), (2, 0)], e_t5_0), (51, [(0, 2), (1, 0), (2, 0), (3, 0)], e_t5_51)]
/-- X0_diodes, 0 -/
def e_t6_0 : e_X := .add (.mulL 101 (.num 0)) (.add (.mulL 102 (.num 0)) (.mulL 4 (.num 4)))
/-- X0_diodes, 4 -/
def e_t6_4 : e_X := .sub (.mulL 42 (.add (.var 2) (.mulR (.var 0) 4))) (.add (.mulL (-13) (.add (.mulL 101 (.mulL 10 (.add (.var 1) (.mulL 5146 (.add (.mulR (.var 0) 9) (.var 2)))))) (.add (.mulL 202 (.num 1)) (.mulL 4 (.num 4))))) (.mulL (-30) (.mulL 1 (.var 1))))
def e_p6 : List (Nat × List (Nat × Nat) × e_X) := [(0, [(0, 2)], e_t6_0), (4, [(0, 2), (1, 0), (2, 0)], e_t6_4)]
/-- X0_takeOff, 0 -/
def e_t7_0 : e_X := .add (.mulL 102 (.num 0)) (.mulL 4 (.num 2))
/-- X0_takeOff, 2 -/
def e_t7_2 : e_X := .sub (.mulL 42 (.add (.var 2) (.mulL 12 (.add (.mulR (.var 0) 0) (.num 4))))) (.add (.mulL (-13) (.add (.mulL 103 (.mulL 14 (.add (.var 2) (.num 4)))) (.sub (.mulL 47 (.mulL 15 (.add (.mulL 19 (.add (.var 1) (.var 3))) (.num 1)))) (.add (.mulL (-25) (.add (.mulL 5147 (.add (.mulR (.var 0) 12) (.add (.var 2) (.sub (.mulL 46 (.var 3)) (.add (.mulL (-34) (.num 100)) (.mulL (-39) (.num 0))))))) (.mulL 4 (.num 42)))) (.mulL (-43) (.mulL 4 (.num 42))))))) (.mulL (-49) (.mulL 2 (.num 0))))
/-- X0_takeOff, 42 -/
def e_t7_42 : e_X := .add (.mulL 202 (.num 1)) (.mulL 4 (.num 2))
def e_p7 : List (Nat × List (Nat × Nat) × e_X) := [(0, [(0, 2), (1, 0)], e_t7_0), (2, [(0, 2), (1, 0), (2, 0)], e_t7_2), (42, [(0, 2), (1, 0), (2, 0), (3, 0)], e_t7_42)]
/-- X0_shine, 0 -/
def e_t8_0 : e_X := .add (.mulL 103 (.num 0)) (.mulL 4 (.num 2))
/-- X0_shine, 2 -/
def e_t8_2 : e_X := .sub (.mulL 42 (.add (.var 3) (.mulR (.var 0) 0))) (.add (.mulL (-11) (.add (.mulL 5147 (.add (.mulR (.var 0) 12) (.add (.mulL 10 (.add (.mulL 12 (.add (.var 3) (.num 4))) (.num 0))) (.mulL 13 (.add (.mulL 12 (.add (.mulL 5038 (.add (.mulR (.mulR (.var 0) 3) 193) (.add (.mulL 5146 (.add (.mulR (.var 0) 11) (.var 3))) (.var 1)))) (.var 2))) (.num 100)))))) (.add (.mulL 203 (.num 1)) (.mulL 4 (.num 2))))) (.mulL (-53) (.mulL 2 (.num 0))))
def e_p8 : List (Nat × List (Nat × Nat) × e_X) := [(0, [(0, 2), (1, 2), (2, 0)], e_t8_0), (2, [(0, 2), (1, 2), (2, 0), (3, 0)], e_t8_2)]
/-- X0_drawPoints, 0 -/
def e_t9_0 : e_X := .add (.mulL 102 (.mulL 12 (.add (.var 1) (.num 4)))) (.add (.mulL 103 (.mulL 5146 (.add (.mulR (.var 0) 12) (.mulL 10 (.add (.var 2) (.num 3)))))) (.add (.mulL 104 (.mulL 13 (.add (.mulL 12 (.add (.mulL 12 (.add (.mulL 5146 (.add (.mulR (.var 0) 12) (.var 2))) (.mulL 11 (.add (.num 100) (.mulL 5146 (.add (.mulR (.var 0) 12) (.mulL 10 (.add (.var 2) (.num 1))))))))) (.mulL 11 (.add (.num 100) (.mulL 5146 (.add (.mulR (.var 0) 12) (.mulL 10 (.add (.var 2) (.num 2))))))))) (.num 10000)))) (.sub (.mulL 47 (.mulL 5146 (.add (.mulR (.var 0) 13) (.var 1)))) (.add (.mulL (-69) (.add (.mulL 104 (.num 0)) (.mulL 4 (.num 71)))) (.mulL (-72) (.mulL 4 (.num 71)))))))
/-- X0_drawPoints, 71 -/
def e_t9_71 : e_X := .add (.mulL 105 (.num 0)) (.mulL 4 (.num 74))
/-- X0_drawPoints, 74 -/
def e_t9_74 : e_X := .sub (.mulL 42 (.add (.var 5) (.num 6))) (.add (.mulL (-82) (.add (.mulL 106 (.mulL 5146 (.add (.mulR (.mulR (.mulR (.var 0) 3) 193) 64) (.mulL 10 (.add (.mulL 12 (.add (.mulL 5146 (.add (.mulR (.var 0) 11) (.var 1))) (.num 6))) (.var 5)))))) (.add (.mulL 107 (.mulL 5146 (.add (.mulR (.mulR (.mulR (.var 0) 3) 193) 65) (.mulL 10 (.add (.mulL 12 (.add (.mulL 5146 (.add (.mulR (.var 0) 11) (.var 1))) (.num 6))) (.var 5)))))) (.add (.mulL 5147 (.add (.mulR (.var 0) 14) (.add (.mulL 10 (.add (.mulL 12 (.add (.var 1) (.num 6))) (.var 5))) (.mulL 11 (.add (.var 6) (.mulL 13 (.add (.mulL 12 (.add (.var 6) (.var 3))) (.num 100)))))))) (.add (.mulL 5147 (.add (.mulR (.var 0) 15) (.add (.mulL 10 (.add (.mulL 12 (.add (.var 1) (.num 6))) (.var 5))) (.mulL 13 (.add (.mulL 12 (.add (.var 7) (.var 4))) (.num 100)))))) (.add (.mulL 205 (.num 1)) (.mulL 4 (.num 74)))))))) (.mulL (-192) (.mulL 2 (.num 0))))
def e_p9 : List (Nat × List (Nat × Nat) × e_X) := [(0, [(0, 2), (1, 0)], e_t9_0), (71, [(0, 2), (1, 0), (2, 0), (3, 0), (4, 0)], e_t9_71), (74, [(0, 2), (1, 0), (2, 0), (3, 0), (4, 0), (5, 0)], e_t9_74)]
/-- X0_drawCell, 0 -/
def e_t10_0 : e_X := .add (.mulL 5009 (.add (.var 0) (.var 1))) (.add (.mulL 102 (.num 0)) (.mulL 4 (.num 7)))
/-- X0_drawCell, 7 -/
def e_t10_7 : e_X := .sub (.mulL 42 (.add (.var 2) (.num 100))) (.add (.mulL (-14) (.add (.mulL 5147 (.add (.mulR (.var 0) 16) (.add (.mulL 10 (.add (.mulL 12 (.add (.var 2) (.num 40))) (.var 1))) (.mulL 5013 (.add (.var 0) (.add (.var 1) (.var 2))))))) (.add (.mulL 202 (.num 1)) (.mulL 4 (.num 7))))) (.mulL (-39) (.mulL 2 (.num 0))))
def e_p10 : List (Nat × List (Nat × Nat) × e_X) := [(0, [(0, 2), (1, 0)], e_t10_0), (7, [(0, 2), (1, 0), (2, 0)], e_t10_7)]
/-- X0_drawAll, 0 -/
def e_t11_0 : e_X := .add (.mulL 101 (.num 0)) (.mulL 4 (.num 2))
/-- X0_drawAll, 2 -/
def e_t11_2 : e_X := .sub (.mulL 42 (.add (.var 1) (.mulR (.var 0) 0))) (.add (.mulL (-11) (.add (.mulL 5010 (.add (.var 0) (.var 1))) (.add (.mulL 201 (.num 1)) (.mulL 4 (.num 2))))) (.mulL (-22) (.mulL 2 (.num 0))))
def e_p11 : List (Nat × List (Nat × Nat) × e_X) := [(0, [(0, 2)], e_t11_0), (2, [(0, 2), (1, 0)], e_t11_2)]
/-- X0_drawColumn, 0 -/
def e_t12_0 : e_X := .add (.mulL 102 (.num 0)) (.mulL 4 (.num 2))
/-- X0_drawColumn, 2 -/
def e_t12_2 : e_X := .sub (.mulL 42 (.add (.var 2) (.mulR (.var 0) 0))) (.add (.mulL (-11) (.add (.mulL 5009 (.add (.var 0) (.var 2))) (.add (.mulL 5147 (.add (.mulR (.var 0) 16) (.add (.mulL 10 (.add (.num 4000) (.var 2))) (.mulL 5013 (.add (.var 0) (.add (.var 2) (.var 1))))))) (.add (.mulL 202 (.num 1)) (.mulL 4 (.num 2)))))) (.mulL (-40) (.mulL 2 (.num 0))))
def e_p12 : List (Nat × List (Nat × Nat) × e_X) := [(0, [(0, 2), (1, 0)], e_t12_0), (2, [(0, 2), (1, 0), (2, 0)], e_t12_2)]
/-- X0_pushOfCell, 0 -/
def e_t13_0 : e_X := .add (.mulL 103 (.mulL 12 (.add (.var 1) (.num 6)))) (.add (.mulL 104 (.mulL 11 (.add (.var 2) (.mulL 5146 (.add (.mulR (.var 0) 15) (.var 3)))))) (.sub (.mulL 50 (.var 4)) (.add (.mulL (-23) (.mulL 1 (.mulL 21 (.mulL 35 (.add (.mulL 12 (.add (.num 2) (.var 4))) (.num 20)))))) (.mulL (-34) (.add (.mulL 105 (.mulL 11 (.add (.mulL 10 (.add (.var 3) (.mulL 5146 (.add (.mulR (.mulR (.mulR (.var 0) 3) 192) 258) (.mulL 5146 (.add (.mulR (.var 0) 11) (.var 1))))))) (.num 1)))) (.mulL 4 (.num 60)))))))
/-- X0_pushOfCell, 60 -/
def e_t13_60 : e_X := .sub (.mulL 44 (.add (.var 5) (.var 3))) (.add (.mulL (-67) (.sub (.sub (.mulL 43 (.add (.var 2) (.mulL 5146 (.add (.mulR (.var 0) 15) (.var 5))))) (.add (.mulL (-80) (.mulL 45 (.add (.var 2) (.mulL 5146 (.add (.mulR (.var 0) 15) (.mulL 11 (.add (.var 5) (.num 1)))))))) (.mulL (-103) (.num 0)))) (.add (.mulL (-95) (.mulL 1 (.mulL 5014 (.add (.var 0) (.add (.var 5) (.var 2)))))) (.mulL (-103) (.add (.mulL 205 (.num (-1))) (.mulL 4 (.num 60))))))) (.mulL (-109) (.mulL 1 (.num 0))))
def e_p13 : List (Nat × List (Nat × Nat) × e_X) := [(0, [(0, 2), (1, 0), (2, 0)], e_t13_0), (60, [(0, 2), (1, 0), (2, 0), (3, 0), (4, 0), (5, 0)], e_t13_60)]
/-- X0_pushBetween, 0 -/
def e_t14_0 : e_X := .add (.mulL 103 (.mulL 5146 (.add (.mulR (.var 0) 14) (.var 1)))) (.add (.mulL 104 (.mulL 11 (.add (.mulL 5146 (.add (.mulR (.var 0) 15) (.mulL 11 (.add (.var 1) (.num 1))))) (.mulL 5146 (.add (.mulR (.var 0) 15) (.var 1)))))) (.sub (.mulL 46 (.var 4)) (.add (.mulL (-36) (.mulL 1 (.var 3))) (.mulL (-38) (.mulL 1 (.mulL 11 (.add (.var 3) (.mulL 13 (.add (.mulL 12 (.add (.mulL 11 (.add (.var 3) (.mulL 5146 (.add (.mulR (.var 0) 14) (.mulL 11 (.add (.var 1) (.num 1))))))) (.mulL 11 (.add (.var 2) (.mulL 5146 (.add (.mulR (.var 0) 15) (.var 1))))))) (.var 4))))))))))
def e_p14 : List (Nat × List (Nat × Nat) × e_X) := [(0, [(0, 2), (1, 0), (2, 0)], e_t14_0)]
/-- X0_pushOfLine, 0 -/
def e_t15_0 : e_X := .add (.mulL 103 (.num 0)) (.add (.mulL 104 (.num 0)) (.add (.mulL 105 (.mulL 5146 (.add (.mulR (.var 0) 8) (.mulL 10 (.add (.var 1) (.num 1)))))) (.add (.mulL 106 (.mulL 5146 (.add (.mulR (.var 0) 8) (.var 1)))) (.mulL 4 (.num 27)))))
/-- X0_pushOfLine, 27 -/
def e_t15_27 : e_X := .sub (.mulL 42 (.add (.var 6) (.var 5))) (.add (.mulL (-35) (.add (.mulL 104 (.mulL 10 (.add (.var 4) (.mulL 5146 (.add (.mulR (.var 0) 16) (.mulL 10 (.add (.var 2) (.var 6)))))))) (.sub (.sub (.mulL 41 (.add (.mulL 10 (.add (.var 6) (.num 1))) (.var 5))) (.add (.mulL (-60) (.mulL 41 (.add (.mulL 5146 (.add (.mulR (.var 0) 10) (.mulL 10 (.add (.var 6) (.num 1))))) (.mulL 5146 (.add (.mulR (.var 0) 10) (.var 6)))))) (.mulL (-83) (.num 1)))) (.add (.mulL (-83) (.add (.mulL 103 (.mulL 10 (.add (.var 3) (.sub (.mulL 47 (.mulL 5146 (.add (.mulR (.var 0) 9) (.mulL 5146 (.add (.mulR (.var 0) 10) (.var 6)))))) (.add (.mulL (-103) (.mulL 34 (.add (.var 4) (.num (-1))))) (.mulL (-112) (.var 4))))))) (.add (.mulL 104 (.num 0)) (.mulL 4 (.num 118))))) (.mulL (-119) (.mulL 4 (.num 118))))))) (.mulL (-125) (.mulL 1 (.var 3))))
/-- X0_pushOfLine, 118 -/
def e_t15_118 : e_X := .add (.mulL 206 (.num 1)) (.mulL 4 (.num 27))
def e_p15 : List (Nat × List (Nat × Nat) × e_X) := [(0, [(0, 2), (1, 0), (2, 0)], e_t15_0), (27, [(0, 2), (1, 0), (2, 0), (3, 0), (4, 0), (5, 0), (6, 0)], e_t15_27), (118, [(0, 2), (1, 0), (2, 0), (3, 0), (4, 0), (5, 0), (6, 0)], e_t15_118)]
/-- X0_pushAt, 0 -/
def e_t16_0 : e_X := .sub (.mulL 46 (.mulR (.var 0) 7)) (.add (.mulL (-8) (.add (.mulL 5012 (.add (.var 0) (.var 1))) (.mulL 1 (.mulL 5015 (.add (.var 0) (.add (.num 0) (.num 4000))))))) (.mulL (-22) (.add (.mulL 5011 (.var 0)) (.add (.mulL 5017 (.add (.var 0) (.add (.num 0) (.num 999)))) (.add (.mulL 102 (.num 999)) (.mulL 4 (.num 37)))))))
/-- X0_pushAt, 37 -/
def e_t16_37 : e_X := .sub (.sub (.mulL 49 (.var 2)) (.add (.mulL (-42) (.mulL 42 (.add (.mulL 5019 (.add (.var 0) (.var 2))) (.var 1)))) (.mulL (-57) (.num 0)))) (.add (.mulL (-51) (.add (.mulL 202 (.num (-1))) (.mulL 4 (.num 37)))) (.mulL (-57) (.mulL 1 (.var 2))))
def e_p16 : List (Nat × List (Nat × Nat) × e_X) := [(0, [(0, 2), (1, 0)], e_t16_0), (37, [(0, 2), (1, 0), (2, 0)], e_t16_37)]
/-- X0_sumCurrents, 0 -/
def e_t17_0 : e_X := .add (.mulR (.add (.var 0) (.var 1)) 6) (.add (.mulL 5270 (.add (.mulR (.var 0) 18) (.num 0))) (.add (.mulL 103 (.num 0)) (.mulL 4 (.num 15))))
/-- X0_sumCurrents, 15 -/
def e_t17_15 : e_X := .sub (.mulL 42 (.add (.var 3) (.mulR (.var 0) 5))) (.add (.mulL (-24) (.add (.mulL 104 (.num 0)) (.mulL 4 (.num 26)))) (.mulL (-71) (.mulL 2 (.num 0))))
/-- X0_sumCurrents, 26 -/
def e_t17_26 : e_X := .sub (.mulL 42 (.add (.var 4) (.num 100))) (.add (.mulL (-34) (.add (.mulL 5147 (.add (.mulR (.var 0) 17) (.add (.var 4) (.mulL 5015 (.add (.var 0) (.add (.var 3) (.mulL 12 (.add (.var 4) (.num 40))))))))) (.add (.mulL 204 (.num 1)) (.mulL 4 (.num 26))))) (.mulL (-59) (.add (.mulL 5018 (.add (.var 0) (.add (.var 1) (.var 2)))) (.add (.mulL 203 (.num 1)) (.mulL 4 (.num 15))))))
def e_p17 : List (Nat × List (Nat × Nat) × e_X) := [(0, [(0, 2), (1, 0), (2, 0)], e_t17_0), (15, [(0, 2), (1, 0), (2, 0), (3, 0)], e_t17_15), (26, [(0, 2), (1, 0), (2, 0), (3, 0), (4, 0)], e_t17_26)]
/-- X0_addLineCurrents, 0 -/
def e_t18_0 : e_X := .add (.mulL 103 (.num 0)) (.add (.mulL 104 (.var 2)) (.mulL 4 (.num 5)))
/-- X0_addLineCurrents, 5 -/
def e_t18_5 : e_X := .sub (.mulL 43 (.add (.var 4) (.var 1))) (.add (.mulL (-12) (.mulL 4 (.num 11))) (.mulL (-71) (.mulL 2 (.num 0))))
/-- X0_addLineCurrents, 11 -/
def e_t18_11 : e_X := .sub (.sub (.mulL 42 (.add (.mulL 10 (.add (.var 3) (.num 1))) (.num 100))) (.add (.mulL (-20) (.mulL 43 (.add (.mulL 5146 (.add (.mulR (.var 0) 17) (.mulL 10 (.add (.var 3) (.num 1))))) (.var 4)))) (.mulL (-41) (.num 0)))) (.add (.mulL (-35) (.add (.mulL 203 (.num 1)) (.mulL 4 (.num 11)))) (.mulL (-41) (.add (.mulL 5147 (.add (.mulR (.var 0) 18) (.add (.mulL 11 (.add (.var 4) (.var 1))) (.mulL 10 (.add (.mulL 5146 (.add (.mulR (.var 0) 18) (.mulL 11 (.add (.var 4) (.var 1))))) (.var 3)))))) (.add (.mulL 204 (.num (-1))) (.mulL 4 (.num 5))))))
def e_p18 : List (Nat × List (Nat × Nat) × e_X) := [(0, [(0, 2), (1, 0), (2, 0)], e_t18_0), (5, [(0, 2), (1, 0), (2, 0), (3, 0), (4, 0)], e_t18_5), (11, [(0, 2), (1, 0), (2, 0), (3, 0), (4, 0)], e_t18_11)]
/-- X0_currentAt, 0 -/
def e_t19_0 : e_X := .mulL 1 (.mulL 5146 (.add (.mulR (.var 0) 18) (.mulL 11 (.add (.var 1) (.mulR (.var 0) 6)))))
def e_p19 : List (Nat × List (Nat × Nat) × e_X) := [(0, [(0, 2), (1, 0)], e_t19_0)]
/-- X0_powerAt, 0 -/
def e_t20_0 : e_X := .mulL 1 (.mulL 12 (.add (.var 1) (.mulL 5019 (.add (.var 0) (.var 1)))))
def e_p20 : List (Nat × List (Nat × Nat) × e_X) := [(0, [(0, 2), (1, 0)], e_t20_0)]
/-- X0_findBest, 0 -/
def e_t21_0 : e_X := .add (.mulL 5011 (.var 0)) (.add (.mulL 5017 (.add (.var 0) (.add (.num 0) (.num 500)))) (.add (.mulL 5022 (.var 0)) (.mulL 2 (.num 0))))
def e_p21 : List (Nat × List (Nat × Nat) × e_X) := [(0, [(0, 2)], e_t21_0)]
/-- X0_chooseBest, 0 -/
def e_t22_0 : e_X := .add (.mulR (.add (.var 0) (.num 0)) 1) (.add (.mulR (.add (.var 0) (.num 0)) 2) (.add (.mulL 101 (.num 0)) (.mulL 4 (.num 12))))
/-- X0_chooseBest, 12 -/
def e_t22_12 : e_X := .sub (.mulL 45 (.add (.var 1) (.num 500))) (.add (.mulL (-20) (.sub (.mulL 44 (.add (.mulL 5020 (.add (.var 0) (.var 1))) (.mulR (.var 0) 1))) (.add (.mulL (-32) (.add (.mulR (.add (.var 0) (.mulL 5020 (.add (.var 0) (.var 1)))) 1) (.add (.mulR (.add (.var 0) (.var 1)) 2) (.mulL 4 (.num 45))))) (.mulL (-46) (.mulL 4 (.num 45)))))) (.mulL (-52) (.mulL 2 (.num 0))))
/-- X0_chooseBest, 45 -/
def e_t22_45 : e_X := .add (.mulL 201 (.num 1)) (.mulL 4 (.num 12))
def e_p22 : List (Nat × List (Nat × Nat) × e_X) := [(0, [(0, 2)], e_t22_0), (12, [(0, 2), (1, 0)], e_t22_12), (45, [(0, 2), (1, 0)], e_t22_45)]
/-- X0_humpAt, 0 -/
def e_t23_0 : e_X := .add (.mulL 102 (.num 0)) (.add (.mulL 103 (.num 0)) (.add (.mulL 104 (.num 1)) (.mulL 4 (.num 7))))
/-- X0_humpAt, 7 -/
def e_t23_7 : e_X := .sub (.mulL 42 (.add (.var 4) (.num 500))) (.add (.mulL (-16) (.add (.mulL 103 (.mulL 10 (.add (.var 4) (.num 1)))) (.mulL 4 (.num 20)))) (.mulL (-111) (.mulL 1 (.sub (.mulL 48 (.var 1)) (.add (.mulL (-115) (.var 2)) (.mulL (-119) (.num (-4))))))))
/-- X0_humpAt, 20 -/
def e_t23_20 : e_X := .sub (.sub (.mulL 45 (.add (.var 3) (.num 500))) (.add (.mulL (-28) (.mulL 40 (.add (.mulL 5020 (.add (.var 0) (.var 3))) (.mulL 5020 (.add (.var 0) (.var 4)))))) (.mulL (-48) (.num 0)))) (.add (.mulL (-42) (.add (.mulL 203 (.num 1)) (.mulL 4 (.num 20)))) (.mulL (-48) (.add (.mulL 105 (.sub (.mulL 44 (.add (.var 3) (.num 500))) (.add (.mulL (-55) (.num 0)) (.mulL (-59) (.mulL 5020 (.add (.var 0) (.var 3))))))) (.sub (.sub (.mulL 44 (.add (.mulL 5020 (.add (.var 0) (.var 4))) (.mulL 5020 (.add (.var 0) (.mulL 11 (.add (.var 4) (.num 1))))))) (.add (.mulL (-83) (.mulL 44 (.add (.mulL 5020 (.add (.var 0) (.var 4))) (.var 5)))) (.mulL (-105) (.num 0)))) (.add (.mulL (-94) (.sub (.mulL 40 (.add (.var 2) (.var 1))) (.add (.mulL (-99) (.mulL 1 (.var 4))) (.mulL (-102) (.add (.mulL 202 (.num 1)) (.mulL 4 (.num 104))))))) (.mulL (-105) (.mulL 4 (.num 104))))))))
/-- X0_humpAt, 104 -/
def e_t23_104 : e_X := .add (.mulL 104 (.var 3)) (.mulL 4 (.num 7))
def e_p23 : List (Nat × List (Nat × Nat) × e_X) := [(0, [(0, 2), (1, 0)], e_t23_0), (7, [(0, 2), (1, 0), (2, 0), (3, 0), (4, 0)], e_t23_7), (20, [(0, 2), (1, 0), (2, 0), (3, 0), (4, 0)], e_t23_20), (104, [(0, 2), (1, 0), (2, 0), (3, 0), (4, 0), (5, 0)], e_t23_104)]
/-- X0_dimmest, 0 -/
def e_t24_0 : e_X := .add (.mulL 101 (.num 0)) (.add (.mulL 102 (.num 1)) (.mulL 4 (.num 4)))
/-- X0_dimmest, 4 -/
def e_t24_4 : e_X := .sub (.mulL 42 (.add (.var 2) (.mulR (.var 0) 0))) (.add (.mulL (-13) (.sub (.mulL 42 (.add (.mulL 5146 (.add (.mulR (.var 0) 16) (.mulL 10 (.add (.num 4000) (.var 2))))) (.mulL 5146 (.add (.mulR (.var 0) 16) (.mulL 10 (.add (.num 4000) (.var 1))))))) (.add (.mulL (-40) (.add (.mulL 101 (.var 2)) (.mulL 4 (.num 41)))) (.mulL (-42) (.mulL 4 (.num 41)))))) (.mulL (-48) (.mulL 1 (.mulL 5146 (.add (.mulR (.var 0) 11) (.var 1))))))
/-- X0_dimmest, 41 -/
def e_t24_41 : e_X := .add (.mulL 202 (.num 1)) (.mulL 4 (.num 4))
def e_p24 : List (Nat × List (Nat × Nat) × e_X) := [(0, [(0, 2)], e_t24_0), (4, [(0, 2), (1, 0), (2, 0)], e_t24_4), (41, [(0, 2), (1, 0), (2, 0)], e_t24_41)]
/-- X0_passes, 0 -/
def e_t25_0 : e_X := .add (.mulL 101 (.num 0)) (.add (.mulL 102 (.num 0)) (.mulL 4 (.num 4)))
/-- X0_passes, 4 -/
def e_t25_4 : e_X := .sub (.mulL 42 (.add (.var 2) (.mulR (.var 0) 4))) (.add (.mulL (-13) (.add (.mulL 103 (.num 0)) (.add (.mulL 104 (.num 0)) (.mulL 4 (.num 17))))) (.mulL (-96) (.mulL 1 (.var 1))))
/-- X0_passes, 17 -/
def e_t25_17 : e_X := .sub (.mulL 42 (.add (.var 4) (.mulR (.var 0) 0))) (.add (.mulL (-27) (.add (.mulL 103 (.mulL 10 (.add (.var 3) (.sub (.mulL 40 (.add (.mulL 5146 (.add (.mulR (.var 0) 10) (.var 4))) (.var 2))) (.add (.mulL (-41) (.mulL 5146 (.add (.mulR (.var 0) 16) (.mulL 10 (.add (.num 4000) (.var 4)))))) (.mulL (-57) (.num 0))))))) (.add (.mulL 204 (.num 1)) (.mulL 4 (.num 17))))) (.mulL (-66) (.add (.mulL 101 (.mulL 10 (.add (.var 1) (.sub (.sub (.mulL 47 (.mulL 5146 (.add (.mulR (.var 0) 9) (.var 2)))) (.add (.mulL (-78) (.mulL 42 (.add (.var 3) (.num (-1))))) (.mulL (-87) (.num 0)))) (.add (.mulL (-83) (.num 1)) (.mulL (-87) (.num 0))))))) (.add (.mulL 202 (.num 1)) (.mulL 4 (.num 4))))))
def e_p25 : List (Nat × List (Nat × Nat) × e_X) := [(0, [(0, 2)], e_t25_0), (4, [(0, 2), (1, 0), (2, 0)], e_t25_4), (17, [(0, 2), (1, 0), (2, 0), (3, 0), (4, 0)], e_t25_17)]
/-- X0_hot, 0 -/
def e_t26_0 : e_X := .add (.mulL 102 (.num 0)) (.add (.mulL 103 (.num 0)) (.mulL 4 (.num 4)))
/-- X0_hot, 4 -/
def e_t26_4 : e_X := .sub (.mulL 42 (.add (.var 3) (.mulR (.var 0) 0))) (.add (.mulL (-13) (.add (.mulL 102 (.mulL 10 (.add (.var 2) (.sub (.mulL 44 (.add (.var 1) (.mulL 5146 (.add (.mulR (.var 0) 15) (.mulL 12 (.add (.var 3) (.num 6))))))) (.add (.mulL (-29) (.num 1)) (.mulL (-33) (.num 0))))))) (.add (.mulL 203 (.num 1)) (.mulL 4 (.num 4))))) (.mulL (-42) (.mulL 1 (.var 2))))
def e_p26 : List (Nat × List (Nat × Nat) × e_X) := [(0, [(0, 2), (1, 0)], e_t26_0), (4, [(0, 2), (1, 0), (2, 0), (3, 0)], e_t26_4)]
/-- X0_findParting, 0 -/
def e_t27_0 : e_X := .add (.mulL 5011 (.var 0)) (.add (.mulL 101 (.num (-1))) (.add (.mulL 102 (.num 0)) (.add (.mulL 103 (.mulL 11 (.add (.mulL 18 (.add (.num 1) (.mulR (.var 0) 0))) (.num 1)))) (.add (.mulL 104 (.num 2)) (.mulL 4 (.num 20))))))
/-- X0_findParting, 20 -/
def e_t27_20 : e_X := .sub (.mulL 45 (.add (.var 4) (.var 3))) (.add (.mulL (-27) (.add (.mulR (.add (.var 0) (.num 0)) 6) (.add (.mulL 5270 (.add (.mulR (.var 0) 18) (.num 0))) (.add (.mulL 5028 (.add (.var 0) (.var 4))) (.add (.mulL 5028 (.add (.var 0) (.mulL 11 (.add (.var 3) (.var 4))))) (.add (.mulL 5022 (.var 0)) (.sub (.mulL 44 (.add (.mulR (.var 0) 1) (.var 1))) (.add (.mulL (-66) (.add (.mulL 101 (.mulR (.var 0) 1)) (.add (.mulL 102 (.var 4)) (.mulL 4 (.num 73))))) (.mulL (-74) (.mulL 4 (.num 73))))))))))) (.mulL (-80) (.add (.mulR (.add (.var 0) (.var 1)) 1) (.mulL 1 (.var 2)))))
/-- X0_findParting, 73 -/
def e_t27_73 : e_X := .add (.mulL 204 (.num 2)) (.mulL 4 (.num 20))
def e_p27 : List (Nat × List (Nat × Nat) × e_X) := [(0, [(0, 2)], e_t27_0), (20, [(0, 2), (1, 0), (2, 0), (3, 0), (4, 0)], e_t27_20), (73, [(0, 2), (1, 0), (2, 0), (3, 0), (4, 0)], e_t27_73)]
/-- X0_addChosen, 0 -/
def e_t28_0 : e_X := .add (.mulL 102 (.num 0)) (.mulL 4 (.num 2))
/-- X0_addChosen, 2 -/
def e_t28_2 : e_X := .sub (.mulL 42 (.add (.var 2) (.num 100))) (.add (.mulL (-9) (.add (.mulL 103 (.num 0)) (.add (.mulL 104 (.num 0)) (.mulL 4 (.num 13))))) (.mulL (-74) (.add (.mulL 5018 (.add (.var 0) (.add (.num 0) (.num 500)))) (.mulL 2 (.num 0)))))
/-- X0_addChosen, 13 -/
def e_t28_13 : e_X := .sub (.mulL 42 (.add (.var 4) (.mulR (.var 0) 0))) (.add (.mulL (-23) (.add (.mulL 103 (.mulL 10 (.add (.var 3) (.sub (.mulL 47 (.mulL 15 (.add (.mulL 19 (.add (.var 1) (.var 4))) (.num 1)))) (.add (.mulL (-33) (.mulL 5146 (.add (.mulR (.var 0) 16) (.mulL 10 (.add (.mulL 12 (.add (.var 2) (.num 40))) (.var 4)))))) (.mulL (-50) (.num 0))))))) (.add (.mulL 204 (.num 1)) (.mulL 4 (.num 13))))) (.mulL (-59) (.add (.mulL 5147 (.add (.mulR (.var 0) 17) (.add (.var 2) (.var 3)))) (.add (.mulL 202 (.num 1)) (.mulL 4 (.num 2))))))
def e_p28 : List (Nat × List (Nat × Nat) × e_X) := [(0, [(0, 2), (1, 0)], e_t28_0), (2, [(0, 2), (1, 0), (2, 0)], e_t28_2), (13, [(0, 2), (1, 0), (2, 0), (3, 0), (4, 0)], e_t28_13)]
/-- X0_faultsThatMayBe, 0 -/
def e_t29_0 : e_X := .mulL 1 (.mulL 10 (.add (.mulL 10 (.add (.num 1) (.mulR (.var 0) 0))) (.mulL 5006 (.var 0))))
def e_p29 : List (Nat × List (Nat × Nat) × e_X) := [(0, [(0, 2)], e_t29_0)]
/-- X0_suffer, 0 -/
def e_t30_0 : e_X := .sub (.sub (.mulL 43 (.add (.var 1) (.num 1))) (.add (.mulL (-6) (.mulL 45 (.add (.var 1) (.mulR (.var 0) 0)))) (.mulL (-46) (.num 0)))) (.add (.mulL (-14) (.add (.mulL 5147 (.add (.mulR (.var 0) 13) (.add (.mulL 11 (.add (.var 1) (.num 1))) (.mulL 10 (.add (.mulL 5146 (.add (.mulR (.var 0) 13) (.mulL 11 (.add (.var 1) (.num 1))))) (.num 1)))))) (.add (.mulL 5010 (.add (.var 0) (.mulL 11 (.add (.var 1) (.num 1))))) (.mulL 4 (.num 73))))) (.mulL (-46) (.sub (.mulL 44 (.add (.var 1) (.mulR (.var 0) 0))) (.add (.mulL (-54) (.add (.mulL 5147 (.add (.mulR (.var 0) 9) (.add (.mulL 5032 (.add (.var 0) (.mulL 11 (.add (.mulL 11 (.add (.var 1) (.mulR (.var 0) 0))) (.num 1))))) (.num 0)))) (.mulL 4 (.num 73)))) (.mulL (-74) (.mulL 4 (.num 73)))))))
/-- X0_suffer, 73 -/
def e_t30_73 : e_X := .mulL 2 (.num 0)
def e_p30 : List (Nat × List (Nat × Nat) × e_X) := [(0, [(0, 2), (1, 0)], e_t30_0), (73, [(0, 2), (1, 0)], e_t30_73)]
/-- X0_recover, 0 -/
def e_t31_0 : e_X := .sub (.sub (.mulL 43 (.add (.var 1) (.num 1))) (.add (.mulL (-6) (.mulL 45 (.add (.var 1) (.mulR (.var 0) 0)))) (.mulL (-46) (.num 0)))) (.add (.mulL (-14) (.add (.mulL 5147 (.add (.mulR (.var 0) 13) (.add (.mulL 11 (.add (.var 1) (.num 1))) (.mulL 11 (.add (.mulL 5146 (.add (.mulR (.var 0) 13) (.mulL 11 (.add (.var 1) (.num 1))))) (.num 1)))))) (.add (.mulL 5010 (.add (.var 0) (.mulL 11 (.add (.var 1) (.num 1))))) (.mulL 4 (.num 62))))) (.mulL (-46) (.sub (.mulL 44 (.add (.var 1) (.mulR (.var 0) 0))) (.add (.mulL (-54) (.add (.mulL 5147 (.add (.mulR (.var 0) 9) (.add (.var 2) (.num 1)))) (.mulL 4 (.num 62)))) (.mulL (-63) (.mulL 4 (.num 62)))))))
/-- X0_recover, 62 -/
def e_t31_62 : e_X := .mulL 2 (.num 0)
def e_p31 : List (Nat × List (Nat × Nat) × e_X) := [(0, [(0, 2), (1, 0), (2, 0)], e_t31_0), (62, [(0, 2), (1, 0), (2, 0)], e_t31_62)]
/-- X0_groupOfDiode, 0 -/
def e_t32_0 : e_X := .add (.mulL 102 (.num 0)) (.add (.mulL 103 (.num 0)) (.mulL 4 (.num 4)))
/-- X0_groupOfDiode, 4 -/
def e_t32_4 : e_X := .sub (.mulL 42 (.add (.var 3) (.mulR (.var 0) 4))) (.add (.mulL (-13) (.sub (.mulL 47 (.mulL 5146 (.add (.mulR (.var 0) 9) (.var 3)))) (.add (.mulL (-24) (.sub (.mulL 40 (.add (.var 2) (.var 1))) (.add (.mulL (-29) (.mulL 1 (.var 3))) (.mulL (-31) (.add (.mulL 202 (.num 1)) (.mulL 4 (.num 33))))))) (.mulL (-34) (.mulL 4 (.num 33)))))) (.mulL (-40) (.mulL 1 (.num (-1)))))
/-- X0_groupOfDiode, 33 -/
def e_t32_33 : e_X := .add (.mulL 203 (.num 1)) (.mulL 4 (.num 4))
def e_p32 : List (Nat × List (Nat × Nat) × e_X) := [(0, [(0, 2), (1, 0)], e_t32_0), (4, [(0, 2), (1, 0), (2, 0), (3, 0)], e_t32_4), (33, [(0, 2), (1, 0), (2, 0), (3, 0)], e_t32_33)]
/-- X1_takeAll, 0 -/
def e_t34_0 : e_X := .add (.mulL 5148 (.add (.mulR (.var 1) 64) (.mulR (.var 0) 64))) (.add (.mulL 5148 (.add (.mulR (.var 1) 65) (.mulR (.var 0) 65))) (.add (.mulL 5148 (.add (.mulR (.var 1) 66) (.mulR (.var 0) 66))) (.add (.mulL 5148 (.add (.mulR (.var 1) 67) (.mulR (.var 0) 67))) (.add (.mulL 5148 (.add (.mulR (.var 1) 68) (.mulR (.var 0) 68))) (.add (.mulL 5148 (.add (.mulR (.var 1) 69) (.mulR (.var 0) 69))) (.mulL 2 (.num 0)))))))
def e_p34 : List (Nat × List (Nat × Nat) × e_X) := [(0, [(0, 2), (1, 2)], e_t34_0)]
/-- X1_begin, 0 -/
def e_t35_0 : e_X := .add (.mulL 102 (.num 0)) (.mulL 4 (.num 2))
/-- X1_begin, 2 -/
def e_t35_2 : e_X := .sub (.mulL 42 (.add (.var 2) (.num 4))) (.add (.mulL (-8) (.add (.mulL 5147 (.add (.mulR (.var 0) 66) (.add (.mulL 10 (.add (.mulL 12 (.add (.var 1) (.num 4))) (.var 2))) (.sub (.mulL 46 (.var 2)) (.add (.mulL (-21) (.num 100)) (.mulL (-26) (.num 0))))))) (.add (.mulL 202 (.num 1)) (.mulL 4 (.num 2))))) (.mulL (-36) (.add (.mulL 5147 (.add (.mulR (.var 0) 67) (.add (.var 1) (.num 0)))) (.add (.mulL 5147 (.add (.mulR (.var 0) 68) (.add (.var 1) (.num (-1))))) (.add (.mulL 5147 (.add (.mulR (.var 0) 69) (.add (.var 1) (.num (-1))))) (.mulL 2 (.num 0)))))))
def e_p35 : List (Nat × List (Nat × Nat) × e_X) := [(0, [(0, 2), (1, 0)], e_t35_0), (2, [(0, 2), (1, 0), (2, 0)], e_t35_2)]
/-- X1_hasCurve, 0 -/
def e_t36_0 : e_X := .add (.mulL 103 (.mulL 12 (.add (.var 1) (.num 6)))) (.add (.mulL 104 (.mulL 11 (.add (.mulL 10 (.add (.var 3) (.var 2))) (.num 1)))) (.sub (.sub (.sub (.sub (.mulL 46 (.mulL 5146 (.add (.mulR (.var 0) 64) (.var 3)))) (.add (.mulL (-24) (.mulL 45 (.add (.mulL 5146 (.add (.mulR (.var 0) 64) (.var 4))) (.num 60)))) (.mulL (-61) (.num 0)))) (.add (.mulL (-38) (.mulL 47 (.mulL 5146 (.add (.mulR (.var 0) 65) (.var 3))))) (.mulL (-61) (.num 0)))) (.add (.mulL (-49) (.mulL 47 (.mulL 5146 (.add (.mulR (.var 0) 65) (.var 4))))) (.mulL (-61) (.num 1)))) (.add (.mulL (-61) (.mulL 1 (.num 0))) (.mulL (-63) (.add (.mulL 105 (.mulL 10 (.add (.var 3) (.num 1)))) (.mulL 4 (.num 67)))))))
/-- X1_hasCurve, 67 -/
def e_t36_67 : e_X := .sub (.mulL 45 (.add (.var 5) (.var 4))) (.add (.mulL (-75) (.sub (.sub (.mulL 44 (.add (.mulL 5146 (.add (.mulR (.var 0) 64) (.var 5))) (.mulL 5146 (.add (.mulR (.var 0) 64) (.mulL 11 (.add (.var 5) (.num 1))))))) (.add (.mulL (-98) (.mulL 43 (.add (.mulL 5146 (.add (.mulR (.var 0) 65) (.var 5))) (.mulL 5146 (.add (.mulR (.var 0) 65) (.mulL 11 (.add (.var 5) (.num 1)))))))) (.mulL (-121) (.num 1)))) (.add (.mulL (-121) (.mulL 1 (.num 0))) (.mulL (-123) (.add (.mulL 205 (.num 1)) (.mulL 4 (.num 67))))))) (.mulL (-129) (.mulL 1 (.num 1))))
def e_p36 : List (Nat × List (Nat × Nat) × e_X) := [(0, [(0, 2), (1, 0), (2, 0)], e_t36_0), (67, [(0, 2), (1, 0), (2, 0), (3, 0), (4, 0), (5, 0)], e_t36_67)]
/-- X1_lastPush, 0 -/
def e_t37_0 : e_X := .mulL 1 (.mulL 5146 (.add (.mulR (.var 0) 64) (.mulL 11 (.add (.mulL 10 (.add (.mulL 12 (.add (.var 1) (.num 6))) (.var 2))) (.num 1)))))
def e_p37 : List (Nat × List (Nat × Nat) × e_X) := [(0, [(0, 2), (1, 0), (2, 0)], e_t37_0)]
/-- X1_litOf, 0 -/
def e_t38_0 : e_X := .add (.mulL 103 (.mulL 5146 (.add (.mulR (.var 0) 68) (.var 1)))) (.add (.mulL 104 (.mulL 5146 (.add (.mulR (.var 0) 69) (.var 1)))) (.sub (.sub (.mulL 49 (.var 3)) (.add (.mulL (-24) (.mulL 48 (.var 4))) (.mulL (-29) (.num 1)))) (.add (.mulL (-29) (.mulL 1 (.num 100))) (.mulL (-32) (.add (.mulL 105 (.num 0)) (.add (.mulL 106 (.num 0)) (.add (.mulL 107 (.mulL 13 (.add (.var 3) (.num 100)))) (.mulL 4 (.num 43)))))))))
/-- X1_litOf, 43 -/
def e_t38_43 : e_X := .sub (.mulL 45 (.add (.var 7) (.mulL 13 (.add (.var 4) (.num 100))))) (.add (.mulL (-54) (.add (.mulL 108 (.mulL 14 (.add (.var 3) (.num 100)))) (.mulL 4 (.num 59)))) (.mulL (-110) (.mulL 1 (.sub (.mulL 46 (.var 5)) (.add (.mulL (-115) (.num 100)) (.mulL (-120) (.mulL 13 (.add (.mulL 12 (.add (.var 6) (.num 100))) (.var 5)))))))))
/-- X1_litOf, 59 -/
def e_t38_59 : e_X := .sub (.mulL 45 (.add (.var 8) (.mulL 14 (.add (.var 4) (.num 100))))) (.add (.mulL (-70) (.add (.mulL 205 (.num 1)) (.add (.mulL 106 (.mulL 10 (.add (.var 6) (.sub (.mulL 46 (.mulL 5146 (.add (.var 2) (.mulL 10 (.add (.mulL 12 (.add (.var 8) (.num 20))) (.var 7)))))) (.add (.mulL (-90) (.num 1)) (.mulL (-94) (.num 0))))))) (.add (.mulL 208 (.num 1)) (.mulL 4 (.num 59)))))) (.mulL (-104) (.add (.mulL 207 (.num 1)) (.mulL 4 (.num 43)))))
def e_p38 : List (Nat × List (Nat × Nat) × e_X) := [(0, [(0, 2), (1, 0), (2, 2)], e_t38_0), (43, [(0, 2), (1, 0), (2, 2), (3, 0), (4, 0), (5, 0), (6, 0), (7, 0)], e_t38_43), (59, [(0, 2), (1, 0), (2, 2), (3, 0), (4, 0), (5, 0), (6, 0), (7, 0), (8, 0)], e_t38_59)]
/-- X1_howManyGone, 0 -/
def e_t39_0 : e_X := .add (.mulL 102 (.num 0)) (.add (.mulL 103 (.num 0)) (.mulL 4 (.num 4)))
/-- X1_howManyGone, 4 -/
def e_t39_4 : e_X := .sub (.mulL 42 (.add (.var 3) (.mulR (.var 1) 256))) (.add (.mulL (-13) (.sub (.sub (.mulL 46 (.mulL 5146 (.add (.mulR (.var 1) 257) (.var 3)))) (.add (.mulL (-24) (.mulL 47 (.mulL 5146 (.add (.mulR (.var 0) 67) (.var 3))))) (.mulL (-38) (.num 0)))) (.add (.mulL (-35) (.add (.mulL 202 (.num 1)) (.mulL 4 (.num 37)))) (.mulL (-38) (.mulL 4 (.num 37)))))) (.mulL (-44) (.mulL 1 (.var 2))))
/-- X1_howManyGone, 37 -/
def e_t39_37 : e_X := .add (.mulL 203 (.num 1)) (.mulL 4 (.num 4))
def e_p39 : List (Nat × List (Nat × Nat) × e_X) := [(0, [(0, 2), (1, 2)], e_t39_0), (4, [(0, 2), (1, 2), (2, 0), (3, 0)], e_t39_4), (37, [(0, 2), (1, 2), (2, 0), (3, 0)], e_t39_37)]
/-- X2_find, 0 -/
def e_t41_0 : e_X := .add (.mulR (.add (.var 0) (.num 0)) 128) (.add (.mulL 103 (.mulL 5029 (.var 1))) (.add (.mulL 104 (.num 0)) (.mulL 4 (.num 13))))
/-- X2_find, 13 -/
def e_t41_13 : e_X := .sub (.mulL 42 (.add (.var 4) (.var 3))) (.add (.mulL (-20) (.add (.mulL 105 (.mulL 5032 (.add (.var 1) (.mulL 11 (.add (.mulL 11 (.add (.var 4) (.mulR (.var 1) 0))) (.num 1)))))) (.add (.mulL 5030 (.add (.var 1) (.var 4))) (.add (.mulL 5017 (.add (.var 1) (.add (.num (-128)) (.num 127)))) (.sub (.mulL 47 (.mulL 5042 (.add (.var 1) (.var 2)))) (.add (.mulL (-57) (.add (.mulL 5043 (.add (.var 0) (.add (.var 1) (.var 4)))) (.mulL 4 (.num 63)))) (.mulL (-64) (.mulL 4 (.num 63))))))))) (.mulL (-78) (.mulL 2 (.num 0))))
/-- X2_find, 63 -/
def e_t41_63 : e_X := .add (.mulL 5031 (.add (.var 1) (.add (.var 4) (.var 5)))) (.add (.mulL 204 (.num 1)) (.mulL 4 (.num 13)))
def e_p41 : List (Nat × List (Nat × Nat) × e_X) := [(0, [(0, 2), (1, 2), (2, 2)], e_t41_0), (13, [(0, 2), (1, 2), (2, 2), (3, 0), (4, 0)], e_t41_13), (63, [(0, 2), (1, 2), (2, 2), (3, 0), (4, 0), (5, 0)], e_t41_63)]
/-- X2_agrees, 0 -/
def e_t42_0 : e_X := .add (.mulL 102 (.num 0)) (.mulL 4 (.num 2))
/-- X2_agrees, 2 -/
def e_t42_2 : e_X := .sub (.mulL 42 (.add (.mulL 10 (.add (.var 2) (.num 1))) (.mulR (.var 1) 517))) (.add (.mulL (-13) (.sub (.mulL 41 (.add (.mulL 5019 (.add (.var 0) (.mulL 5146 (.add (.mulR (.var 1) 518) (.var 2))))) (.mulL 5146 (.add (.mulR (.var 1) 518) (.mulL 10 (.add (.var 2) (.num 1))))))) (.add (.mulL (-38) (.mulL 1 (.num 0))) (.mulL (-40) (.add (.mulL 202 (.num 2)) (.mulL 4 (.num 2))))))) (.mulL (-46) (.mulL 1 (.num 1))))
def e_p42 : List (Nat × List (Nat × Nat) × e_X) := [(0, [(0, 2), (1, 2)], e_t42_0), (2, [(0, 2), (1, 2), (2, 0)], e_t42_2)]
/-- X2_note, 0 -/
def e_t43_0 : e_X := .add (.mulL 5147 (.add (.mulR (.var 0) 129) (.add (.mulR (.var 0) 128) (.var 2)))) (.add (.mulL 103 (.num 0)) (.mulL 4 (.num 14)))
/-- X2_note, 14 -/
def e_t43_14 : e_X := .sub (.mulL 42 (.add (.var 3) (.num 121))) (.add (.mulL (-21) (.add (.mulL 5147 (.add (.mulR (.var 0) 130) (.add (.mulL 10 (.add (.mulL 12 (.add (.mulR (.var 0) 128) (.num 121))) (.var 3))) (.mulL 5019 (.add (.var 1) (.var 3)))))) (.add (.mulL 203 (.num 1)) (.mulL 4 (.num 14))))) (.mulL (-48) (.add (.mulL 67 (.mulR (.add (.var 0) (.num 1)) 128)) (.mulL 2 (.num 0)))))
def e_p43 : List (Nat × List (Nat × Nat) × e_X) := [(0, [(0, 2), (1, 2), (2, 0)], e_t43_0), (14, [(0, 2), (1, 2), (2, 0), (3, 0)], e_t43_14)]
/-- X2_fitting, 0 -/
def e_t44_0 : e_X := .mulL 1 (.sub (.mulL 48 (.var 1)) (.add (.mulL (-5) (.mulR (.var 0) 128)) (.mulL (-12) (.sub (.mulL 42 (.add (.var 1) (.mulR (.var 0) 128))) (.add (.mulL (-20) (.mulL 5146 (.add (.mulR (.var 0) 129) (.var 1)))) (.mulL (-31) (.num (-4))))))))
def e_p44 : List (Nat × List (Nat × Nat) × e_X) := [(0, [(0, 2), (1, 0)], e_t44_0)]
/-- X2_nextLook, 0 -/
def e_t45_0 : e_X := .sub (.mulL 46 (.mulR (.var 0) 128)) (.add (.mulL (-8) (.mulL 1 (.num (-4)))) (.mulL (-11) (.add (.mulL 101 (.num 0)) (.add (.mulL 102 (.mulL 10 (.add (.mulR (.var 0) 128) (.num 1)))) (.add (.mulL 103 (.num 0)) (.mulL 4 (.num 21)))))))
/-- X2_nextLook, 21 -/
def e_t45_21 : e_X := .sub (.mulL 42 (.add (.var 3) (.num 121))) (.add (.mulL (-28) (.add (.mulL 104 (.mulL 5046 (.add (.var 0) (.var 3)))) (.sub (.mulL 42 (.add (.var 4) (.var 2))) (.add (.mulL (-41) (.add (.mulL 102 (.var 4)) (.add (.mulL 101 (.var 3)) (.mulL 4 (.num 45))))) (.mulL (-46) (.mulL 4 (.num 45))))))) (.mulL (-52) (.mulL 1 (.var 1))))
/-- X2_nextLook, 45 -/
def e_t45_45 : e_X := .add (.mulL 203 (.num 1)) (.mulL 4 (.num 21))
def e_p45 : List (Nat × List (Nat × Nat) × e_X) := [(0, [(0, 2)], e_t45_0), (21, [(0, 2), (1, 0), (2, 0), (3, 0)], e_t45_21), (45, [(0, 2), (1, 0), (2, 0), (3, 0), (4, 0)], e_t45_45)]
/-- X2_greatestGroup, 0 -/
def e_t46_0 : e_X := .add (.mulL 5270 (.add (.mulR (.var 0) 131) (.num 0))) (.add (.mulL 102 (.num 0)) (.add (.mulL 103 (.num 0)) (.mulL 4 (.num 12))))
/-- X2_greatestGroup, 12 -/
def e_t46_12 : e_X := .sub (.mulL 42 (.add (.var 3) (.mulR (.var 0) 128))) (.add (.mulL (-21) (.add (.mulL 104 (.mulL 5146 (.add (.mulR (.var 0) 130) (.mulL 10 (.add (.mulL 12 (.add (.var 3) (.num 121))) (.var 1)))))) (.add (.mulL 5147 (.add (.mulR (.var 0) 131) (.add (.var 4) (.mulL 10 (.add (.mulL 5146 (.add (.mulR (.var 0) 131) (.var 4))) (.num 1)))))) (.add (.mulL 102 (.mulL 34 (.add (.var 2) (.mulL 5146 (.add (.mulR (.var 0) 131) (.var 4)))))) (.add (.mulL 203 (.num 1)) (.mulL 4 (.num 12))))))) (.mulL (-76) (.mulL 1 (.var 2))))
def e_p46 : List (Nat × List (Nat × Nat) × e_X) := [(0, [(0, 2), (1, 0)], e_t46_0), (12, [(0, 2), (1, 0), (2, 0), (3, 0)], e_t46_12)]
/-- X3_takeAll, 0 -/
def e_t48_0 : e_X := .add (.mulL 5051 (.add (.mulR (.var 0) 192) (.mulR (.var 1) 192))) (.add (.mulL 5034 (.add (.mulR (.var 0) 193) (.mulR (.var 1) 193))) (.add (.mulL 102 (.num 0)) (.mulL 4 (.num 24))))
/-- X3_takeAll, 24 -/
def e_t48_24 : e_X := .sub (.sub (.mulL 42 (.add (.var 2) (.mulL 63 (.mulR (.var 0) 194)))) (.add (.mulL (-34) (.mulL 42 (.add (.var 2) (.mulL 63 (.mulR (.var 1) 194))))) (.mulL (-79) (.num 0)))) (.add (.mulL (-43) (.add (.mulL 103 (.mulL 62 (.add (.mulR (.var 0) 194) (.var 2)))) (.add (.mulL 104 (.mulL 62 (.add (.mulR (.var 1) 194) (.var 2)))) (.sub (.sub (.mulL 53 (.var 3)) (.add (.mulL (-62) (.mulL 53 (.var 4))) (.mulL (-73) (.num 0)))) (.add (.mulL (-67) (.add (.mulL 5080 (.add (.var 3) (.var 4))) (.mulL 4 (.num 72)))) (.mulL (-73) (.mulL 4 (.num 72)))))))) (.mulL (-79) (.add (.mulL 5072 (.add (.mulR (.var 0) 195) (.mulR (.var 1) 195))) (.add (.mulL 5093 (.add (.mulR (.var 0) 196) (.mulR (.var 1) 196))) (.mulL 2 (.num 0))))))
/-- X3_takeAll, 72 -/
def e_t48_72 : e_X := .add (.mulL 202 (.num 1)) (.mulL 4 (.num 24))
def e_p48 : List (Nat × List (Nat × Nat) × e_X) := [(0, [(0, 2), (1, 2)], e_t48_0), (24, [(0, 2), (1, 2), (2, 0)], e_t48_24), (72, [(0, 2), (1, 2), (2, 0), (3, 2), (4, 2)], e_t48_72)]
/-- X3_beginPart, 0 -/
def e_t49_0 : e_X := .add (.mulL 103 (.mulL 5052 (.add (.mulR (.var 0) 192) (.add (.var 1) (.var 2))))) (.add (.mulL 5035 (.add (.mulR (.var 0) 193) (.var 3))) (.sub (.sub (.sub (.mulL 49 (.var 3)) (.add (.mulL (-23) (.mulL 42 (.add (.var 3) (.mulL 63 (.mulR (.var 0) 194))))) (.mulL (-52) (.num 0)))) (.add (.mulL (-32) (.mulL 53 (.mulL 62 (.add (.mulR (.var 0) 194) (.var 3))))) (.mulL (-52) (.num 0)))) (.add (.mulL (-41) (.add (.mulL 5081 (.add (.mulL 62 (.add (.mulR (.var 0) 194) (.var 3))) (.add (.num 0) (.num 5)))) (.mulL 1 (.var 3)))) (.mulL (-52) (.mulL 1 (.var 3))))))
def e_p49 : List (Nat × List (Nat × Nat) × e_X) := [(0, [(0, 2), (1, 0), (2, 0)], e_t49_0)]
/-- X4_takeAll, 0 -/
def e_t51_0 : e_X := .add (.mulR (.add (.var 0) (.mulR (.var 1) 256)) 256) (.add (.mulL 5148 (.add (.mulR (.var 1) 257) (.mulR (.var 0) 257))) (.add (.mulL 5148 (.add (.mulR (.var 1) 258) (.mulR (.var 0) 258))) (.add (.mulL 5148 (.add (.mulR (.var 1) 259) (.mulR (.var 0) 259))) (.add (.mulL 5148 (.add (.mulR (.var 1) 260) (.mulR (.var 0) 260))) (.add (.mulL 5148 (.add (.mulR (.var 1) 261) (.mulR (.var 0) 261))) (.add (.mulL 5148 (.add (.mulR (.var 1) 262) (.mulR (.var 0) 262))) (.add (.mulL 5148 (.add (.mulR (.var 1) 263) (.mulR (.var 0) 263))) (.mulL 2 (.num 0)))))))))
def e_p51 : List (Nat × List (Nat × Nat) × e_X) := [(0, [(0, 2), (1, 2)], e_t51_0)]
/-- X4_begin, 0 -/
def e_t52_0 : e_X := .add (.mulL 103 (.mulR (.var 0) 256)) (.add (.mulL 5147 (.add (.mulR (.var 0) 257) (.add (.var 3) (.var 1)))) (.add (.mulL 5147 (.add (.mulR (.var 0) 258) (.add (.var 3) (.var 2)))) (.add (.mulL 5147 (.add (.mulR (.var 0) 259) (.add (.var 3) (.num (-1))))) (.add (.mulL 5147 (.add (.mulR (.var 0) 260) (.add (.var 3) (.num 0)))) (.add (.mulL 67 (.mulR (.add (.var 0) (.num 1)) 256)) (.mulL 1 (.var 3)))))))
def e_p52 : List (Nat × List (Nat × Nat) × e_X) := [(0, [(0, 2), (1, 0), (2, 0)], e_t52_0)]
/-- X4_join, 0 -/
def e_t53_0 : e_X := .add (.mulL 105 (.sub (.sub (.sub (.mulL 49 (.var 2)) (.add (.mulL (-5) (.mulL 42 (.add (.var 2) (.var 1)))) (.mulL (-25) (.num 0)))) (.add (.mulL (-10) (.mulL 48 (.mulL 5146 (.add (.mulR (.var 0) 259) (.var 2))))) (.mulL (-25) (.num 0)))) (.add (.mulL (-21) (.num 1)) (.mulL (-25) (.num 0))))) (.sub (.sub (.mulL 47 (.var 5)) (.add (.mulL (-33) (.mulL 46 (.mulL 5054 (.add (.mulL 5146 (.add (.mulR (.var 0) 257) (.var 1))) (.mulL 5146 (.add (.mulR (.var 0) 257) (.var 2))))))) (.mulL (-55) (.num 1)))) (.add (.mulL (-55) (.mulL 1 (.num 0))) (.mulL (-57) (.add (.mulL 106 (.mulL 10 (.add (.mulL 12 (.add (.var 1) (.num 8))) (.mulL 5146 (.add (.mulR (.var 0) 260) (.var 1)))))) (.add (.mulL 5147 (.add (.mulR (.var 0) 261) (.add (.var 6) (.var 2)))) (.add (.mulL 5147 (.add (.mulR (.var 0) 262) (.add (.var 6) (.var 3)))) (.add (.mulL 5147 (.add (.mulR (.var 0) 263) (.add (.var 6) (.var 4)))) (.add (.mulL 5147 (.add (.mulR (.var 0) 260) (.add (.var 1) (.mulL 10 (.add (.mulL 5146 (.add (.mulR (.var 0) 260) (.var 1))) (.num 1)))))) (.add (.mulL 5147 (.add (.mulR (.var 0) 259) (.add (.var 2) (.var 1)))) (.mulL 1 (.num 1)))))))))))
def e_p53 : List (Nat × List (Nat × Nat) × e_X) := [(0, [(0, 2), (1, 0), (2, 0), (3, 0), (4, 0)], e_t53_0)]
/-- X4_mayHold, 0 -/
def e_t54_0 : e_X := .mulL 1 (.sub (.sub (.sub (.mulL 40 (.add (.var 0) (.num 1))) (.add (.mulL (-6) (.mulL 47 (.var 1))) (.mulL (-10) (.num 1)))) (.add (.mulL (-10) (.sub (.sub (.mulL 40 (.add (.var 0) (.num 2))) (.add (.mulL (-15) (.sub (.mulL 47 (.var 1)) (.add (.mulL (-19) (.mulL 41 (.add (.var 1) (.num 1)))) (.mulL (-34) (.num 0))))) (.mulL (-24) (.num 1)))) (.add (.mulL (-24) (.sub (.mulL 40 (.add (.var 0) (.num 3))) (.add (.mulL (-29) (.mulL 41 (.add (.var 1) (.num 3)))) (.mulL (-38) (.num 0))))) (.mulL (-34) (.num 1))))) (.mulL (-34) (.num 1)))) (.add (.mulL (-34) (.num 1)) (.mulL (-38) (.num 0))))
def e_p54 : List (Nat × List (Nat × Nat) × e_X) := [(0, [(0, 0), (1, 0)], e_t54_0)]
/-- X4_cutTo, 0 -/
def e_t55_0 : e_X := .add (.mulR (.add (.var 0) (.var 1)) 256) (.add (.mulL 102 (.num 0)) (.mulL 4 (.num 7)))
/-- X4_cutTo, 7 -/
def e_t55_7 : e_X := .sub (.mulL 42 (.add (.var 2) (.var 1))) (.add (.mulL (-13) (.sub (.mulL 43 (.add (.mulL 5146 (.add (.mulR (.var 0) 259) (.var 2))) (.var 1))) (.add (.mulL (-25) (.add (.mulL 5147 (.add (.mulR (.var 0) 259) (.add (.var 2) (.num (-1))))) (.mulL 4 (.num 33)))) (.mulL (-34) (.mulL 4 (.num 33)))))) (.mulL (-40) (.mulL 2 (.num 0))))
/-- X4_cutTo, 33 -/
def e_t55_33 : e_X := .add (.mulL 202 (.num 1)) (.mulL 4 (.num 7))
def e_p55 : List (Nat × List (Nat × Nat) × e_X) := [(0, [(0, 2), (1, 0)], e_t55_0), (7, [(0, 2), (1, 0), (2, 0)], e_t55_7), (33, [(0, 2), (1, 0), (2, 0)], e_t55_33)]
/-- X4_howMany, 0 -/
def e_t56_0 : e_X := .add (.mulL 102 (.num 0)) (.add (.mulL 103 (.num 0)) (.mulL 4 (.num 4)))
/-- X4_howMany, 4 -/
def e_t56_4 : e_X := .sub (.mulL 42 (.add (.var 3) (.mulR (.var 0) 256))) (.add (.mulL (-13) (.sub (.mulL 40 (.add (.mulL 5146 (.add (.mulR (.var 0) 257) (.var 3))) (.var 1))) (.add (.mulL (-25) (.add (.mulL 202 (.num 1)) (.mulL 4 (.num 27)))) (.mulL (-28) (.mulL 4 (.num 27)))))) (.mulL (-34) (.mulL 1 (.var 2))))
/-- X4_howMany, 27 -/
def e_t56_27 : e_X := .add (.mulL 203 (.num 1)) (.mulL 4 (.num 4))
def e_p56 : List (Nat × List (Nat × Nat) × e_X) := [(0, [(0, 2), (1, 0)], e_t56_0), (4, [(0, 2), (1, 0), (2, 0), (3, 0)], e_t56_4), (27, [(0, 2), (1, 0), (2, 0), (3, 0)], e_t56_27)]
/-- X5_read, 0 -/
def e_t58_0 : e_X := .sub (.mulL 46 (.mulL 5059 (.add (.var 0) (.var 1)))) (.add (.mulL (-9) (.mulL 1 (.mulL 11 (.add (.num (-1000)) (.mulR (.var 0) 321))))) (.mulL (-18) (.add (.mulL 103 (.mulR (.mulR (.var 2) 192) 256)) (.add (.mulL 104 (.num 0)) (.mulL 4 (.num 28))))))
/-- X5_read, 28 -/
def e_t58_28 : e_X := .sub (.mulL 42 (.add (.var 4) (.mulR (.var 0) 327))) (.add (.mulL (-38) (.sub (.mulL 46 (.mulL 5068 (.add (.var 0) (.add (.var 2) (.var 4))))) (.add (.mulL (-48) (.add (.mulL 5055 (.add (.mulR (.var 2) 192) (.var 3))) (.mulL 1 (.mulL 11 (.add (.num (-2000)) (.mulL 5146 (.add (.mulR (.var 0) 329) (.var 4)))))))) (.mulL (-70) (.add (.mulL 204 (.num 1)) (.mulL 4 (.num 28))))))) (.mulL (-76) (.mulL 1 (.mulL 11 (.add (.mulR (.mulR (.var 2) 192) 256) (.var 3))))))
def e_p58 : List (Nat × List (Nat × Nat) × e_X) := [(0, [(0, 2), (1, 2), (2, 2)], e_t58_0), (28, [(0, 2), (1, 2), (2, 2), (3, 0), (4, 0)], e_t58_28)]
/-- X5_readShape, 0 -/
def e_t59_0 : e_X := .add (.mulR (.add (.var 0) (.mulR (.var 1) 517)) 320) (.add (.mulR (.add (.var 0) (.num 0)) 322) (.add (.mulR (.add (.var 0) (.num 0)) 327) (.add (.mulR (.add (.var 0) (.num 0)) 328) (.add (.mulR (.add (.var 0) (.num 0)) 321) (.mulL 4 (.num 28))))))
/-- X5_readShape, 28 -/
def e_t59_28 : e_X := .sub (.mulL 42 (.add (.mulR (.var 0) 321) (.mulR (.var 0) 320))) (.add (.mulL (-40) (.sub (.mulL 46 (.mulL 5060 (.add (.var 0) (.mulL 5146 (.add (.mulR (.var 1) 518) (.mulR (.var 0) 321)))))) (.add (.mulL (-58) (.mulL 1 (.num 0))) (.mulL (-60) (.add (.mulL 67 (.mulR (.add (.var 0) (.num 1)) 321)) (.mulL 4 (.num 28))))))) (.mulL (-73) (.mulL 1 (.sub (.sub (.mulL 46 (.mulR (.var 0) 322)) (.add (.mulL (-80) (.mulL 50 (.mulR (.var 0) 327))) (.mulL (-91) (.num 0)))) (.add (.mulL (-87) (.num 1)) (.mulL (-91) (.num 0)))))))
def e_p59 : List (Nat × List (Nat × Nat) × e_X) := [(0, [(0, 2), (1, 2)], e_t59_0), (28, [(0, 2), (1, 2)], e_t59_28)]
/-- X5_goOn, 0 -/
def e_t60_0 : e_X := .sub (.mulL 46 (.mulR (.var 0) 322)) (.add (.mulL (-8) (.mulL 1 (.mulL 5061 (.add (.var 0) (.var 1))))) (.mulL (-14) (.add (.mulL 102 (.sub (.sub (.mulL 43 (.add (.var 1) (.num 48))) (.add (.mulL (-20) (.mulL 45 (.add (.var 1) (.num 57)))) (.mulL (-30) (.num 0)))) (.add (.mulL (-26) (.num 1)) (.mulL (-30) (.num 0))))) (.sub (.mulL 40 (.add (.mulR (.var 0) 322) (.num 1))) (.add (.mulL (-40) (.mulL 1 (.sub (.mulL 47 (.var 2)) (.add (.mulL (-44) (.mulL 5062 (.add (.var 0) (.mulL 11 (.add (.var 1) (.num 48)))))) (.mulL (-55) (.mulL 5063 (.add (.var 0) (.var 1)))))))) (.mulL (-61) (.sub (.sub (.mulL 47 (.var 2)) (.add (.mulL (-65) (.mulL 40 (.add (.mulR (.var 0) 322) (.num 2)))) (.mulL (-114) (.num 0)))) (.add (.mulL (-73) (.add (.mulL 5147 (.add (.mulR (.var 0) 333) (.add (.mulL 11 (.add (.mulR (.var 0) 328) (.num 1))) (.mulL 11 (.add (.mulL 10 (.add (.mulL 12 (.add (.num 10) (.mulL 5146 (.add (.mulR (.var 0) 333) (.mulL 11 (.add (.mulR (.var 0) 328) (.num 1))))))) (.var 1))) (.num 48)))))) (.add (.mulR (.add (.var 0) (.num 3)) 322) (.mulL 1 (.num 1))))) (.mulL (-114) (.mulL 1 (.sub (.mulL 40 (.add (.var 1) (.num 47))) (.add (.mulL (-120) (.mulL 5064 (.var 0))) (.mulL (-127) (.sub (.mulL 40 (.add (.var 1) (.num 93))) (.add (.mulL (-133) (.mulL 5065 (.var 0))) (.mulL (-140) (.sub (.mulL 40 (.add (.var 1) (.num 32))) (.add (.mulL (-146) (.mulL 5066 (.var 0))) (.mulL (-153) (.sub (.sub (.mulL 40 (.add (.var 1) (.num 59))) (.add (.mulL (-159) (.mulL 47 (.mulL 5067 (.var 0)))) (.mulL (-170) (.num 0)))) (.add (.mulL (-166) (.num 1)) (.mulL (-170) (.num 0)))))))))))))))))))))))
def e_p60 : List (Nat × List (Nat × Nat) × e_X) := [(0, [(0, 2), (1, 0)], e_t60_0)]
/-- X5_beginStatement, 0 -/
def e_t61_0 : e_X := .sub (.sub (.sub (.sub (.mulL 41 (.add (.var 1) (.num 99))) (.add (.mulL (-7) (.mulL 41 (.add (.var 1) (.num 114)))) (.mulL (-27) (.num 0)))) (.add (.mulL (-13) (.mulL 41 (.add (.var 1) (.num 102)))) (.mulL (-27) (.num 0)))) (.add (.mulL (-19) (.mulL 41 (.add (.var 1) (.num 98)))) (.mulL (-27) (.num 0)))) (.add (.mulL (-25) (.mulL 1 (.num 0))) (.mulL (-27) (.add (.mulL 5147 (.add (.mulR (.var 0) 329) (.add (.mulR (.var 0) 327) (.mulR (.var 0) 321)))) (.add (.mulL 5147 (.add (.mulR (.var 0) 330) (.add (.mulR (.var 0) 327) (.var 1)))) (.add (.mulR (.add (.var 0) (.var 1)) 323) (.add (.mulR (.add (.var 0) (.num 0)) 324) (.add (.mulR (.add (.var 0) (.num 0)) 325) (.add (.mulR (.add (.var 0) (.num 1)) 326) (.add (.mulR (.add (.var 0) (.num 1)) 322) (.mulL 1 (.num 1)))))))))))
def e_p61 : List (Nat × List (Nat × Nat) × e_X) := [(0, [(0, 2), (1, 0)], e_t61_0)]
/-- X5_beginNumber, 0 -/
def e_t62_0 : e_X := .add (.mulL 5147 (.add (.mulR (.var 0) 333) (.add (.mulR (.var 0) 328) (.var 1)))) (.add (.mulL 5147 (.add (.mulR (.var 0) 334) (.add (.mulR (.var 0) 328) (.mulL 11 (.add (.mulR (.var 0) 326) (.num 1)))))) (.add (.mulL 5147 (.add (.mulR (.var 0) 335) (.add (.mulR (.var 0) 328) (.mulR (.var 0) 325)))) (.add (.mulL 67 (.mulR (.add (.var 0) (.num 1)) 328)) (.add (.mulR (.add (.var 0) (.sub (.mulL 46 (.var 1)) (.add (.mulL (-60) (.num 3)) (.mulL (-64) (.num 2))))) 322) (.mulL 1 (.num 1))))))
def e_p62 : List (Nat × List (Nat × Nat) × e_X) := [(0, [(0, 2), (1, 0)], e_t62_0)]
/-- X5_openGroup, 0 -/
def e_t63_0 : e_X := .sub (.sub (.sub (.mulL 40 (.add (.var 1) (.num 91))) (.add (.mulL (-7) (.mulL 40 (.add (.mulR (.var 0) 323) (.num 114)))) (.mulL (-23) (.num 0)))) (.add (.mulL (-16) (.mulL 47 (.mulR (.var 0) 325))) (.mulL (-23) (.num 1)))) (.add (.mulL (-23) (.mulL 1 (.num 0))) (.mulL (-25) (.add (.mulR (.add (.var 0) (.num 1)) 325) (.mulL 1 (.num 1)))))
def e_p63 : List (Nat × List (Nat × Nat) × e_X) := [(0, [(0, 2), (1, 0)], e_t63_0)]
/-- X5_goOnToCurrent, 0 -/
def e_t64_0 : e_X := .sub (.sub (.mulL 40 (.add (.mulR (.var 0) 323) (.num 99))) (.add (.mulL (-10) (.mulL 47 (.mulR (.var 0) 324))) (.mulL (-17) (.num 1)))) (.add (.mulL (-17) (.mulL 1 (.num 0))) (.mulL (-19) (.add (.mulR (.add (.var 0) (.num 1)) 324) (.add (.mulR (.add (.var 0) (.num 1)) 322) (.mulL 1 (.num 1))))))
def e_p64 : List (Nat × List (Nat × Nat) × e_X) := [(0, [(0, 2)], e_t64_0)]
/-- X5_closeGroup, 0 -/
def e_t65_0 : e_X := .sub (.mulL 46 (.mulR (.var 0) 325)) (.add (.mulL (-8) (.mulL 1 (.num 0))) (.mulL (-10) (.add (.mulR (.add (.var 0) (.num 0)) 325) (.add (.mulR (.add (.var 0) (.num 3)) 322) (.mulL 1 (.num 1))))))
def e_p65 : List (Nat × List (Nat × Nat) × e_X) := [(0, [(0, 2)], e_t65_0)]
/-- X5_goOnToNext, 0 -/
def e_t66_0 : e_X := .sub (.sub (.mulL 41 (.add (.mulR (.var 0) 323) (.num 98))) (.add (.mulL (-10) (.sub (.mulL 40 (.add (.mulR (.var 0) 323) (.num 99))) (.add (.mulL (-19) (.mulL 46 (.mulR (.var 0) 324))) (.mulL (-28) (.num 0))))) (.mulL (-26) (.num 1)))) (.add (.mulL (-26) (.mulL 1 (.num 0))) (.mulL (-28) (.sub (.mulL 46 (.mulR (.var 0) 325)) (.add (.mulL (-35) (.add (.mulL 67 (.mulR (.add (.var 0) (.num 1)) 326)) (.mulL 4 (.num 44)))) (.mulL (-45) (.mulL 4 (.num 44)))))))
/-- X5_goOnToNext, 44 -/
def e_t66_44 : e_X := .add (.mulR (.add (.var 0) (.num 0)) 324) (.add (.mulR (.add (.var 0) (.num 1)) 322) (.mulL 1 (.num 1)))
def e_p66 : List (Nat × List (Nat × Nat) × e_X) := [(0, [(0, 2)], e_t66_0), (44, [(0, 2)], e_t66_44)]
/-- X5_endStatement, 0 -/
def e_t67_0 : e_X := .sub (.sub (.mulL 46 (.mulR (.var 0) 325)) (.add (.mulL (-8) (.sub (.mulL 40 (.add (.mulR (.var 0) 323) (.num 99))) (.add (.mulL (-17) (.mulL 46 (.mulR (.var 0) 324))) (.mulL (-26) (.num 0))))) (.mulL (-24) (.num 1)))) (.add (.mulL (-24) (.mulL 1 (.num 0))) (.mulL (-26) (.add (.mulL 5147 (.add (.mulR (.var 0) 332) (.add (.mulR (.var 0) 327) (.mulR (.var 0) 326)))) (.add (.mulL 67 (.mulR (.add (.var 0) (.num 1)) 327)) (.add (.mulL 5147 (.add (.mulR (.var 0) 331) (.add (.mulR (.var 0) 327) (.mulR (.var 0) 328)))) (.add (.mulR (.add (.var 0) (.num 0)) 322) (.mulL 1 (.num 1))))))))
def e_p67 : List (Nat × List (Nat × Nat) × e_X) := [(0, [(0, 2)], e_t67_0)]
/-- X5_tell, 0 -/
def e_t68_0 : e_X := .sub (.mulL 43 (.add (.mulR (.mulR (.var 1) 192) 256) (.num 40))) (.add (.mulL (-13) (.mulL 1 (.num 0))) (.mulL (-15) (.add (.mulL 103 (.mulL 5146 (.add (.mulR (.var 0) 331) (.var 2)))) (.add (.mulL 104 (.mulL 11 (.add (.mulL 5146 (.add (.mulR (.var 0) 331) (.mulL 10 (.add (.var 2) (.num 1))))) (.var 3)))) (.add (.mulL 105 (.mulL 5146 (.add (.mulR (.var 0) 330) (.var 2)))) (.sub (.mulL 40 (.add (.var 5) (.num 99))) (.add (.mulL (-55) (.mulL 1 (.mulL 5069 (.add (.var 0) (.add (.var 1) (.add (.var 3) (.mulL 13 (.add (.var 4) (.num 2))))))))) (.mulL (-66) (.sub (.mulL 40 (.add (.var 5) (.num 114))) (.add (.mulL (-73) (.mulL 1 (.sub (.sub (.mulL 45 (.add (.var 4) (.num 8))) (.add (.mulL (-80) (.mulL 47 (.mulL 5070 (.add (.var 0) (.add (.var 1) (.add (.num 1) (.add (.mulL 5146 (.add (.mulR (.var 0) 332) (.var 2))) (.add (.var 3) (.var 4))))))))) (.mulL (-104) (.num 0)))) (.add (.mulL (-100) (.num 1)) (.mulL (-104) (.num 0)))))) (.mulL (-106) (.sub (.mulL 40 (.add (.var 5) (.num 102))) (.add (.mulL (-113) (.mulL 1 (.sub (.sub (.mulL 45 (.add (.var 4) (.num 6))) (.add (.mulL (-120) (.mulL 47 (.mulL 5070 (.add (.var 0) (.add (.var 1) (.add (.num 2) (.add (.var 4) (.add (.var 3) (.var 4))))))))) (.mulL (-138) (.num 0)))) (.add (.mulL (-134) (.num 1)) (.mulL (-138) (.num 0)))))) (.mulL (-140) (.mulL 1 (.mulL 5070 (.add (.var 0) (.add (.var 1) (.add (.num 3) (.add (.num 1) (.add (.var 3) (.var 4))))))))))))))))))))))
def e_p68 : List (Nat × List (Nat × Nat) × e_X) := [(0, [(0, 2), (1, 2), (2, 0)], e_t68_0)]
/-- X5_tellCell, 0 -/
def e_t69_0 : e_X := .sub (.sub (.mulL 43 (.add (.var 3) (.num 2))) (.add (.mulL (-6) (.mulL 44 (.add (.var 3) (.num 6)))) (.mulL (-12) (.num 1)))) (.add (.mulL (-12) (.mulL 1 (.num 0))) (.mulL (-14) (.add (.mulL 104 (.mulL 5049 (.add (.var 1) (.add (.num 0) (.var 3))))) (.add (.mulL 105 (.num 0)) (.mulL 4 (.num 24))))))
/-- X5_tellCell, 24 -/
def e_t69_24 : e_X := .sub (.mulL 42 (.add (.var 5) (.var 3))) (.add (.mulL (-31) (.add (.mulL 5147 (.add (.mulR (.mulR (.var 1) 193) 64) (.add (.mulL 10 (.add (.mulL 12 (.add (.var 4) (.num 6))) (.var 5))) (.mulL 5146 (.add (.mulR (.var 0) 333) (.mulL 10 (.add (.var 2) (.mulL 12 (.add (.num 2) (.var 5)))))))))) (.add (.mulL 5147 (.add (.mulR (.mulR (.var 1) 193) 65) (.add (.mulL 10 (.add (.mulL 12 (.add (.var 4) (.num 6))) (.var 5))) (.mulL 5146 (.add (.mulR (.var 0) 333) (.mulL 10 (.add (.mulL 10 (.add (.var 2) (.mulL 12 (.add (.num 2) (.var 5))))) (.num 1)))))))) (.add (.mulL 205 (.num 1)) (.mulL 4 (.num 24)))))) (.mulL (-101) (.mulL 1 (.mulL 5036 (.add (.mulR (.var 1) 193) (.add (.var 4) (.var 3)))))))
def e_p69 : List (Nat × List (Nat × Nat) × e_X) := [(0, [(0, 2), (1, 2), (2, 0), (3, 0)], e_t69_0), (24, [(0, 2), (1, 2), (2, 0), (3, 0), (4, 0), (5, 0)], e_t69_24)]
/-- X5_tellWhole, 0 -/
def e_t70_0 : e_X := .add (.mulL 106 (.mulL 5049 (.add (.var 1) (.add (.var 2) (.var 3))))) (.add (.mulL 107 (.var 4)) (.mulL 4 (.num 12)))
/-- X5_tellWhole, 12 -/
def e_t70_12 : e_X := .sub (.mulL 42 (.add (.var 7) (.mulL 10 (.add (.var 4) (.var 5))))) (.add (.mulL (-23) (.sub (.mulL 46 (.mulL 5053 (.add (.mulR (.var 1) 192) (.add (.var 6) (.add (.mulL 5146 (.add (.mulR (.var 0) 333) (.var 7))) (.add (.mulL 5146 (.add (.mulR (.var 0) 334) (.var 7))) (.mulL 5146 (.add (.mulR (.var 0) 335) (.var 7))))))))) (.add (.mulL (-62) (.mulL 1 (.num 0))) (.mulL (-64) (.add (.mulL 207 (.num 1)) (.mulL 4 (.num 12))))))) (.mulL (-70) (.mulL 1 (.num 1))))
def e_p70 : List (Nat × List (Nat × Nat) × e_X) := [(0, [(0, 2), (1, 2), (2, 0), (3, 0), (4, 0), (5, 0)], e_t70_0), (12, [(0, 2), (1, 2), (2, 0), (3, 0), (4, 0), (5, 0), (6, 0), (7, 0)], e_t70_12)]
/-- X6_takeAll, 0 -/
def e_t72_0 : e_X := .add (.mulL 5148 (.add (.mulR (.var 1) 384) (.mulR (.var 0) 384))) (.add (.mulL 5148 (.add (.mulR (.var 1) 385) (.mulR (.var 0) 385))) (.add (.mulL 5148 (.add (.mulR (.var 1) 386) (.mulR (.var 0) 386))) (.add (.mulL 5148 (.add (.mulR (.var 1) 387) (.mulR (.var 0) 387))) (.add (.mulL 5148 (.add (.mulR (.var 1) 388) (.mulR (.var 0) 388))) (.add (.mulL 5148 (.add (.mulR (.var 1) 389) (.mulR (.var 0) 389))) (.add (.mulR (.add (.var 0) (.mulR (.var 1) 390)) 390) (.add (.mulR (.add (.var 0) (.mulR (.var 1) 391)) 391) (.mulL 2 (.num 0)))))))))
def e_p72 : List (Nat × List (Nat × Nat) × e_X) := [(0, [(0, 2), (1, 2)], e_t72_0)]
/-- X6_standing, 0 -/
def e_t73_0 : e_X := .add (.mulL 101 (.num 0)) (.add (.mulL 102 (.num 0)) (.mulL 4 (.num 4)))
/-- X6_standing, 4 -/
def e_t73_4 : e_X := .sub (.mulL 42 (.add (.var 2) (.num 10))) (.add (.mulL (-11) (.sub (.mulL 50 (.mulL 5146 (.add (.mulR (.var 0) 386) (.var 2)))) (.add (.mulL (-22) (.add (.mulL 201 (.num 1)) (.mulL 4 (.num 24)))) (.mulL (-25) (.mulL 4 (.num 24)))))) (.mulL (-31) (.mulL 1 (.var 1))))
/-- X6_standing, 24 -/
def e_t73_24 : e_X := .add (.mulL 202 (.num 1)) (.mulL 4 (.num 4))
def e_p73 : List (Nat × List (Nat × Nat) × e_X) := [(0, [(0, 2)], e_t73_0), (4, [(0, 2), (1, 0), (2, 0)], e_t73_4), (24, [(0, 2), (1, 0), (2, 0)], e_t73_24)]
/-- X6_castShades, 0 -/
def e_t74_0 : e_X := .add (.mulL 5270 (.add (.var 2) (.num 0))) (.add (.mulL 103 (.num 0)) (.mulL 4 (.num 7)))
/-- X6_castShades, 7 -/
def e_t74_7 : e_X := .sub (.mulL 42 (.add (.var 3) (.num 10))) (.add (.mulL (-14) (.sub (.mulL 50 (.mulL 5146 (.add (.mulR (.var 0) 386) (.var 3)))) (.add (.mulL (-25) (.add (.mulL 5075 (.add (.var 0) (.add (.var 3) (.add (.var 1) (.var 2))))) (.mulL 4 (.num 31)))) (.mulL (-32) (.mulL 4 (.num 31)))))) (.mulL (-38) (.mulL 2 (.num 0))))
/-- X6_castShades, 31 -/
def e_t74_31 : e_X := .add (.mulL 203 (.num 1)) (.mulL 4 (.num 7))
def e_p74 : List (Nat × List (Nat × Nat) × e_X) := [(0, [(0, 2), (1, 0), (2, 2)], e_t74_0), (7, [(0, 2), (1, 0), (2, 2), (3, 0)], e_t74_7), (31, [(0, 2), (1, 0), (2, 2), (3, 0)], e_t74_31)]
/-- X6_castShade, 0 -/
def e_t75_0 : e_X := .add (.mulL 104 (.mulL 5146 (.add (.mulR (.var 0) 387) (.var 2)))) (.add (.mulL 105 (.mulL 13 (.add (.mulL 12 (.add (.mulL 5146 (.add (.mulR (.var 0) 386) (.var 1))) (.mulL 5146 (.add (.mulR (.var 0) 388) (.var 2))))) (.num 10)))) (.add (.mulL 106 (.num 0)) (.mulL 4 (.num 35))))
/-- X6_castShade, 35 -/
def e_t75_35 : e_X := .sub (.mulL 45 (.add (.var 6) (.var 5))) (.add (.mulL (-43) (.add (.mulL 107 (.mulL 10 (.add (.mulL 5146 (.add (.mulR (.var 0) 384) (.var 1))) (.mulL 12 (.add (.var 6) (.mulL 5146 (.add (.mulL 3 (.num 3)) (.var 4)))))))) (.add (.mulL 108 (.mulL 10 (.add (.mulL 5146 (.add (.mulR (.var 0) 385) (.var 1))) (.mulL 12 (.add (.var 6) (.mulL 5146 (.add (.mulL 3 (.num 4)) (.var 4)))))))) (.sub (.sub (.sub (.sub (.mulL 49 (.var 7)) (.add (.mulL (-92) (.mulL 42 (.add (.var 7) (.num 20)))) (.mulL (-124) (.num 0)))) (.add (.mulL (-99) (.mulL 49 (.var 8))) (.mulL (-124) (.num 0)))) (.add (.mulL (-104) (.mulL 42 (.add (.var 8) (.num 12)))) (.mulL (-124) (.num 0)))) (.add (.mulL (-111) (.add (.mulL 5147 (.add (.var 3) (.add (.mulL 10 (.add (.mulL 12 (.add (.var 8) (.num 20))) (.var 7))) (.num 1)))) (.mulL 4 (.num 123)))) (.mulL (-124) (.mulL 4 (.num 123)))))))) (.mulL (-130) (.mulL 2 (.num 0))))
/-- X6_castShade, 123 -/
def e_t75_123 : e_X := .add (.mulL 206 (.num 1)) (.mulL 4 (.num 35))
def e_p75 : List (Nat × List (Nat × Nat) × e_X) := [(0, [(0, 2), (1, 0), (2, 0), (3, 2)], e_t75_0), (35, [(0, 2), (1, 0), (2, 0), (3, 2), (4, 0), (5, 0), (6, 0)], e_t75_35), (123, [(0, 2), (1, 0), (2, 0), (3, 2), (4, 0), (5, 0), (6, 0), (7, 0), (8, 0)], e_t75_123)]
/-- X6_takeSky, 0 -/
def e_t76_0 : e_X := .add (.mulL 5148 (.add (.mulR (.var 1) 518) (.mulR (.var 0) 389))) (.add (.mulR (.add (.var 0) (.mulR (.var 1) 517)) 390) (.add (.mulR (.add (.var 0) (.mulL 5089 (.var 1))) 391) (.mulL 2 (.num 0))))
def e_p76 : List (Nat × List (Nat × Nat) × e_X) := [(0, [(0, 2), (1, 2)], e_t76_0)]
/-- X6_strengthAt, 0 -/
def e_t77_0 : e_X := .sub (.sub (.mulL 49 (.var 1)) (.add (.mulL (-5) (.mulL 43 (.add (.var 1) (.mulR (.var 0) 390)))) (.mulL (-13) (.num 1)))) (.add (.mulL (-13) (.mulL 1 (.num 0))) (.mulL (-15) (.add (.mulL 102 (.sub (.mulL 40 (.add (.mulL 5146 (.add (.mulR (.var 0) 389) (.var 1))) (.mulR (.var 0) 391))) (.add (.mulL (-30) (.mulL 5078 (.add (.var 0) (.var 1)))) (.mulL (-38) (.mulL 22 (.mulL 5146 (.add (.mulR (.var 0) 389) (.var 1)))))))) (.mulL 1 (.sub (.mulL 56 (.add (.var 2) (.mulL 1 (.num 0)))) (.add (.mulL (-54) (.num 0)) (.mulL (-58) (.sub (.mulL 58 (.add (.var 2) (.mulL 1 (.num 100)))) (.add (.mulL (-66) (.num 100)) (.mulL (-71) (.mulL 23 (.var 2))))))))))))
def e_p77 : List (Nat × List (Nat × Nat) × e_X) := [(0, [(0, 2), (1, 0)], e_t77_0)]
/-- X6_meanAround, 0 -/
def e_t78_0 : e_X := .add (.mulL 102 (.var 1)) (.mulL 4 (.num 2))
/-- X6_meanAround, 2 -/
def e_t78_2 : e_X := .sub (.sub (.mulL 49 (.var 2)) (.add (.mulL (-7) (.mulL 40 (.add (.mulL 5146 (.add (.mulR (.var 0) 389) (.var 2))) (.mulR (.var 0) 391)))) (.mulL (-28) (.num 0)))) (.add (.mulL (-22) (.add (.mulL 202 (.num (-1))) (.mulL 4 (.num 2)))) (.mulL (-28) (.add (.mulL 103 (.var 1)) (.mulL 4 (.num 29)))))
/-- X6_meanAround, 29 -/
def e_t78_29 : e_X := .sub (.sub (.mulL 42 (.add (.var 3) (.mulR (.var 0) 390))) (.add (.mulL (-38) (.mulL 40 (.add (.mulL 5146 (.add (.mulR (.var 0) 389) (.var 3))) (.mulR (.var 0) 391)))) (.mulL (-59) (.num 0)))) (.add (.mulL (-53) (.add (.mulL 203 (.num 1)) (.mulL 4 (.num 29)))) (.mulL (-59) (.sub (.sub (.mulL 48 (.var 2)) (.add (.mulL (-63) (.mulL 43 (.add (.var 3) (.mulR (.var 0) 390)))) (.mulL (-73) (.num 0)))) (.add (.mulL (-71) (.mulL 1 (.mulL 1 (.num 0)))) (.mulL (-73) (.add (.mulL 104 (.mulL 22 (.mulL 5146 (.add (.mulR (.var 0) 389) (.sub (.mulL 48 (.var 2)) (.add (.mulL (-81) (.var 3)) (.mulL (-85) (.var 2)))))))) (.add (.mulL 106 (.mulL 22 (.mulL 5146 (.add (.mulR (.var 0) 389) (.sub (.mulL 43 (.add (.var 3) (.mulR (.var 0) 390))) (.add (.mulL (-104) (.var 2)) (.mulL (-108) (.var 3)))))))) (.mulL 1 (.mulL 33 (.add (.mulL 30 (.add (.var 4) (.var 6))) (.mulL 1 (.num 2))))))))))))
def e_p78 : List (Nat × List (Nat × Nat) × e_X) := [(0, [(0, 2), (1, 0)], e_t78_0), (2, [(0, 2), (1, 0), (2, 0)], e_t78_2), (29, [(0, 2), (1, 0), (2, 0), (3, 0)], e_t78_29)]
/-- X7_takeAll, 0 -/
def e_t80_0 : e_X := .add (.mulR (.add (.var 0) (.mulR (.var 1) 448)) 448) (.add (.mulR (.add (.var 0) (.mulR (.var 1) 449)) 449) (.add (.mulR (.add (.var 0) (.mulR (.var 1) 450)) 450) (.add (.mulR (.add (.var 0) (.mulR (.var 1) 451)) 451) (.add (.mulR (.add (.var 0) (.mulR (.var 1) 452)) 452) (.mulL 2 (.num 0))))))
def e_p80 : List (Nat × List (Nat × Nat) × e_X) := [(0, [(0, 2), (1, 2)], e_t80_0)]
/-- X7_begin, 0 -/
def e_t81_0 : e_X := .add (.mulR (.add (.var 0) (.var 1)) 448) (.add (.mulR (.add (.var 0) (.var 2)) 449) (.add (.mulR (.add (.var 0) (.num 0)) 450) (.add (.mulR (.add (.var 0) (.num 0)) 451) (.add (.mulR (.add (.var 0) (.num 0)) 452) (.mulL 2 (.num 0))))))
def e_p81 : List (Nat × List (Nat × Nat) × e_X) := [(0, [(0, 2), (1, 0), (2, 0)], e_t81_0)]
/-- X7_goOn, 0 -/
def e_t82_0 : e_X := .sub (.sub (.mulL 47 (.mulR (.var 0) 451)) (.add (.mulL (-8) (.mulL 42 (.add (.var 1) (.mulR (.var 0) 452)))) (.mulL (-32) (.num 0)))) (.add (.mulL (-16) (.add (.mulR (.add (.var 0) (.sub (.mulL 46 (.mulR (.var 0) 450)) (.add (.mulL (-24) (.num 1)) (.mulL (-28) (.num 0))))) 450) (.mulL 4 (.num 31)))) (.mulL (-32) (.mulL 4 (.num 31))))
/-- X7_goOn, 31 -/
def e_t82_31 : e_X := .add (.mulR (.add (.var 0) (.num 1)) 451) (.add (.mulR (.add (.var 0) (.var 1)) 452) (.add (.mulL 67 (.mulR (.add (.var 0) (.sub (.mulL 47 (.mulR (.var 0) 450)) (.add (.mulL (-54) (.mulL 21 (.mulR (.var 0) 449))) (.mulL (-62) (.mulR (.var 0) 449))))) 448)) (.sub (.mulL 48 (.mulR (.var 0) 448)) (.add (.mulL (-77) (.add (.mulR (.add (.var 0) (.num 0)) 448) (.add (.mulR (.add (.var 0) (.sub (.mulL 46 (.mulR (.var 0) 450)) (.add (.mulL (-90) (.num 1)) (.mulL (-94) (.num 0))))) 450) (.mulL 4 (.num 133))))) (.mulL (-101) (.sub (.mulL 44 (.add (.mulR (.var 0) 448) (.num 500))) (.add (.mulL (-111) (.add (.mulR (.add (.var 0) (.num 500)) 448) (.add (.mulR (.add (.var 0) (.sub (.mulL 46 (.mulR (.var 0) 450)) (.add (.mulL (-126) (.num 1)) (.mulL (-130) (.num 0))))) 450) (.mulL 4 (.num 133))))) (.mulL (-134) (.mulL 4 (.num 133))))))))))
/-- X7_goOn, 133 -/
def e_t82_133 : e_X := .mulL 2 (.num 0)
def e_p82 : List (Nat × List (Nat × Nat) × e_X) := [(0, [(0, 2), (1, 0)], e_t82_0), (31, [(0, 2), (1, 0)], e_t82_31), (133, [(0, 2), (1, 0)], e_t82_133)]
/-- X8_holdsNothing, 0 -/
def e_t84_0 : e_X := .mulL 1 (.sub (.sub (.mulL 46 (.mulR (.var 0) 512)) (.add (.mulL (-8) (.mulL 46 (.mulR (.var 0) 513))) (.mulL (-19) (.num 0)))) (.add (.mulL (-15) (.num 1)) (.mulL (-19) (.num 0))))
def e_p84 : List (Nat × List (Nat × Nat) × e_X) := [(0, [(0, 2)], e_t84_0)]
/-- X8_holdNothing, 0 -/
def e_t85_0 : e_X := .add (.mulR (.add (.var 0) (.num 0)) 512) (.add (.mulR (.add (.var 0) (.num 0)) 513) (.mulL 2 (.num 0)))
def e_p85 : List (Nat × List (Nat × Nat) × e_X) := [(0, [(0, 2)], e_t85_0)]
/-- X8_holdPart, 0 -/
def e_t86_0 : e_X := .add (.mulR (.add (.var 0) (.num 1)) 512) (.add (.mulR (.add (.var 0) (.num 0)) 513) (.add (.mulR (.add (.var 0) (.var 1)) 514) (.add (.mulR (.add (.var 0) (.var 2)) 515) (.mulL 2 (.num 0)))))
def e_p86 : List (Nat × List (Nat × Nat) × e_X) := [(0, [(0, 2), (1, 0), (2, 0)], e_t86_0)]
/-- X8_holdRow, 0 -/
def e_t87_0 : e_X := .add (.mulR (.add (.var 0) (.num 0)) 512) (.add (.mulR (.add (.var 0) (.num 1)) 513) (.add (.mulR (.add (.var 0) (.var 1)) 516) (.add (.mulR (.add (.var 0) (.var 2)) 517) (.add (.mulL 5270 (.add (.mulR (.var 0) 518) (.num 0))) (.mulL 2 (.num 0))))))
def e_p87 : List (Nat × List (Nat × Nat) × e_X) := [(0, [(0, 2), (1, 0), (2, 0)], e_t87_0)]
/-- X8_lowestBits, 0 -/
def e_t88_0 : e_X := .mulL 1 (.sub (.mulL 46 (.mulR (.var 0) 516)) (.add (.mulL (-8) (.mulL 24 (.var 1))) (.mulL (-13) (.sub (.mulL 40 (.add (.mulR (.var 0) 516) (.num 1))) (.add (.mulL (-21) (.mulL 25 (.var 1))) (.mulL (-26) (.var 1)))))))
def e_p88 : List (Nat × List (Nat × Nat) × e_X) := [(0, [(0, 2), (1, 0)], e_t88_0)]
/-- X8_leastOfSort, 0 -/
def e_t89_0 : e_X := .mulL 1 (.sub (.mulL 46 (.mulR (.var 0) 516)) (.add (.mulL (-8) (.num (-128))) (.mulL (-13) (.sub (.mulL 40 (.add (.mulR (.var 0) 516) (.num 1))) (.add (.mulL (-21) (.num (-32768))) (.mulL (-27) (.num (-2147483648))))))))
def e_p89 : List (Nat × List (Nat × Nat) × e_X) := [(0, [(0, 2)], e_t89_0)]
/-- X8_hasRun, 0 -/
def e_t90_0 : e_X := .mulL 1 (.sub (.sub (.sub (.mulL 49 (.var 1)) (.add (.mulL (-5) (.mulL 49 (.var 2))) (.mulL (-35) (.num 0)))) (.add (.mulL (-9) (.mulL 59 (.add (.mulL 30 (.add (.mulL 22 (.var 1)) (.mulL 22 (.var 2)))) (.mulL 22 (.mulL 35 (.add (.mulR (.var 0) 517) (.mulL 63 (.mulR (.var 0) 518)))))))) (.mulL (-35) (.num 0)))) (.add (.mulL (-31) (.num 1)) (.mulL (-35) (.num 0))))
def e_p90 : List (Nat × List (Nat × Nat) × e_X) := [(0, [(0, 2), (1, 0), (2, 0)], e_t90_0)]
/-- X8_placeOf, 0 -/
def e_t91_0 : e_X := .add (.mulL 102 (.num 0)) (.mulL 4 (.num 2))
/-- X8_placeOf, 2 -/
def e_t91_2 : e_X := .sub (.mulL 42 (.add (.var 2) (.mulR (.var 0) 517))) (.add (.mulL (-11) (.sub (.mulL 40 (.add (.mulL 5146 (.add (.mulR (.var 0) 518) (.var 2))) (.var 1))) (.add (.mulL (-23) (.mulL 1 (.var 2))) (.mulL (-25) (.add (.mulL 202 (.num 1)) (.mulL 4 (.num 2))))))) (.mulL (-31) (.mulL 1 (.mulR (.var 0) 517))))
def e_p91 : List (Nat × List (Nat × Nat) × e_X) := [(0, [(0, 2), (1, 0)], e_t91_0), (2, [(0, 2), (1, 0), (2, 0)], e_t91_2)]
/-- X9_takeAll, 0 -/
def e_t93_0 : e_X := .add (.mulL 5148 (.add (.mulR (.var 1) 576) (.mulR (.var 0) 576))) (.add (.mulL 5148 (.add (.mulR (.var 1) 577) (.mulR (.var 0) 577))) (.add (.mulR (.add (.var 0) (.mulR (.var 1) 578)) 578) (.mulL 2 (.num 0))))
def e_p93 : List (Nat × List (Nat × Nat) × e_X) := [(0, [(0, 2), (1, 2)], e_t93_0)]
/-- X9_plan, 0 -/
def e_t94_0 : e_X := .add (.mulL 5270 (.add (.mulR (.var 0) 579) (.num 0))) (.add (.mulL 101 (.num 11)) (.mulL 4 (.num 11)))
/-- X9_plan, 11 -/
def e_t94_11 : e_X := .sub (.mulL 49 (.var 1)) (.add (.mulL (-16) (.add (.mulL 102 (.num 0)) (.mulL 4 (.num 17)))) (.mulL (-101) (.mulL 2 (.num 0))))
/-- X9_plan, 17 -/
def e_t94_17 : e_X := .sub (.mulL 45 (.add (.var 2) (.mulR (.var 0) 578))) (.add (.mulL (-26) (.add (.mulL 103 (.mulL 10 (.add (.var 2) (.mulL 5146 (.add (.mulR (.var 0) 576) (.var 1)))))) (.add (.mulL 104 (.num 0)) (.add (.mulL 105 (.mulL 5095 (.add (.var 0) (.var 3)))) (.mulL 4 (.num 46)))))) (.mulL (-95) (.add (.mulL 201 (.num (-1))) (.mulL 4 (.num 11)))))
/-- X9_plan, 46 -/
def e_t94_46 : e_X := .sub (.mulL 45 (.add (.var 5) (.var 3))) (.add (.mulL (-53) (.add (.mulL 104 (.mulL 34 (.add (.var 4) (.mulL 5096 (.add (.var 0) (.add (.var 1) (.add (.var 3) (.var 5)))))))) (.add (.mulL 205 (.num 1)) (.mulL 4 (.num 46))))) (.mulL (-74) (.add (.mulL 5147 (.add (.mulR (.var 0) 579) (.add (.mulL 10 (.add (.mulL 12 (.add (.var 1) (.num 31))) (.var 2))) (.var 4)))) (.add (.mulL 202 (.num 1)) (.mulL 4 (.num 17))))))
def e_p94 : List (Nat × List (Nat × Nat) × e_X) := [(0, [(0, 2)], e_t94_0), (11, [(0, 2), (1, 0)], e_t94_11), (17, [(0, 2), (1, 0), (2, 0)], e_t94_17), (46, [(0, 2), (1, 0), (2, 0), (3, 0), (4, 0), (5, 0)], e_t94_46)]
/-- X9_leastSold, 0 -/
def e_t95_0 : e_X := .mulL 1 (.mulL 34 (.add (.num 0) (.mulL 11 (.add (.var 1) (.mulR (.var 0) 578)))))
def e_p95 : List (Nat × List (Nat × Nat) × e_X) := [(0, [(0, 2), (1, 0)], e_t95_0)]
/-- X9_taken, 0 -/
def e_t96_0 : e_X := .mulL 1 (.mulL 10 (.add (.mulL 12 (.add (.var 3) (.mulL 5146 (.add (.mulR (.var 0) 577) (.var 1))))) (.mulL 5146 (.add (.mulR (.var 0) 579) (.mulL 11 (.add (.mulL 10 (.add (.mulL 12 (.add (.mulL 10 (.add (.var 1) (.num 1))) (.num 31))) (.var 2))) (.var 3)))))))
def e_p96 : List (Nat × List (Nat × Nat) × e_X) := [(0, [(0, 2), (1, 0), (2, 0), (3, 0)], e_t96_0)]
/-- X9_mostTaken, 0 -/
def e_t97_0 : e_X := .mulL 1 (.mulL 5146 (.add (.mulR (.var 0) 579) (.num 0)))
def e_p97 : List (Nat × List (Nat × Nat) × e_X) := [(0, [(0, 2)], e_t97_0)]
/-- X9_soldIn, 0 -/
def e_t98_0 : e_X := .add (.mulL 102 (.num 0)) (.add (.mulL 103 (.num 0)) (.add (.mulL 104 (.num 0)) (.mulL 4 (.num 7))))
/-- X9_soldIn, 7 -/
def e_t98_7 : e_X := .sub (.mulL 45 (.add (.var 4) (.var 1))) (.add (.mulL (-14) (.add (.mulL 105 (.mulL 10 (.add (.var 2) (.mulL 5146 (.add (.mulR (.var 0) 576) (.var 4)))))) (.add (.mulL 106 (.mulL 5146 (.add (.mulR (.var 0) 579) (.mulL 10 (.add (.mulL 12 (.add (.var 4) (.num 31))) (.var 2)))))) (.add (.mulL 103 (.mulL 5095 (.add (.var 0) (.var 5)))) (.mulL 4 (.num 49)))))) (.mulL (-87) (.mulL 1 (.var 3))))
/-- X9_soldIn, 49 -/
def e_t98_49 : e_X := .sub (.sub (.mulL 42 (.add (.var 3) (.var 5))) (.add (.mulL (-56) (.mulL 41 (.add (.mulL 5096 (.add (.var 0) (.add (.var 4) (.add (.var 5) (.var 3))))) (.var 6)))) (.mulL (-76) (.num 0)))) (.add (.mulL (-70) (.add (.mulL 203 (.num 1)) (.mulL 4 (.num 49)))) (.mulL (-76) (.add (.mulL 102 (.mulL 11 (.add (.var 5) (.var 3)))) (.add (.mulL 204 (.num 1)) (.mulL 4 (.num 7))))))
def e_p98 : List (Nat × List (Nat × Nat) × e_X) := [(0, [(0, 2), (1, 0)], e_t98_0), (7, [(0, 2), (1, 0), (2, 0), (3, 0), (4, 0)], e_t98_7), (49, [(0, 2), (1, 0), (2, 0), (3, 0), (4, 0), (5, 0), (6, 0)], e_t98_49)]
/-- X10_plan, 0 -/
def e_t100_0 : e_X := .add (.mulR (.add (.var 0) (.mulR (.var 1) 517)) 640) (.add (.mulL 5147 (.add (.mulR (.var 0) 641) (.add (.mulR (.var 0) 640) (.num 0)))) (.add (.mulL 5147 (.add (.mulR (.var 0) 642) (.add (.mulR (.var 0) 640) (.num 0)))) (.add (.mulL 5147 (.add (.mulR (.var 0) 643) (.add (.mulR (.var 0) 640) (.mulR (.var 0) 640)))) (.add (.mulL 104 (.mulL 11 (.add (.mulR (.var 0) 640) (.num 1)))) (.mulL 4 (.num 55))))))
/-- X10_plan, 55 -/
def e_t100_55 : e_X := .sub (.mulL 49 (.var 4)) (.add (.mulL (-61) (.add (.mulL 5101 (.add (.var 0) (.add (.var 4) (.add (.var 1) (.add (.var 2) (.var 3)))))) (.add (.mulL 204 (.num (-1))) (.mulL 4 (.num 55))))) (.mulL (-76) (.mulL 2 (.num 0))))
def e_p100 : List (Nat × List (Nat × Nat) × e_X) := [(0, [(0, 2), (1, 2), (2, 0), (3, 0)], e_t100_0), (55, [(0, 2), (1, 2), (2, 0), (3, 0), (4, 0)], e_t100_55)]
