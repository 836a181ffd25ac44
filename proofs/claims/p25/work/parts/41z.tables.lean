section
def e_prog0 : List (List (Nat × List (Nat × Nat) × e_X)) := [[], e_p1, e_p2, e_p3, e_p4, e_p5, e_p6, e_p7, e_p8, e_p9, e_p10, e_p11, e_p12, e_p13, e_p14, e_p15]
def e_prog1 : List (List (Nat × List (Nat × Nat) × e_X)) := [e_p16, e_p17, e_p18, e_p19, e_p20, e_p21, e_p22, e_p23, e_p24, e_p25, e_p26, e_p27, e_p28, e_p29, e_p30, e_p31]
def e_prog2 : List (List (Nat × List (Nat × Nat) × e_X)) := [e_p32, [], e_p34, e_p35, e_p36, e_p37, e_p38, e_p39, [], e_p41, e_p42, e_p43, e_p44, e_p45, e_p46, []]
def e_prog3 : List (List (Nat × List (Nat × Nat) × e_X)) := [e_p48, e_p49, [], e_p51, e_p52, e_p53, e_p54, e_p55, e_p56, [], e_p58, e_p59, e_p60, e_p61, e_p62, e_p63]
def e_prog4 : List (List (Nat × List (Nat × Nat) × e_X)) := [e_p64, e_p65, e_p66, e_p67, e_p68, e_p69, e_p70, [], e_p72, e_p73, e_p74, e_p75, e_p76, e_p77, e_p78, []]
def e_prog5 : List (List (Nat × List (Nat × Nat) × e_X)) := [e_p80, e_p81, e_p82, [], e_p84, e_p85, e_p86, e_p87, e_p88, e_p89, e_p90, e_p91, [], e_p93, e_p94, e_p95]
def e_prog6 : List (List (Nat × List (Nat × Nat) × e_X)) := [e_p96, e_p97, e_p98, [], e_p100, e_p101, e_p102, [], e_p104, e_p105, e_p106, e_p107, e_p108, e_p109, e_p110, e_p111]
def e_prog7 : List (List (Nat × List (Nat × Nat) × e_X)) := [e_p112, e_p113, e_p114, e_p115, e_p116, e_p117, e_p118, e_p119, e_p120, e_p121, e_p122, e_p123, e_p124, e_p125, e_p126, e_p127]
def e_prog8 : List (List (Nat × List (Nat × Nat) × e_X)) := [e_p128, e_p129, e_p130, e_p131, e_p132, e_p133, e_p134, e_p135, e_p136, e_p137, e_p138, e_p139, e_p140, e_p141, e_p142, e_p143]
def e_prog9 : List (List (Nat × List (Nat × Nat) × e_X)) := [e_p144, e_p145, e_p146, e_p147, e_p148, e_p149, e_p150, e_p151, e_p152, e_p153, e_p154, e_p155, e_p156, e_p157, e_p158, e_p159]
def e_prog10 : List (List (Nat × List (Nat × Nat) × e_X)) := [e_p160, e_p161, e_p162, e_p163, e_p164, e_p165, e_p166, [], e_p168, e_p169, e_p170, e_p171, e_p172, e_p173, e_p174, e_p175]
def e_prog11 : List (List (Nat × List (Nat × Nat) × e_X)) := [e_p176, e_p177, e_p178, e_p179, e_p180, e_p181, e_p182, e_p183, e_p184, e_p185, e_p186, e_p187, e_p188, e_p189, e_p190, e_p191]
def e_prog12 : List (List (Nat × List (Nat × Nat) × e_X)) := [e_p192, e_p193, e_p194, e_p195, e_p196, e_p197, e_p198, e_p199, e_p200, e_p201, e_p202, e_p203, e_p204, e_p205, e_p206, e_p207]
def e_prog13 : List (List (Nat × List (Nat × Nat) × e_X)) := [e_p208, e_p209, e_p210, e_p211, e_p212, e_p213, e_p214, e_p215, e_p216, e_p217, e_p218, e_p219, e_p220, e_p221, e_p222, e_p223]
def e_prog14 : List (List (Nat × List (Nat × Nat) × e_X)) := [e_p224, e_p225, e_p226, e_p227, e_p228, e_p229, e_p230, e_p231, e_p232, e_p233, e_p234, e_p235, e_p236, e_p237, e_p238, e_p239]
def e_prog15 : List (List (Nat × List (Nat × Nat) × e_X)) := [e_p240, e_p241, e_p242, e_p243, e_p244, e_p245, e_p246, e_p247, e_p248, e_p249, e_p250, e_p251, e_p252, e_p253, e_p254, e_p255]
def e_prog16 : List (List (Nat × List (Nat × Nat) × e_X)) := [e_p256, e_p257, e_p258, e_p259, e_p260, e_p261, e_p262, e_p263, e_p264, e_p265, e_p266, [], [], [], e_p270, e_p271]
def e_prog17 : List (List (Nat × List (Nat × Nat) × e_X)) := [e_p272, e_p273, e_p274, [], [], [], [], [], [], [], [], [], [], [], [], []]
def e_prog18 : List (List (Nat × List (Nat × Nat) × e_X)) := [[], [], [], [], [], [], [], [], [], [], [], [], [], [], [], []]
def e_prog19 : List (List (Nat × List (Nat × Nat) × e_X)) := [e_p304, e_p305, e_p306, e_p307, e_p308, e_p309]
def e_prog : List (List (List (Nat × List (Nat × Nat) × e_X))) := [e_prog0, e_prog1, e_prog2, e_prog3, e_prog4, e_prog5, e_prog6, e_prog7, e_prog8, e_prog9, e_prog10, e_prog11, e_prog12, e_prog13, e_prog14, e_prog15, e_prog16, e_prog17, e_prog18, e_prog19]
/-- the method of a number: some are there twice, for the calls of themselves -/
def e_vmL : List (List Nat) := [[0, 1, 2, 3, 4, 5, 6, 7, 8, 9, 10, 11, 12, 13, 14, 15],
  [16, 17, 18, 19, 20, 21, 22, 23, 24, 25, 26, 27, 28, 29, 30, 31],
  [32, 33, 34, 35, 36, 37, 38, 39, 40, 41, 42, 43, 44, 45, 46, 47],
  [48, 49, 50, 51, 52, 53, 54, 55, 56, 57, 58, 59, 60, 61, 62, 63],
  [64, 65, 66, 67, 68, 69, 70, 71, 72, 73, 74, 75, 76, 77, 78, 79],
  [80, 81, 82, 83, 84, 85, 86, 87, 88, 89, 90, 91, 92, 93, 94, 95],
  [96, 97, 98, 99, 100, 101, 102, 103, 104, 105, 106, 107, 108, 109, 110, 111],
  [112, 113, 114, 115, 116, 117, 118, 119, 120, 121, 122, 123, 124, 125, 126, 127],
  [128, 129, 130, 131, 132, 133, 134, 135, 136, 137, 138, 139, 140, 141, 142, 143],
  [144, 145, 146, 147, 148, 149, 150, 151, 152, 153, 154, 155, 156, 157, 158, 159],
  [160, 161, 162, 163, 164, 165, 166, 167, 168, 169, 170, 171, 172, 173, 174, 175],
  [176, 177, 178, 179, 180, 181, 182, 183, 184, 185, 186, 187, 188, 189, 190, 191],
  [192, 193, 194, 195, 196, 197, 198, 199, 200, 201, 202, 203, 204, 205, 206, 207],
  [208, 209, 210, 211, 212, 213, 214, 215, 216, 217, 218, 219, 220, 221, 222, 223],
  [224, 225, 226, 227, 228, 229, 230, 231, 232, 233, 234, 235, 236, 237, 238, 239],
  [240, 241, 242, 243, 244, 245, 246, 247, 248, 249, 250, 251, 252, 253, 254, 255],
  [256, 257, 258, 259, 260, 261, 262, 263, 264, 265, 266, 267, 268, 269, 270, 271],
  [272, 273, 274, 0, 0, 0, 0, 0, 0, 0, 0, 0, 0, 0, 0, 0],
  [0, 0, 0, 0, 0, 0, 0, 0, 0, 0, 0, 0, 176, 202, 204, 0],
  [176, 176, 202, 202, 204, 204]]
def e_vm (v : Nat) : Nat := (e_vmL.getD (v / 16) []).getD (v % 16) 0
/-- how deep its calls go -/
def e_htL : List (List Nat) := [[1, 5, 4, 3, 4, 3, 3, 3, 4, 3, 5, 6, 5, 4, 3, 3],
  [7, 4, 3, 3, 4, 7, 5, 5, 3, 3, 3, 7, 4, 4, 6, 6],
  [3, 1, 3, 3, 3, 3, 3, 3, 1, 7, 4, 4, 3, 4, 3, 1],
  [4, 4, 1, 3, 3, 3, 2, 3, 3, 1, 7, 5, 4, 3, 3, 2],
  [2, 2, 2, 3, 6, 5, 5, 1, 3, 3, 4, 3, 3, 4, 3, 1],
  [2, 2, 2, 1, 2, 2, 2, 3, 2, 2, 2, 3, 1, 3, 4, 2],
  [3, 3, 4, 1, 4, 3, 3, 1, 8, 6, 6, 4, 4, 10, 8, 8],
  [8, 6, 5, 8, 8, 4, 3, 3, 5, 4, 5, 9, 9, 6, 6, 8],
  [3, 2, 5, 9, 10, 6, 9, 9, 5, 5, 4, 9, 4, 4, 10, 3],
  [4, 4, 2, 2, 2, 2, 3, 2, 2, 2, 2, 4, 3, 3, 7, 8],
  [8, 5, 3, 4, 8, 6, 8, 1, 2, 3, 2, 2, 2, 3, 2, 6],
  [5, 2, 3, 3, 4, 4, 5, 6, 4, 3, 4, 4, 5, 4, 7, 7],
  [4, 3, 2, 5, 4, 4, 4, 5, 2, 6, 9, 10, 9, 2, 11, 10],
  [2, 11, 11, 2, 11, 6, 4, 3, 11, 11, 2, 4, 3, 3, 2, 3],
  [4, 5, 2, 3, 4, 12, 13, 13, 5, 3, 4, 5, 6, 6, 5, 3],
  [7, 3, 3, 2, 3, 12, 13, 13, 7, 2, 2, 5, 10, 11, 11, 2],
  [2, 3, 10, 4, 5, 4, 4, 4, 5, 5, 2, 1, 1, 1, 2, 11],
  [11, 11, 14, 1, 1, 1, 1, 1, 1, 1, 1, 1, 1, 1, 1, 1],
  [1, 1, 1, 1, 1, 1, 1, 1, 1, 1, 1, 1, 2, 2, 2, 1],
  [4, 3, 8, 7, 8, 7]]
def e_ht (v : Nat) : Nat := (e_htL.getD (v / 16) []).getD (v % 16) 1
/-- what it is given: 0 int, 1 long, 2 object, 3 boolean -/
def e_ptL : List (List (List Nat)) := [[[], [2, 0], [2, 2], [2], [2, 0], [2, 0, 0], [2], [2, 0], [2, 2, 0], [2, 0], [2, 0], [2], [2, 0], [2, 0, 0], [2, 0, 0], [2, 0, 0]],
  [[2, 0], [2, 0, 0], [2, 0, 0], [2, 0], [2, 0], [2], [2], [2, 0], [2], [2], [2, 0], [2], [2, 0], [2], [2, 0], [2, 0, 0]],
  [[2, 0], [], [2, 2], [2, 0], [2, 0, 0], [2, 0, 0], [2, 0, 2], [2, 2], [], [2, 2, 2], [2, 2], [2, 2, 0], [2, 0], [2], [2, 0], []],
  [[2, 2], [2, 0, 0], [], [2, 2], [2, 0, 0], [2, 0, 0, 0, 0], [0, 0], [2, 0], [2, 0], [], [2, 2, 2], [2, 2], [2, 0], [2, 0], [2, 0], [2, 0]],
  [[2], [2], [2], [2], [2, 2, 0], [2, 2, 0, 0], [2, 2, 0, 0, 0, 0], [], [2, 2], [2], [2, 0, 2], [2, 0, 0, 2], [2, 2], [2, 0], [2, 0], []],
  [[2, 2], [2, 0, 0], [2, 0], [], [2], [2], [2, 0, 0], [2, 0, 0], [2, 0], [2], [2, 0, 0], [2, 0], [], [2, 2], [2], [2, 0]],
  [[2, 0, 0, 0], [2], [2, 0], [], [2, 2, 0, 0], [2, 0, 2, 0, 0], [2, 0], [], [2, 0], [2, 0, 0], [2, 0, 0, 0], [2, 0, 0, 0], [2, 0, 3], [2, 0, 0], [2, 0, 0], [2, 0, 0]],
  [[2, 0, 0], [2, 0, 0, 0], [2, 0, 0, 0], [2, 0, 0], [2, 0, 0, 0], [2, 0, 0, 0], [2, 0, 0, 0, 0], [2, 0, 0, 0], [2, 0, 0], [2, 0], [2, 0, 0], [2, 0, 0, 0], [2, 0, 0], [2, 0, 0], [2, 0, 0, 0], [2, 0, 0]],
  [[2, 0, 0], [2, 0], [2, 0], [2, 0, 0], [2, 0, 0, 3], [2, 0], [2, 0, 0, 0], [2, 0, 0], [2], [2], [2, 0], [2, 0, 0, 0], [2, 0, 0, 0], [2, 0, 0, 0], [2, 0, 0], [2, 0, 0, 0, 0, 0]],
  [[2, 0], [2, 0], [2, 0], [2, 0, 0], [2, 2], [2, 0], [2, 0, 0], [0], [0], [0], [2, 0], [2, 0], [2, 0], [2], [2, 0, 0], [2, 0, 0, 0]],
  [[2, 0, 0], [2, 0, 0], [2], [2, 2], [2, 0, 0], [2, 0], [2, 0], [], [1, 1, 1], [2, 0], [2, 0], [2, 0], [2, 0, 0], [0], [0, 0], [2, 0]],
  [[2, 0], [2], [2, 0], [2], [2], [2], [2], [2], [2, 0], [2, 0, 0, 0], [2, 0], [2, 0, 0, 0], [2], [2, 0, 0], [2, 0], [2, 0, 0]],
  [[2, 0], [2, 0, 0], [2, 0, 0, 0], [2, 0, 0, 0], [2, 0, 0, 0], [2, 0, 3], [2, 0, 0, 0], [2, 0, 0, 0], [2, 0, 0], [2, 0, 0], [2, 0, 0], [2, 0], [2, 0], [2], [2, 0, 0], [2, 0, 0]],
  [[2], [2, 0], [2, 0, 0], [2, 0], [2, 0, 0], [2, 0, 0, 0], [2, 0, 0, 0], [2, 0], [2, 0, 0], [2, 0, 0, 0], [0], [2, 0, 0, 0], [2, 0, 0, 0, 0], [2, 0, 0, 0], [2, 0, 0, 0], [2, 0, 0]],
  [[2, 0, 0], [2, 0], [2, 0], [2, 0], [2, 0, 0], [2, 0, 0, 0], [2, 0, 0, 0], [2, 0, 0], [2, 0, 0], [2, 0, 0], [2, 0, 0], [2, 0, 0], [2, 0, 0], [2, 0, 0, 0], [2, 0], [2, 0, 0]],
  [[2, 0, 0], [2, 0, 0], [2, 0], [2], [2, 0], [2, 0, 0], [2, 0, 0], [2, 0, 0, 3], [2, 0], [2, 0], [2], [2, 0, 0], [2, 0, 0, 0], [2, 0, 0, 0], [2, 0, 0], [2]],
  [[2], [2, 0], [2, 0, 0, 0], [2, 0, 0, 0], [2, 0, 0, 0], [2, 0, 0], [2, 0, 0, 0, 0, 0], [2, 0], [2, 0], [2, 0], [0], [], [], [], [2, 0], [2, 0, 0, 2]],
  [[2, 0, 0, 3, 2], [2, 0, 0, 2], [2], [], [], [], [], [], [], [], [], [], [], [], [], []],
  [[], [], [], [], [], [], [], [], [], [], [], [], [2, 0], [2, 0, 0], [2, 0], []],
  [[2, 0], [2, 0], [2, 0, 0], [2, 0, 0], [2, 0], [2, 0]]]
def e_pt (v : Nat) : (List Nat) := (e_ptL.getD (v / 16) []).getD (v % 16) []
def e_nlL : List (List Nat) := [[0, 7, 3, 1, 7, 4, 3, 4, 4, 8, 3, 2, 3, 6, 5, 7],
  [3, 5, 5, 2, 2, 1, 2, 6, 3, 5, 4, 5, 5, 1, 2, 3],
  [4, 0, 2, 3, 6, 3, 9, 4, 0, 6, 3, 4, 2, 5, 5, 0],
  [5, 4, 0, 2, 4, 7, 2, 3, 4, 0, 5, 2, 3, 2, 2, 2],
  [1, 1, 1, 1, 6, 6, 8, 0, 2, 3, 4, 9, 2, 4, 8, 0],
  [2, 3, 2, 0, 1, 1, 3, 3, 2, 1, 3, 3, 0, 2, 6, 2],
  [4, 1, 7, 0, 5, 13, 4, 0, 4, 5, 4, 5, 5, 3, 3, 3],
  [3, 4, 6, 5, 6, 4, 8, 6, 3, 4, 3, 4, 5, 4, 5, 6],
  [5, 3, 2, 3, 10, 2, 5, 4, 1, 1, 2, 5, 5, 6, 4, 8],
  [4, 4, 2, 3, 2, 2, 3, 1, 1, 1, 2, 3, 2, 1, 3, 4],
  [3, 5, 3, 4, 5, 5, 3, 0, 6, 2, 2, 2, 3, 1, 2, 2],
  [3, 1, 2, 1, 1, 1, 1, 2, 6, 4, 8, 7, 5, 3, 5, 3],
  [6, 4, 4, 4, 5, 4, 9, 6, 3, 6, 5, 3, 3, 3, 5, 3],
  [3, 3, 4, 2, 6, 10, 6, 3, 5, 7, 1, 5, 6, 5, 11, 8],
  [3, 4, 2, 10, 3, 5, 4, 5, 5, 3, 5, 7, 4, 9, 6, 5],
  [9, 4, 3, 7, 4, 4, 3, 9, 2, 2, 1, 4, 6, 7, 12, 2],
  [2, 4, 4, 5, 5, 3, 8, 2, 3, 3, 1, 0, 0, 0, 4, 5],
  [6, 5, 8, 0, 0, 0, 0, 0, 0, 0, 0, 0, 0, 0, 0, 0],
  [0, 0, 0, 0, 0, 0, 0, 0, 0, 0, 0, 0, 3, 5, 3, 0],
  [3, 3, 5, 5, 3, 3]]
def e_nl (v : Nat) : Nat := (e_nlL.getD (v / 16) []).getD (v % 16) 0
/-- those that may throw -/
def e_thr (v : Nat) : Bool := Nat.beq v 109 || Nat.beq v 132 || Nat.beq v 142
def e_LAW : Nat := 274
end
section
def e_lb (v pc : Nat) : Option (List (Nat × Nat) × e_X) := q_find ((e_prog.getD (v / 16) []).getD (v % 16) []) pc
def e_tr (v pc : Nat) : e_X := match e_lb v pc with
  | some q => q.2
  | none => .num 0
def e_pd : List Nat → List Int → List Int
  | [], _ => []
  | _, [] => []
  | t :: P, a :: as => if t = 1 then a :: 0 :: e_pd P as else a :: e_pd P as
/-- a frame's locals at its start -/
def e_pad (v : Nat) (as : List Int) : List Int := e_pd (e_pt v) as ++ List.replicate (e_nl v - (e_pd (e_pt v) as).length) 0
/-- a receiver of the method's class -/
def e_rok (v : Nat) (as : List Int) : Bool := match q_rc (e_vm v) with
  | none => true
  | some ci => decide (e_isO ci (as.getD 0 0))
/-- n labels deep -/
def e_run : Nat → Nat → Nat → List Int → EM → EO
  | 0, _, _, _, _ => none
  | n + 1, v, pc, L, M => e_tv (fun u as M' => if e_rok u as = true then e_run n u 0 (e_pad u as) M' else none) (fun pc' L' M' => e_run n v pc' L' M') (e_tr v pc) L M
section ECONT
variable {K J : Nat → List Int → EM → EO} {Kn Jn : Nat → Nat → List Int → EM → EO}
theorem e_two {P Q : Nat → Prop} (h1 : ∃ n, ∀ m, n ≤ m → P m) (h2 : ∃ n, ∀ m, n ≤ m → Q m) : ∃ n, ∀ m, n ≤ m → P m ∧ Q m := by
  obtain ⟨a, h1⟩ := h1
  obtain ⟨b, h2⟩ := h2
  exact ⟨max a b, fun m hm => ⟨h1 m (by omega), h2 m (by omega)⟩⟩
theorem e_b1t {α β : Type} {f : Nat → Option α} {g : Nat → α → Option β} {x : α} {y : β} (h1 : ∃ n, ∀ m, n ≤ m → f m = some x) (h2 : ∃ n, ∀ m, n ≤ m → g m x = some y) : ∃ n, ∀ m, n ≤ m → (f m).bind (g m) = some y := by
  obtain ⟨n, h⟩ := e_two h1 h2
  exact ⟨n, fun m hm => by rw [(h m hm).1, Option.bind_some]; exact (h m hm).2⟩
theorem e_b0t {α β : Type} {o : Option α} {g : Nat → α → Option β} {x : α} {y : β} (h1 : o = some x) (h2 : ∃ n, ∀ m, n ≤ m → g m x = some y) : ∃ n, ∀ m, n ≤ m → o.bind (g m) = some y := by
  subst h1
  exact h2
theorem e_ct0 {α : Type} {o : Option α} {y : α} (h : o = some y) : ∃ n : Nat, ∀ m : Nat, n ≤ m → o = some y := ⟨0, fun _ _ => h⟩
theorem e_ev_ct (hK : ∀ u as M r, K u as M = some r → ∃ n, ∀ m, n ≤ m → Kn m u as M = some r) {L : List Int} : ∀ (x : e_X) (M : EM) (r : List Int × EM), e_ev K L x M = some r → ∃ n, ∀ m, n ≤ m → e_ev (Kn m) L x M = some r
  | .num v, M, r, e => e_ct0 e
  | .var i, M, r, e => e_ct0 e
  | .add a b, M, r, e => by
    simp only [e_ev, Option.bind_eq_some_iff] at e
    obtain ⟨x, hx, y, hy, e⟩ := e
    simp only [e_ev]
    exact e_b1t (e_ev_ct hK a M x hx) (e_b1t (e_ev_ct hK b _ y hy) (e_ct0 e))
  | .mulL k a, M, r, e => by
    unfold e_ev at e ⊢
    split at e
    · rename_i h; simp only [if_pos h]; exact e_ev_ct hK a M r e
    · rename_i h; simp only [if_neg h]
      simp only [Option.bind_eq_some_iff] at e
      obtain ⟨x, hx, e⟩ := e
      refine e_b1t (e_ev_ct hK a M x hx) ?_
      split at e
      · rename_i h5; simp only [if_pos h5]
        simp only [Option.bind_eq_some_iff] at e
        obtain ⟨y, hy, e⟩ := e
        exact e_b1t (hK _ _ _ _ hy) (e_ct0 e)
      · rename_i h5; simp only [if_neg h5]; exact e_ct0 e
  | .mulR a k, M, r, e => by
    simp only [e_ev, Option.bind_eq_some_iff] at e
    obtain ⟨x, hx, e⟩ := e
    simp only [e_ev]
    exact e_b1t (e_ev_ct hK a M x hx) (e_ct0 (Option.bind_eq_some_iff.mpr e))
  | .sub c (.add a b), M, r, e => by
    simp only [e_ev, Option.bind_eq_some_iff] at e
    obtain ⟨x, hx, e⟩ := e
    simp only [e_ev]
    refine e_b1t (e_ev_ct hK c M x hx) ?_
    split at e
    · rename_i h; simp only [if_pos h]; exact e_ev_ct hK b _ r e
    · rename_i h; simp only [if_neg h]; exact e_ev_ct hK a _ r e
  | .sub c (.num _), M, r, e => by simp [e_ev] at e
  | .sub c (.var _), M, r, e => by simp [e_ev] at e
  | .sub c (.sub _ _), M, r, e => by simp [e_ev] at e
  | .sub c (.neg _), M, r, e => by simp [e_ev] at e
  | .sub c (.mulL _ _), M, r, e => by simp [e_ev] at e
  | .sub c (.mulR _ _), M, r, e => by simp [e_ev] at e
  | .neg _, M, r, e => by simp [e_ev] at e
theorem e_sv_ct (hK : ∀ u as M r, K u as M = some r → ∃ n, ∀ m, n ≤ m → Kn m u as M = some r) {s : e_X} {L : List Int} {M : EM} {r : List Int × EM} (e : e_sv K s L M = some r) : ∃ n, ∀ m, n ≤ m → e_sv (Kn m) s L M = some r := by
  unfold e_sv at e ⊢
  split at e
  · rename_i k x
    try dsimp only
    split at e
    · rename_i h; simp only [if_pos h]
      obtain ⟨y, hy, e⟩ := Option.bind_eq_some_iff.mp e
      exact e_b1t (e_ev_ct hK _ _ _ hy) (e_ct0 e)
    rename_i h; simp only [if_neg h]
    split at e
    · rename_i h; simp only [if_pos h]
      obtain ⟨y, hy, e⟩ := Option.bind_eq_some_iff.mp e
      exact e_b1t (e_ev_ct hK _ _ _ hy) (e_ct0 e)
    rename_i h; simp only [if_neg h]
    split at e
    · rename_i h; simp only [if_pos h]
      obtain ⟨y, hy, e⟩ := Option.bind_eq_some_iff.mp e
      exact e_b1t (e_ev_ct hK _ _ _ hy) (e_ct0 e)
    rename_i h; simp only [if_neg h]
    split at e
    · rename_i h; simp only [if_pos h]
      split at e
      · try dsimp only
        simp only [Option.bind_eq_some_iff] at e
        obtain ⟨y, hy, u, hu, q, hq, e⟩ := e
        exact e_b1t (e_ev_ct hK _ _ _ hy) (e_b0t hu (e_b1t (e_ev_ct hK _ _ _ hq) (e_ct0 (by simp only [Option.bind_eq_some_iff]; exact e))))
      · cases e
    rename_i h; simp only [if_neg h]
    split at e
    · rename_i h; simp only [if_pos h]
      split at e
      · try dsimp only
        simp only [Option.bind_eq_some_iff] at e
        obtain ⟨y, hy, u, hu, q, hq, e⟩ := e
        exact e_b1t (e_ev_ct hK _ _ _ hy) (e_b0t hu (e_b1t (e_ev_ct hK _ _ _ hq) (e_ct0 (by simp only [Option.bind_eq_some_iff]; exact e))))
      · cases e
    rename_i h; simp only [if_neg h]
    split at e
    · rename_i h; simp only [if_pos h]
      obtain ⟨y, hy, e⟩ := Option.bind_eq_some_iff.mp e
      exact e_b1t (e_ev_ct hK _ _ _ hy) (e_ct0 e)
    rename_i h; simp only [if_neg h]
    split at e
    · rename_i h; simp only [if_pos h]; exact e_ct0 e
    rename_i h; simp only [if_neg h]
    split at e
    · rename_i h; simp only [if_pos h]
      obtain ⟨y, hy, e⟩ := Option.bind_eq_some_iff.mp e
      exact e_b1t (e_ev_ct hK _ _ _ hy) (e_ct0 e)
    · cases e
  · try dsimp only
    obtain ⟨y, hy, e⟩ := Option.bind_eq_some_iff.mp e
    exact e_b1t (e_ev_ct hK _ _ _ hy) (e_ct0 e)
  · cases e
theorem e_tv_ct (hK : ∀ u as M r, K u as M = some r → ∃ n, ∀ m, n ≤ m → Kn m u as M = some r) (hJ : ∀ pc L M r, J pc L M = some r → ∃ n, ∀ m, n ≤ m → Jn m pc L M = some r) : ∀ (k : Nat) (t : e_X), SizeOf.sizeOf t ≤ k → ∀ (L : List Int) (M : EM) (r : Int × EM), e_tv K J t L M = some r → ∃ n, ∀ m, n ≤ m → e_tv (Kn m) (Jn m) t L M = some r := by
  intro k
  induction k with
  | zero => intro t ht; cases t <;> simp at ht
  | succ k ih =>
    intro t ht L M r e
    unfold e_tv at e ⊢
    split at e
    · rename_i k1 x
      simp at ht
      try dsimp only
      split at e
      · rename_i h; simp only [if_pos h]; exact ih x (by omega) L M r e
      rename_i h; simp only [if_neg h]
      split at e
      · rename_i h; simp only [if_pos h]
        obtain ⟨y, hy, e⟩ := Option.bind_eq_some_iff.mp e
        exact e_b1t (e_ev_ct hK _ _ _ hy) (e_ct0 e)
      rename_i h; simp only [if_neg h]
      split at e
      · rename_i h; simp only [if_pos h]; exact e_ct0 e
      rename_i h; simp only [if_neg h]
      split at e
      · rename_i h; simp only [if_pos h]
        obtain ⟨y, hy, e⟩ := Option.bind_eq_some_iff.mp e
        exact e_b1t (e_ev_ct hK _ _ _ hy) (e_ct0 e)
      rename_i h; simp only [if_neg h]
      split at e
      · rename_i h; simp only [if_pos h]
        obtain ⟨y, hy, e⟩ := Option.bind_eq_some_iff.mp e
        exact e_b1t (e_ev_ct hK _ _ _ hy) (hJ _ _ _ _ e)
      · cases e
    · rename_i c a b
      simp at ht
      try dsimp only
      obtain ⟨y, hy, e⟩ := Option.bind_eq_some_iff.mp e
      refine e_b1t (e_ev_ct hK _ _ _ hy) ?_
      split at e
      · rename_i h; simp only [if_pos h]; exact ih b (by omega) _ _ _ e
      · rename_i h; simp only [if_neg h]; exact ih a (by omega) _ _ _ e
    · rename_i s t
      simp at ht
      try dsimp only
      obtain ⟨y, hy, e⟩ := Option.bind_eq_some_iff.mp e
      exact e_b1t (e_sv_ct hK hy) (ih t (by omega) _ _ _ e)
    · try dsimp only
      obtain ⟨y, hy, e⟩ := Option.bind_eq_some_iff.mp e
      exact e_b1t (e_ev_ct hK _ _ _ hy) (hJ _ _ _ _ e)
    · rename_i ai as v t h0 h1
      simp at ht
      try dsimp only
      obtain ⟨y, hy, e⟩ := Option.bind_eq_some_iff.mp e
      obtain ⟨q, hq, e⟩ := Option.bind_eq_some_iff.mp e
      obtain ⟨z, hz, e⟩ := Option.bind_eq_some_iff.mp e
      refine e_b1t (e_ev_ct hK _ _ _ hy) (e_b1t (e_ev_ct hK _ _ _ hq) (e_b1t (hK _ _ _ _ hz) ?_))
      split at e
      · rename_i h; simp only [if_pos h]; exact ih h0 (by omega) _ _ _ e
      rename_i h; simp only [if_neg h]
      split at e
      · rename_i h; simp only [if_pos h]; exact ih h1 (by omega) _ _ _ e
      rename_i h; simp only [if_neg h]
      obtain ⟨w, hw, e⟩ := Option.bind_eq_some_iff.mp e
      exact e_b0t hw (ih t (by omega) _ _ _ e)
    · cases e
end ECONT
theorem e_tv_mono {K K' J J' : Nat → List Int → EM → EO} (hK : ∀ u as M r, K u as M = some r → K' u as M = some r) (hJ : ∀ pc L M r, J pc L M = some r → J' pc L M = some r) {t : e_X} {L : List Int} {M : EM} {r : Int × EM} (e : e_tv K J t L M = some r) : e_tv K' J' t L M = some r := by
  obtain ⟨n, h⟩ := e_tv_ct (Kn := fun _ => K') (Jn := fun _ => J') (fun u as M r h => ⟨0, fun _ _ => hK u as M r h⟩) (fun u as M r h => ⟨0, fun _ _ => hJ u as M r h⟩) (SizeOf.sizeOf t) t (Nat.le_refl _) L M r e
  exact h n (Nat.le_refl _)
theorem e_run_up : ∀ (n v pc : Nat) (L : List Int) (M : EM) (r : Int × EM), e_run n v pc L M = some r → e_run (n + 1) v pc L M = some r := by
  intro n
  induction n with
  | zero => intro v pc L M r h; cases h
  | succ n ih =>
    intro v pc L M r h
    rw [e_run] at h ⊢
    refine e_tv_mono (fun u as M' r' h' => ?_) (fun pc' L' M' r' h' => ih _ _ _ _ _ h') h
    split at h'
    · rename_i hr; rw [if_pos hr]; exact ih _ _ _ _ _ h'
    · cases h'
theorem e_run_le {n k v pc : Nat} {L : List Int} {M : EM} {r : Int × EM} (h : e_run n v pc L M = some r) (hk : n ≤ k) : e_run k v pc L M = some r := by
  obtain ⟨j, rfl⟩ := Nat.exists_eq_add_of_le hk
  induction j with
  | zero => exact h
  | succ j ih => exact e_run_up _ _ _ _ _ _ (ih (Nat.le_add_right _ _))
/-- what happens from a label on, if it comes to an end -/
noncomputable def E_V (v pc : Nat) (L : List Int) (M : EM) : EO := (Classical.propDecidable (∃ n r, e_run n v pc L M = some r)).casesOn (fun _ => none) (fun h => some h.choose_spec.choose)
theorem E_V_of {n v pc : Nat} {L : List Int} {M : EM} {r : Int × EM} (h : e_run n v pc L M = some r) : E_V v pc L M = some r := by
  unfold E_V
  cases Classical.propDecidable (∃ n r, e_run n v pc L M = some r) with
  | isFalse hn => exact absurd ⟨n, r, h⟩ hn
  | isTrue hp =>
    have h2 := hp.choose_spec.choose_spec
    have h3 := (e_run_le h (Nat.le_max_left n hp.choose)).symm.trans (e_run_le h2 (Nat.le_max_right n hp.choose))
    exact h3.symm
theorem E_V_ex {v pc : Nat} {L : List Int} {M : EM} {r : Int × EM} (h : E_V v pc L M = some r) : ∃ n, ∀ m, n ≤ m → e_run m v pc L M = some r := by
  unfold E_V at h
  cases hd : Classical.propDecidable (∃ n r, e_run n v pc L M = some r) with
  | isFalse hn => rw [hd] at h; cases h
  | isTrue hp =>
    rw [hd] at h
    have h2 := hp.choose_spec.choose_spec
    refine ⟨hp.choose, fun m hm => ?_⟩
    rw [← h]
    exact e_run_le h2 hm
/-- a call -/
noncomputable def E_C (u : Nat) (as : List Int) (M : EM) : EO := if e_rok u as = true then E_V u 0 (e_pad u as) M else none
theorem E_V_eq (v pc : Nat) (L : List Int) (M : EM) : E_V v pc L M = e_tv E_C (E_V v) (e_tr v pc) L M := by
  have h1 : ∀ r, E_V v pc L M = some r → e_tv E_C (E_V v) (e_tr v pc) L M = some r := by
    intro r h
    obtain ⟨n, h⟩ := E_V_ex h
    have h2 := h (n + 1) (Nat.le_succ _)
    rw [e_run] at h2
    refine e_tv_mono (fun u as M' r' h' => ?_) (fun pc' L' M' r' h' => E_V_of h') h2
    unfold E_C
    split at h'
    · rename_i hr; rw [if_pos hr]; exact E_V_of h'
    · cases h'
  have h2 : ∀ r, e_tv E_C (E_V v) (e_tr v pc) L M = some r → E_V v pc L M = some r := by
    intro r h
    obtain ⟨n, h3⟩ := e_tv_ct (Kn := fun n u as M' => if e_rok u as = true then e_run n u 0 (e_pad u as) M' else none) (Jn := fun n pc' L' M' => e_run n v pc' L' M')
      (fun u as M' r' h' => by
        unfold E_C at h'
        split at h'
        · rename_i hr
          obtain ⟨n, h4⟩ := E_V_ex h'
          exact ⟨n, fun m hm => by rw [if_pos hr]; exact h4 m hm⟩
        · cases h') (fun pc' L' M' r' h' => E_V_ex h') _ _ (Nat.le_refl _) L M r h
    exact E_V_of (n := n + 1) (h3 n (Nat.le_refl _))
  cases h : E_V v pc L M with
  | some r => exact (h1 r h).symm
  | none =>
    cases h3 : e_tv E_C (E_V v) (e_tr v pc) L M with
    | none => rfl
    | some r => rw [h2 r h3] at h; cases h
end
section
/-! THE CHECK: that the trees are what the instructions do. Types: 0 int, 1 long, 2 object, 3 boolean (an int that is 0 or 1). -/
def e_kt (t : Nat) : Nat := if t = 3 then 0 else t
def e_cat (ts : List Nat) : Nat := (ts.map (fun t => if t = 1 then 2 else 1)).sum
def e_in (mid pc : Nat) : Option Instr := match q_th mid pc with
  | none => q_i mid pc
  | some _ => none
def e_cst (mid : Nat) (i : Instr) : Option (Int32 × Nat) := match i with
  | .iconst n => some (Int32.ofInt n, 1)
  | .bipush n => some ((Int8.ofInt n).toInt32, 2)
  | .sipush n => some ((Int16.ofInt n).toInt32, 3)
  | .ldc idx => match q_k mid idx with
    | some (.inl x) => some (x, 2)
    | _ => none
  | .ldc_w idx => match q_k mid idx with
    | some (.inl x) => some (x, 3)
    | _ => none
  | _ => none
def e_csl (mid : Nat) (i : Instr) : Option (Int64 × Nat) := match i with
  | .lconst n => some (Int64.ofNat (n : Nat), 1)
  | .ldc2_w idx => match q_k mid idx with
    | some (.inr (.inl x)) => some (x, 3)
    | _ => none
  | _ => none
def e_lod (i : Instr) : Option (Nat × Nat × Nat) := match i with
  | .iload i => some (i, 0, 2)
  | .iload_n k => some ((k : Nat), 0, 1)
  | .lload i => some (i, 1, 2)
  | .lload_n k => some ((k : Nat), 1, 1)
  | .aload i => some (i, 2, 2)
  | .aload_n k => some ((k : Nat), 2, 1)
  | _ => none
def e_sto (i : Instr) : Option (Nat × Nat × Nat) := match i with
  | .istore i => some (i, 0, 2)
  | .istore_n k => some ((k : Nat), 0, 1)
  | .lstore i => some (i, 1, 2)
  | .lstore_n k => some ((k : Nat), 1, 1)
  | .astore i => some (i, 2, 2)
  | .astore_n k => some ((k : Nat), 2, 1)
  | _ => none
def e_i2 (i : Instr) : Option (Nat × Nat × Nat) := match i with
  | .iadd => some (10, 0, 0)
  | .isub => some (11, 0, 0)
  | .imul => some (12, 0, 0)
  | .idiv => some (13, 0, 0)
  | .irem => some (14, 0, 0)
  | .iand => some (15, 0, 0)
  | .ior => some (16, 0, 0)
  | .ixor => some (17, 0, 0)
  | .ishl => some (18, 0, 0)
  | .ishr => some (19, 0, 0)
  | .iushr => some (20, 0, 0)
  | .ladd => some (30, 1, 1)
  | .lsub => some (31, 1, 1)
  | .lmul => some (32, 1, 1)
  | .ldiv => some (33, 1, 1)
  | _ => none
def e_i1 (i : Instr) : Option (Nat × Nat × Nat) := match i with
  | .ineg => some (21, 0, 0)
  | .i2l => some (22, 0, 1)
  | .l2i => some (23, 1, 0)
  | .i2b => some (24, 0, 0)
  | .i2s => some (25, 0, 0)
  | _ => none
/-- what the machine does itself for Math: max, min, abs -/
def e_math (mid : Nat) (i : Instr) : Nat := match i with
  | .invokestatic idx => match q_m mid idx with
    | some (_, 10) => 34
    | some (_, 11) => 35
    | some (_, 12) => 36
    | _ => 0
  | _ => 0
def e_co (mid k : Nat) (ts : List Nat) (p h : Nat) : Option (List Nat × Nat) := match e_in mid p with
  | none => none
  | some i => match ts with
    | [t] => match e_i1 i with
      | some c => if c.1 = k ∧ e_kt t = c.2.1 then some ([c.2.2], p + 1) else none
      | none => if i = .arraylength then (if k = 63 ∧ t = 2 then some ([0], p + 1) else none)
        else if e_math mid i = 36 ∧ k = 36 ∧ e_kt t = 0 ∧ h ≤ 8 then some ([0], p + 3) else none
    | [t, u] => match e_i2 i with
      | some c => if c.1 = k ∧ e_kt t = c.2.1 ∧ e_kt u = c.2.1 then some ([c.2.2], p + 1) else none
      | none => if i = .iaload then (if k = 60 ∧ t = 2 ∧ e_kt u = 0 then some ([0], p + 1) else none)
        else if i = .laload then (if k = 61 ∧ t = 2 ∧ e_kt u = 0 then some ([1], p + 1) else none)
        else if i = .aaload then (if k = 62 ∧ t = 2 ∧ e_kt u = 0 then some ([2], p + 1) else none)
        else if (e_math mid i = 34 ∨ e_math mid i = 35) ∧ k = e_math mid i ∧ e_kt t = 0 ∧ e_kt u = 0 ∧ h ≤ 8 then some ([0], p + 3) else none
    | _ => none
def e_fit : List Nat → List Nat → Bool
  | [], [] => true
  | t :: ts, u :: us => (decide (t = u) || (decide (t = 3) && decide (u = 0))) && e_fit ts us
  | _, _ => false
def e_rt (mid : Nat) : Option Nat := match q_rt mid with
  | none => none
  | some .int => some 0
  | some .boolean => some 3
  | some .long => some 1
  | some _ => some 2
/-- a call of u at p, the pushed arguments' types ts, h cells of the stack below them -/
def e_cc (mid hv u : Nat) (ts : List Nat) (p h : Nat) : Bool :=
  decide (e_ht u < hv) && e_fit ts (e_pt u) && decide (e_cat (e_pt u) ≤ q_nl (e_vm u)) && decide (h ≤ 8) && decide (e_nl u = q_nl (e_vm u)) &&
  (match e_in mid p with
  | some (.invokestatic idx) => match q_m mid idx with
    | some (cm, kd) => decide (e_vm u = cm) && (decide (kd = 1) || decide (kd = 3) || decide (kd = 7)) && decide ((e_pt u).length = q_np cm)
    | none => false
  | some (.invokevirtual idx) => match q_m mid idx with
    | some (cm, kd) => decide (e_vm u = cm) && decide (kd = 0) && decide ((e_pt u).length = q_np cm + 1) && decide ((e_pt u).getD 0 0 = 2) && (q_rc cm).isSome
    | none => false
  | _ => false)
def e_cn : Jvm.ClassFile.Cond → Nat
  | .eq => 0
  | .ne => 1
  | .lt => 2
  | .ge => 3
  | .gt => 4
  | .le => 5
def e_ng : Nat → Nat
  | 0 => 1
  | 1 => 0
  | 2 => 3
  | 3 => 2
  | 4 => 5
  | _ => 4
/-- a branch: to tgt where the condition number c of base b holds, else on to nx -/
def e_br (k b c : Nat) (tgt : Int) (nx pt pf : Nat) : Bool :=
  (decide (k = b + c) && decide (tgt = pt) && decide (nx = pf)) || (decide (k = b + e_ng c) && decide (tgt = pf) && decide (nx = pt))
def e_cj (mid k : Nat) (ts : List Nat) (p pt pf : Nat) : Bool := match e_in mid p with
  | some (.if_icmp c off) => (match ts with
    | [t, u] => decide (e_kt t = 0) && decide (e_kt u = 0) && e_br k 40 (e_cn c) (p + off) (p + 3) pt pf
    | _ => false)
  | some (.ifCond c off) => (match ts with
    | [t] => decide (e_kt t = 0) && e_br k 46 (e_cn c) (p + off) (p + 3) pt pf
    | _ => false)
  | some .lcmp => (match ts, e_in mid (p + 1) with
    | [t, u], some (.ifCond c off) => decide (t = 1) && decide (u = 1) && e_br k 54 (e_cn c) (p + 1 + off) (p + 4) pt pf
    | _, _ => false)
  | some (.ifnull off) => (match ts with
    | [t] => decide (t = 2) && ((decide (k = 52) && decide ((p : Int) + off = pt) && decide (p + 3 = pf)) || (decide (k = 53) && decide ((p : Int) + off = pf) && decide (p + 3 = pt)))
    | _ => false)
  | some (.ifnonnull off) => (match ts with
    | [t] => decide (t = 2) && ((decide (k = 53) && decide ((p : Int) + off = pt) && decide (p + 3 = pf)) || (decide (k = 52) && decide ((p : Int) + off = pf) && decide (p + 3 = pt)))
    | _ => false)
  | _ => false
/-- where a goto goes, if there is one -/
def e_gt (mid p : Nat) : Nat := match e_in mid p with
  | some (.goto off) => ((p : Int) + off).toNat
  | _ => p
def e_gtb (mid p : Nat) : Bool := match e_in mid p with
  | some (.goto off) => decide (0 ≤ (p : Int) + off)
  | _ => true
/-- two ways come together: at the one's end, or behind a goto -/
def e_jn (mid p q : Nat) : Option Nat :=
  if p = q then some p
  else if e_gtb mid p = true ∧ e_gt mid p = q then some q
  else if e_gtb mid q = true ∧ e_gt mid q = p then some p
  else if e_gtb mid p = true ∧ e_gtb mid q = true ∧ e_gt mid p = e_gt mid q then some (e_gt mid p)
  else none
def e_lub : List Nat → List Nat → Option (List Nat)
  | [t], [u] => if t = u then some [t] else if e_kt t = 0 ∧ e_kt u = 0 then some [0] else none
  | _, _ => none
def e_pc (k : Int) : Nat := (-k - 1).toNat
/-- z = none: what is pushed (its types, where it ends); z = some (pt, pf): a condition that goes to pt or pf -/
def e_chk (mid hv : Nat) (G : List (Nat × Nat)) : e_X → Option (Nat × Nat) → Nat → Nat → Option (List Nat × Nat)
  | .num c, z, pc, _ => match z with
    | some q => if (c = 1 ∧ pc = q.1) ∨ (c = 0 ∧ pc = q.2) then some ([], 0) else none
    | none => match (e_in mid pc).bind (e_cst mid) with
      | some x => if x.1.toInt = c then some ([if c = 0 ∨ c = 1 then 3 else 0], pc + x.2) else none
      | none => none
  | .var i, z, pc, _ => match z with
    | some _ => none
    | none => match (e_in mid pc).bind e_lod, q_find G i with
      | some x, some t => if x.1 = i ∧ e_kt t = x.2.1 then some ([t], pc + x.2.2) else none
      | _, _ => none
  | .add a b, z, pc, h => match z with
    | some _ => none
    | none => match e_chk mid hv G a none pc h with
      | none => none
      | some r => match e_chk mid hv G b none r.2 (h + e_cat r.1) with
        | none => none
        | some q => some (r.1 ++ q.1, q.2)
  | .mulL k a, z, pc, h =>
    if k < 0 then e_chk mid hv G a z pc h
    else if k = 1 then (match z, a, (e_in mid pc).bind (e_csl mid) with
      | none, .num c, some x => if x.1.toInt = c then some ([1], pc + x.2) else none
      | _, _, _ => none)
    else if k = 2 then (match z, a, e_in mid pc with
      | none, .num c, some .aconst_null => if c = -1 then some ([2], pc + 1) else none
      | _, _, _ => none)
    else if k = 3 then (match z, a, e_in mid pc with
      | none, .num c, some (.getstatic idx) => (match q_s mid idx with
        | some s => if c = s then some ([2], pc + 3) else none
        | none => none)
      | _, _, _ => none)
    else match e_chk mid hv G a none pc h with
      | none => none
      | some r => match z with
        | some q => if e_cj mid k.toNat r.1 r.2 q.1 q.2 = true then some ([], 0) else none
        | none => if 5000 ≤ k then (if e_cc mid hv (k.toNat - 5000) r.1 r.2 h = true ∧ e_thr (k.toNat - 5000) = false then (match e_rt (e_vm (k.toNat - 5000)) with
            | some t => some ([t], r.2 + 3)
            | none => none) else none)
          else e_co mid k.toNat r.1 r.2 h
  | .mulR a k, z, pc, h => match z with
    | some _ => none
    | none => match e_chk mid hv G a none pc h with
      | some ([t], p) => (match e_in mid p with
        | some (.getfield idx) => if q_f mid idx = some (k.toNat / 64, k.toNat % 64) ∧ t = 2 then some ([e_fty k.toNat], p + 3) else none
        | _ => none)
      | _ => none
  | .sub c (.add (.mulL pa a) (.mulL pb b)), z, pc, h =>
    if pa < 0 ∧ pb < 0 then
      match e_chk mid hv G c (some (e_pc pa, e_pc pb)) pc h with
      | none => none
      | some _ => match e_chk mid hv G a z (e_pc pa) h with
        | none => none
        | some r => match e_chk mid hv G b z (e_pc pb) h with
          | none => none
          | some q => match z with
            | some _ => some ([], 0)
            | none => match e_jn mid r.2 q.2, e_lub r.1 q.1 with
              | some p, some ts => some (ts, p)
              | _, _ => none
    else none
  | _, _, _, _ => none
/-- local i holds a value of type t now -/
def e_kp (G : List (Nat × Nat)) (i t j : Nat) : Bool := !(Nat.beq j i) && (!(Nat.beq (j + 1) i && (q_find G j == some 1)) && !(Nat.beq j (i + 1) && Nat.beq t 1))
def e_gs (G : List (Nat × Nat)) (i t : Nat) : List (Nat × Nat) := (i, t) :: G.filter (fun q => e_kp G i t q.1)
/-- the locals behind a catch that writes local i -/
def e_gd (G : List (Nat × Nat)) (i : Nat) : List (Nat × Nat) := G.filter (fun q => e_kp G i 0 q.1)
def e_gsub (A B : List (Nat × Nat)) : Bool := A.all (fun q => match q_find B q.1 with
  | some t => decide (t = q.2) || (decide (t = 3) && decide (q.2 = 0))
  | none => false)
def e_one (t : Nat) : Nat := if t = 1 then 1 else 0
/-- a statement: the locals' types behind it, where it ends -/
def e_cs (mid hv : Nat) (G : List (Nat × Nat)) (s : e_X) (pc : Nat) : Option (List (Nat × Nat) × Nat) := match s with
  | .mulL k e =>
    if k = 64 ∨ k = 65 ∨ k = 66 then (match e_chk mid hv G e none pc 0 with
      | none => none
      | some r => match e_in mid r.2 with
        | some .iastore => if k = 64 then (match r.1 with
          | [t, u, v] => if t = 2 ∧ e_kt u = 0 ∧ e_kt v = 0 then some (G, r.2 + 1) else none
          | _ => none) else none
        | some .lastore => if k = 65 then (match r.1 with
          | [t, u, v] => if t = 2 ∧ e_kt u = 0 ∧ v = 1 then some (G, r.2 + 1) else none
          | _ => none) else none
        | some (.invokestatic idx) => if k = 66 then (match r.1, q_m mid idx with
          | [t, u, v, x, y], some (_, 9) => if t = 2 ∧ e_kt u = 0 ∧ v = 2 ∧ e_kt x = 0 ∧ e_kt y = 0 ∧ 0 < hv then some (G, r.2 + 3) else none
          | _, _ => none) else none
        | _ => none)
    else if k = 67 then (match e with
      | .mulR (.add o x) key => (match e_chk mid hv G o none pc 0 with
        | some ([2], p1) => (match e_in mid p1, e_in mid (p1 + 1) with
          | some .dup, some (.getfield idx) => if q_f mid idx = some (key.toNat / 64, key.toNat % 64) ∧ e_fty key.toNat = 0 then (match e_chk mid hv G x none (p1 + 4) 2 with
            | some ([t], p2) => (match e_in mid p2, e_in mid (p2 + 1) with
              | some .iadd, some (.putfield idx2) => if e_kt t = 0 ∧ q_f mid idx2 = some (key.toNat / 64, key.toNat % 64) ∧ q_pf mid idx2 = true then some (G, p2 + 4) else none
              | _, _ => none)
            | _ => none) else none
          | _, _ => none)
        | _ => none)
      | _ => none)
    else if k = 68 then (match e with
      | .add ai x => (match e_chk mid hv G ai none pc 0 with
        | some ([2, u], p1) => (match e_in mid p1, e_in mid (p1 + 1) with
          | some .dup2, some .iaload => if e_kt u = 0 then (match e_chk mid hv G x none (p1 + 2) 3 with
            | some ([t], p2) => (match e_in mid p2, e_in mid (p2 + 1) with
              | some .iadd, some .iastore => if e_kt t = 0 then some (G, p2 + 2) else none
              | _, _ => none)
            | _ => none) else none
          | _, _ => none)
        | _ => none)
      | _ => none)
    else if 100 ≤ k ∧ k < 200 then (match e_chk mid hv G e none pc 0 with
      | some ([t], p) => (match (e_in mid p).bind e_sto with
        | some x => if x.1 = k.toNat - 100 ∧ e_kt t = x.2.1 ∧ x.1 + e_one t < q_nl mid then some (e_gs G x.1 t, p + x.2.2) else none
        | none => none)
      | _ => none)
    else if 200 ≤ k ∧ k < 300 then (match e, e_in mid pc with
      | .num c, some (.iinc i n) => (match q_find G i with
        | some t => if i = k.toNat - 200 ∧ e_kt t = 0 ∧ (Int32.ofInt n).toInt = c ∧ i < q_nl mid then some (e_gs G i 0, pc + 3) else none
        | none => none)
      | _, _ => none)
    else if 5000 ≤ k then (match e_chk mid hv G e none pc 0 with
      | none => none
      | some r => if e_cc mid hv (k.toNat - 5000) r.1 r.2 0 = true ∧ e_thr (k.toNat - 5000) = false then (match e_rt (e_vm (k.toNat - 5000)) with
          | none => some (G, r.2 + 3)
          | some t => (match e_in mid (r.2 + 3) with
            | some .pop => if t = 1 then none else some (G, r.2 + 4)
            | _ => none)) else none)
    else none
  | .mulR e key => (match e_chk mid hv G e none pc 0 with
    | some ([2, t], p) => (match e_in mid p with
      | some (.putfield idx) => if q_f mid idx = some (key.toNat / 64, key.toNat % 64) ∧ q_pf mid idx = true ∧ e_fit [t] [e_fty key.toNat] = true ∧ e_fty key.toNat ≠ 2 then some (G, p + 3) else none
      | _ => none)
    | _ => none)
  | _ => none
def e_lok (v mid pc : Nat) (l : Int) (G : List (Nat × Nat)) : Bool := (decide ((pc : Int) = l) || (decide ((e_gt mid pc : Int) = l) && e_gtb mid pc)) && (match e_lb v l.toNat with
  | some q => e_gsub q.1 G
  | none => false)
def e_lok2 (v : Nat) (l : Int) (G : List (Nat × Nat)) : Bool := decide (0 ≤ l) && (match e_lb v l.toNat with
  | some q => e_gsub q.1 G
  | none => false)
def e_csw (v : Nat) (G : List (Nat × Nat)) (pc : Nat) (d : Int) : e_X → List Int → Bool
  | .num c, [] => decide ((pc : Int) + d = c) && e_lok2 v c G
  | .add (.num c) t, o :: os => decide ((pc : Int) + o = c) && e_lok2 v c G && e_csw v G pc d t os
  | _, _ => false
/-- which throw: 0 IllegalArgumentException, 1 IllegalStateException -/
def e_ex (c : Int) : String := if c = 0 then "java/lang/IllegalArgumentException" else "java/lang/IllegalStateException"
def e_ct (v mid hv : Nat) : e_X → List (Nat × Nat) → Nat → Bool
  | .mulL k e, G, pc =>
    if k < 0 then e_ct v mid hv e G pc
    else if k = 1 then (match e_chk mid hv G e none pc 0 with
      | some ([t], p) => (match e_in mid p, e_rt mid with
        | some .ireturn, some 0 => decide (e_kt t = 0)
        | some .ireturn, some 3 => decide (t = 3)
        | some .lreturn, some 1 => decide (t = 1)
        | some .areturn, some 2 => decide (t = 2) && (match q_rt mid with
          | some (.object _) => true
          | some (.array _) => true
          | _ => false)
        | _, _ => false)
      | _ => false)
    else if k = 2 then (match e_in mid pc, q_rt mid with
      | some .return_, none => true
      | _, _ => false)
    else if k = 3 then (match e with
      | .num c => decide (c = 0 ∨ c = 1) && decide (q_th mid pc = some (e_ex c)) && e_thr v && decide (10 ≤ hv)
      | _ => false)
    else if k = 4 then (match e with
      | .num l => e_lok v mid pc l G
      | _ => false)
    else false
  | .sub c (.add (.mulL pa a) (.mulL pb b)), G, pc => decide (pa < 0) && decide (pb < 0) && (e_chk mid hv G c (some (e_pc pa, e_pc pb)) pc 0).isSome && e_ct v mid hv a G (e_pc pa) && e_ct v mid hv b G (e_pc pb)
  | .add s t, G, pc => match e_cs mid hv G s pc with
    | some r => e_ct v mid hv t r.1 r.2
    | none => false
  | .mulR (.add x (.add (.num lo) cs)) _, G, pc => match e_chk mid hv G x none pc 0 with
    | some ([t], p) => (match e_in mid p with
      | some (.tableswitch d lo2 hi os) => decide (e_kt t = 0) && decide (lo = lo2) && decide (hi = lo2 + os.size - 1) && e_csw v G p d cs os.toList
      | _ => false)
    | _ => false
  | .neg (.add (.mulR (.add ai as) u) (.add t (.add h0 h1))), G, pc => match e_chk mid hv G ai none pc 0 with
    | some ([2, i], p1) => (match e_chk mid hv G as none p1 2 with
      | some (ts, p2) => decide (e_kt i = 0) && e_cc mid hv u.toNat ts p2 2 && decide (e_rt (e_vm u.toNat) = some 1) && decide (e_in mid (p2 + 3) = some .lastore) && e_ct v mid hv t G (p2 + 4) &&
          (match q_h mid p2 (e_ex 0) with
          | some hh => e_ct v mid hv h0 (e_gd G hh.2) hh.1
          | none => (match h0 with
            | .num _ => true
            | _ => false)) &&
          (match q_h mid p2 (e_ex 1) with
          | some hh => e_ct v mid hv h1 (e_gd G hh.2) hh.1
          | none => (match h1 with
            | .num _ => true
            | _ => false))
      | _ => false)
    | _ => false
  | _, _, _ => false
/-- a method: every label's tree -/
def e_mok (v : Nat) : Bool := ((e_prog.getD (v / 16) []).getD (v % 16) []).all (fun q => decide (e_nl v = q_nl (e_vm v)) && e_ct v (e_vm v) (e_ht v) q.2.2 q.2.1 q.1)
def e_ent : Nat → List Nat → List (Nat × Nat)
  | _, [] => []
  | i, t :: P => (i, t) :: e_ent (if t = 1 then i + 2 else i + 1) P
/-- a method's first label takes what the callers give -/
def e_eok (v : Nat) : Bool := match e_lb v 0 with
  | some q => e_gsub q.1 (e_ent 0 (e_pt v))
  | none => true
end
