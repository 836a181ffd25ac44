def q_rec0 : List MRec := [(⟨"SunHouse$Bench", "<init>", "(LSunHouse$House;)V"⟩, prog_2_method_1_code, 2, 1, 0, true, none, (some 0), q_code0),
  (⟨"SunHouse$Bench", "spread", "(I)V"⟩, prog_2_method_2_code, 7, 1, 0, false, none, (some 0), q_code1),
  (⟨"SunHouse$Bench", "spreadTold", "(LSunHouse$Shelf;)V"⟩, prog_2_method_3_code, 3, 1, 0, false, none, (some 0), q_code2),
  (⟨"SunHouse$Bench", "clear", "()V"⟩, prog_2_method_4_code, 1, 0, 0, false, none, (some 0), q_code3),
  (⟨"SunHouse$Bench", "addLine", "(I)V"⟩, prog_2_method_5_code, 7, 1, 0, false, none, (some 0), q_code4),
  (⟨"SunHouse$Bench", "addCell", "(II)V"⟩, prog_2_method_6_code, 4, 2, 0, false, none, (some 0), q_code5),
  (⟨"SunHouse$Bench", "diodes", "()I"⟩, prog_2_method_7_code, 3, 0, 0, false, (some .int), (some 0), q_code6),
  (⟨"SunHouse$Bench", "takeOff", "(I)V"⟩, prog_2_method_8_code, 4, 1, 0, false, none, (some 0), q_code7),
  (⟨"SunHouse$Bench", "shine", "([II)V"⟩, prog_2_method_9_code, 4, 2, 0, false, none, (some 0), q_code8),
  (⟨"SunHouse$Bench", "drawPoints", "(I)V"⟩, prog_2_method_10_code, 8, 1, 0, false, none, (some 0), q_code9),
  (⟨"SunHouse$Bench", "drawCell", "(I)V"⟩, prog_2_method_11_code, 3, 1, 0, false, none, (some 0), q_code10),
  (⟨"SunHouse$Bench", "drawAll", "()V"⟩, prog_2_method_12_code, 2, 0, 0, false, none, (some 0), q_code11),
  (⟨"SunHouse$Bench", "drawColumn", "(I)V"⟩, prog_2_method_13_code, 3, 1, 0, false, none, (some 0), q_code12),
  (⟨"SunHouse$Bench", "pushOfCell", "(II)I"⟩, prog_2_method_14_code, 6, 2, 0, false, (some .int), (some 0), q_code13),
  (⟨"SunHouse$Bench", "pushBetween", "(II)I"⟩, prog_2_method_15_code, 5, 2, 0, false, (some .int), (some 0), q_code14),
  (⟨"SunHouse$Bench", "pushOfLine", "(II)I"⟩, prog_2_method_16_code, 7, 2, 0, false, (some .int), (some 0), q_code15)]
def q_rec1 : List MRec := [(⟨"SunHouse$Bench", "pushAt", "(I)I"⟩, prog_2_method_17_code, 3, 1, 0, false, (some .int), (some 0), q_code16),
  (⟨"SunHouse$Bench", "sumCurrents", "(II)V"⟩, prog_2_method_18_code, 5, 2, 0, false, none, (some 0), q_code17),
  (⟨"SunHouse$Bench", "addLineCurrents", "(II)V"⟩, prog_2_method_19_code, 5, 2, 0, false, none, (some 0), q_code18),
  (⟨"SunHouse$Bench", "currentAt", "(I)I"⟩, prog_2_method_20_code, 2, 1, 0, false, (some .int), (some 0), q_code19),
  (⟨"SunHouse$Bench", "powerAt", "(I)I"⟩, prog_2_method_21_code, 2, 1, 0, false, (some .int), (some 0), q_code20),
  (⟨"SunHouse$Bench", "findBest", "()V"⟩, prog_2_method_22_code, 1, 0, 0, false, none, (some 0), q_code21),
  (⟨"SunHouse$Bench", "chooseBest", "()V"⟩, prog_2_method_23_code, 2, 0, 0, false, none, (some 0), q_code22),
  (⟨"SunHouse$Bench", "humpAt", "(I)I"⟩, prog_2_method_24_code, 6, 1, 0, false, (some .int), (some 0), q_code23),
  (⟨"SunHouse$Bench", "dimmest", "()I"⟩, prog_2_method_25_code, 3, 0, 0, false, (some .int), (some 0), q_code24),
  (⟨"SunHouse$Bench", "passes", "()I"⟩, prog_2_method_26_code, 5, 0, 0, false, (some .int), (some 0), q_code25),
  (⟨"SunHouse$Bench", "hot", "(I)I"⟩, prog_2_method_27_code, 4, 1, 0, false, (some .int), (some 0), q_code26),
  (⟨"SunHouse$Bench", "findParting", "()I"⟩, prog_2_method_28_code, 5, 0, 0, false, (some .int), (some 0), q_code27),
  (⟨"SunHouse$Bench", "addChosen", "(I)V"⟩, prog_2_method_29_code, 5, 1, 0, false, none, (some 0), q_code28),
  (⟨"SunHouse$Bench", "faultsThatMayBe", "()I"⟩, prog_2_method_30_code, 1, 0, 0, false, (some .int), (some 0), q_code29),
  (⟨"SunHouse$Bench", "suffer", "(I)V"⟩, prog_2_method_31_code, 2, 1, 0, false, none, (some 0), q_code30),
  (⟨"SunHouse$Bench", "recover", "(II)V"⟩, prog_2_method_32_code, 3, 2, 0, false, none, (some 0), q_code31)]
def q_rec2 : List MRec := [(⟨"SunHouse$Bench", "groupOfDiode", "(I)I"⟩, prog_2_method_33_code, 4, 1, 0, false, (some .int), (some 0), q_code32),
  (⟨"SunHouse$Cells", "<init>", "()V"⟩, prog_3_method_1_code, 1, 0, 1, true, none, (some 1), q_code33),
  (⟨"SunHouse$Cells", "takeAll", "(LSunHouse$Cells;)V"⟩, prog_3_method_2_code, 2, 1, 1, false, none, (some 1), q_code34),
  (⟨"SunHouse$Cells", "begin", "(I)V"⟩, prog_3_method_3_code, 3, 1, 1, false, none, (some 1), q_code35),
  (⟨"SunHouse$Cells", "hasCurve", "(II)Z"⟩, prog_3_method_4_code, 6, 2, 1, false, (some .boolean), (some 1), q_code36),
  (⟨"SunHouse$Cells", "lastPush", "(II)I"⟩, prog_3_method_5_code, 3, 2, 1, false, (some .int), (some 1), q_code37),
  (⟨"SunHouse$Cells", "litOf", "(I[I)I"⟩, prog_3_method_6_code, 9, 2, 1, false, (some .int), (some 1), q_code38),
  (⟨"SunHouse$Cells", "howManyGone", "(LSunHouse$Parts;)I"⟩, prog_3_method_7_code, 4, 1, 1, false, (some .int), (some 1), q_code39),
  (⟨"SunHouse$Diagnosis", "<init>", "()V"⟩, prog_4_method_1_code, 1, 0, 2, true, none, (some 2), q_code40),
  (⟨"SunHouse$Diagnosis", "find", "(LSunHouse$Bench;LSunHouse$Shelf;)V"⟩, prog_4_method_2_code, 6, 2, 2, false, none, (some 2), q_code41),
  (⟨"SunHouse$Diagnosis", "agrees", "(LSunHouse$Bench;LSunHouse$Shelf;)Z"⟩, prog_4_method_3_code, 3, 2, 2, false, (some .boolean), none, q_code42),
  (⟨"SunHouse$Diagnosis", "note", "(LSunHouse$Bench;I)V"⟩, prog_4_method_4_code, 4, 2, 2, false, none, (some 2), q_code43),
  (⟨"SunHouse$Diagnosis", "fitting", "(I)I"⟩, prog_4_method_5_code, 2, 1, 2, false, (some .int), (some 2), q_code44),
  (⟨"SunHouse$Diagnosis", "nextLook", "()I"⟩, prog_4_method_6_code, 5, 0, 2, false, (some .int), (some 2), q_code45),
  (⟨"SunHouse$Diagnosis", "greatestGroup", "(I)I"⟩, prog_4_method_7_code, 5, 1, 2, false, (some .int), (some 2), q_code46),
  (⟨"SunHouse$House", "<init>", "()V"⟩, prog_5_method_1_code, 2, 0, 3, true, none, (some 3), q_code47)]
def q_rec3 : List MRec := [(⟨"SunHouse$House", "takeAll", "(LSunHouse$House;)V"⟩, prog_5_method_2_code, 5, 1, 3, false, none, (some 3), q_code48),
  (⟨"SunHouse$House", "beginPart", "(II)I"⟩, prog_5_method_3_code, 4, 2, 3, false, (some .int), (some 3), q_code49),
  (⟨"SunHouse$Parts", "<init>", "()V"⟩, prog_6_method_1_code, 1, 0, 4, true, none, (some 4), q_code50),
  (⟨"SunHouse$Parts", "takeAll", "(LSunHouse$Parts;)V"⟩, prog_6_method_2_code, 2, 1, 4, false, none, (some 4), q_code51),
  (⟨"SunHouse$Parts", "begin", "(II)I"⟩, prog_6_method_3_code, 4, 2, 4, false, (some .int), (some 4), q_code52),
  (⟨"SunHouse$Parts", "join", "(IIII)Z"⟩, prog_6_method_4_code, 7, 4, 4, false, (some .boolean), (some 4), q_code53),
  (⟨"SunHouse$Parts", "mayHold", "(II)Z"⟩, prog_6_method_5_code, 2, 2, 4, false, (some .boolean), none, q_code54),
  (⟨"SunHouse$Parts", "cutTo", "(I)V"⟩, prog_6_method_6_code, 3, 1, 4, false, none, (some 4), q_code55),
  (⟨"SunHouse$Parts", "howMany", "(I)I"⟩, prog_6_method_7_code, 4, 1, 4, false, (some .int), (some 4), q_code56),
  (⟨"SunHouse$Reader", "<init>", "()V"⟩, prog_7_method_1_code, 1, 0, 5, true, none, (some 5), q_code57),
  (⟨"SunHouse$Reader", "read", "(LSunHouse$Shelf;LSunHouse$House;)I"⟩, prog_7_method_2_code, 5, 2, 5, false, (some .int), (some 5), q_code58),
  (⟨"SunHouse$Reader", "readShape", "(LSunHouse$Shelf;)Z"⟩, prog_7_method_3_code, 2, 1, 5, false, (some .boolean), (some 5), q_code59),
  (⟨"SunHouse$Reader", "goOn", "(I)Z"⟩, prog_7_method_4_code, 3, 1, 5, false, (some .boolean), (some 5), q_code60),
  (⟨"SunHouse$Reader", "beginStatement", "(I)Z"⟩, prog_7_method_5_code, 2, 1, 5, false, (some .boolean), (some 5), q_code61),
  (⟨"SunHouse$Reader", "beginNumber", "(I)Z"⟩, prog_7_method_6_code, 2, 1, 5, false, (some .boolean), (some 5), q_code62),
  (⟨"SunHouse$Reader", "openGroup", "(I)Z"⟩, prog_7_method_7_code, 2, 1, 5, false, (some .boolean), (some 5), q_code63)]
def q_rec4 : List MRec := [(⟨"SunHouse$Reader", "goOnToCurrent", "()Z"⟩, prog_7_method_8_code, 1, 0, 5, false, (some .boolean), (some 5), q_code64),
  (⟨"SunHouse$Reader", "closeGroup", "()Z"⟩, prog_7_method_9_code, 1, 0, 5, false, (some .boolean), (some 5), q_code65),
  (⟨"SunHouse$Reader", "goOnToNext", "()Z"⟩, prog_7_method_10_code, 1, 0, 5, false, (some .boolean), (some 5), q_code66),
  (⟨"SunHouse$Reader", "endStatement", "()Z"⟩, prog_7_method_11_code, 1, 0, 5, false, (some .boolean), (some 5), q_code67),
  (⟨"SunHouse$Reader", "tell", "(LSunHouse$House;I)Z"⟩, prog_7_method_12_code, 6, 2, 5, false, (some .boolean), (some 5), q_code68),
  (⟨"SunHouse$Reader", "tellCell", "(LSunHouse$House;II)Z"⟩, prog_7_method_13_code, 6, 3, 5, false, (some .boolean), (some 5), q_code69),
  (⟨"SunHouse$Reader", "tellWhole", "(LSunHouse$House;IIII)Z"⟩, prog_7_method_14_code, 8, 5, 5, false, (some .boolean), (some 5), q_code70),
  (⟨"SunHouse$Roof", "<init>", "()V"⟩, prog_8_method_1_code, 1, 0, 6, true, none, (some 6), q_code71),
  (⟨"SunHouse$Roof", "takeAll", "(LSunHouse$Roof;)V"⟩, prog_8_method_2_code, 2, 1, 6, false, none, (some 6), q_code72),
  (⟨"SunHouse$Roof", "standing", "()I"⟩, prog_8_method_3_code, 3, 0, 6, false, (some .int), (some 6), q_code73),
  (⟨"SunHouse$Roof", "castShades", "(I[I)V"⟩, prog_8_method_4_code, 4, 2, 6, false, none, (some 6), q_code74),
  (⟨"SunHouse$Roof", "castShade", "(II[I)V"⟩, prog_8_method_5_code, 9, 3, 6, false, none, (some 6), q_code75),
  (⟨"SunHouse$Roof", "takeSky", "(LSunHouse$Shelf;)V"⟩, prog_8_method_6_code, 2, 1, 6, false, none, (some 6), q_code76),
  (⟨"SunHouse$Roof", "strengthAt", "(I)I"⟩, prog_8_method_7_code, 4, 1, 6, false, (some .int), (some 6), q_code77),
  (⟨"SunHouse$Roof", "meanAround", "(I)J"⟩, prog_8_method_8_code, 8, 1, 6, false, (some .long), (some 6), q_code78),
  (⟨"SunHouse$Seeker", "<init>", "()V"⟩, prog_9_method_1_code, 1, 0, 7, true, none, (some 7), q_code79)]
def q_rec5 : List MRec := [(⟨"SunHouse$Seeker", "takeAll", "(LSunHouse$Seeker;)V"⟩, prog_9_method_2_code, 2, 1, 7, false, none, (some 7), q_code80),
  (⟨"SunHouse$Seeker", "begin", "(II)V"⟩, prog_9_method_3_code, 3, 2, 7, false, none, (some 7), q_code81),
  (⟨"SunHouse$Seeker", "goOn", "(I)V"⟩, prog_9_method_4_code, 2, 1, 7, false, none, (some 7), q_code82),
  (⟨"SunHouse$Shelf", "<init>", "()V"⟩, prog_10_method_1_code, 1, 0, 8, true, none, (some 8), q_code83),
  (⟨"SunHouse$Shelf", "holdsNothing", "()Z"⟩, prog_10_method_2_code, 1, 0, 8, false, (some .boolean), (some 8), q_code84),
  (⟨"SunHouse$Shelf", "holdNothing", "()V"⟩, prog_10_method_3_code, 1, 0, 8, false, none, (some 8), q_code85),
  (⟨"SunHouse$Shelf", "holdPart", "(II)V"⟩, prog_10_method_4_code, 3, 2, 8, false, none, (some 8), q_code86),
  (⟨"SunHouse$Shelf", "holdRow", "(II)V"⟩, prog_10_method_5_code, 3, 2, 8, false, none, (some 8), q_code87),
  (⟨"SunHouse$Shelf", "lowestBits", "(I)I"⟩, prog_10_method_6_code, 2, 1, 8, false, (some .int), (some 8), q_code88),
  (⟨"SunHouse$Shelf", "leastOfSort", "()I"⟩, prog_10_method_7_code, 1, 0, 8, false, (some .int), (some 8), q_code89),
  (⟨"SunHouse$Shelf", "hasRun", "(II)Z"⟩, prog_10_method_8_code, 3, 2, 8, false, (some .boolean), (some 8), q_code90),
  (⟨"SunHouse$Shelf", "placeOf", "(I)I"⟩, prog_10_method_9_code, 3, 1, 8, false, (some .int), (some 8), q_code91),
  (⟨"SunHouse$Store", "<init>", "()V"⟩, prog_11_method_1_code, 1, 0, 9, true, none, (some 9), q_code92),
  (⟨"SunHouse$Store", "takeAll", "(LSunHouse$Store;)V"⟩, prog_11_method_2_code, 2, 1, 9, false, none, (some 9), q_code93),
  (⟨"SunHouse$Store", "plan", "()V"⟩, prog_11_method_3_code, 6, 0, 9, false, none, (some 9), q_code94),
  (⟨"SunHouse$Store", "leastSold", "(I)I"⟩, prog_11_method_4_code, 2, 1, 9, false, (some .int), (some 9), q_code95)]
def q_rec6 : List MRec := [(⟨"SunHouse$Store", "taken", "(III)I"⟩, prog_11_method_5_code, 4, 3, 9, false, (some .int), (some 9), q_code96),
  (⟨"SunHouse$Store", "mostTaken", "()I"⟩, prog_11_method_6_code, 1, 0, 9, false, (some .int), (some 9), q_code97),
  (⟨"SunHouse$Store", "soldIn", "(I)I"⟩, prog_11_method_7_code, 7, 1, 9, false, (some .int), (some 9), q_code98),
  (⟨"SunHouse$Washing", "<init>", "()V"⟩, prog_12_method_1_code, 1, 0, 10, true, none, (some 10), q_code99),
  (⟨"SunHouse$Washing", "plan", "(LSunHouse$Shelf;II)V"⟩, prog_12_method_2_code, 5, 3, 10, false, none, (some 10), q_code100),
  (⟨"SunHouse$Washing", "planFrom", "(ILSunHouse$Shelf;II)V"⟩, prog_12_method_3_code, 13, 4, 10, false, none, (some 10), q_code101),
  (⟨"SunHouse$Washing", "washDay", "(I)I"⟩, prog_12_method_4_code, 4, 1, 10, false, (some .int), (some 10), q_code102),
  (⟨"SunHouse", "<init>", "()V"⟩, prog_1_method_1_code, 3, 0, 11, true, none, (some 11), q_code103),
  (⟨"SunHouse", "text", "(I)I"⟩, prog_1_method_2_code, 4, 1, 11, false, (some .int), (some 11), q_code104),
  (⟨"SunHouse", "about", "(II)I"⟩, prog_1_method_3_code, 5, 2, 11, false, (some .int), (some 11), q_code105),
  (⟨"SunHouse", "point", "(III)I"⟩, prog_1_method_4_code, 4, 3, 11, false, (some .int), (some 11), q_code106),
  (⟨"SunHouse", "set", "(III)I"⟩, prog_1_method_5_code, 5, 3, 11, false, (some .int), (some 11), q_code107),
  (⟨"SunHouse", "dead", "(IZ)I"⟩, prog_1_method_6_code, 5, 2, 11, false, (some .int), (some 11), q_code108),
  (⟨"SunHouse", "push", "(II)J"⟩, prog_1_method_7_code, 3, 2, 11, false, (some .long), (some 11), q_code109),
  (⟨"SunHouse", "current", "(II)I"⟩, prog_1_method_8_code, 3, 2, 11, false, (some .int), (some 11), q_code110),
  (⟨"SunHouse", "best", "(II)I"⟩, prog_1_method_9_code, 3, 2, 11, false, (some .int), (some 11), q_code111)]
def q_rec7 : List MRec := [(⟨"SunHouse", "hump", "(II)I"⟩, prog_1_method_10_code, 3, 2, 11, false, (some .int), (some 11), q_code112),
  (⟨"SunHouse", "held", "(III)I"⟩, prog_1_method_11_code, 4, 3, 11, false, (some .int), (some 11), q_code113),
  (⟨"SunHouse", "box", "(III)I"⟩, prog_1_method_12_code, 6, 3, 11, false, (some .int), (some 11), q_code114),
  (⟨"SunHouse", "seek", "(II)I"⟩, prog_1_method_13_code, 5, 2, 11, false, (some .int), (some 11), q_code115),
  (⟨"SunHouse", "led", "(III)I"⟩, prog_1_method_14_code, 6, 3, 11, false, (some .int), (some 11), q_code116),
  (⟨"SunHouse", "lies", "(III)I"⟩, prog_1_method_15_code, 4, 3, 11, false, (some .int), (some 11), q_code117),
  (⟨"SunHouse", "wall", "(IIII)I"⟩, prog_1_method_16_code, 8, 4, 11, false, (some .int), (some 11), q_code118),
  (⟨"SunHouse", "sun", "(III)I"⟩, prog_1_method_17_code, 6, 3, 11, false, (some .int), (some 11), q_code119),
  (⟨"SunHouse", "lit", "(II)I"⟩, prog_1_method_18_code, 3, 2, 11, false, (some .int), (some 11), q_code120),
  (⟨"SunHouse", "sky", "(I)I"⟩, prog_1_method_19_code, 4, 1, 11, false, (some .int), (some 11), q_code121),
  (⟨"SunHouse", "strength", "(II)I"⟩, prog_1_method_20_code, 3, 2, 11, false, (some .int), (some 11), q_code122),
  (⟨"SunHouse", "hour", "(III)I"⟩, prog_1_method_21_code, 4, 3, 11, false, (some .int), (some 11), q_code123),
  (⟨"SunHouse", "day", "(II)I"⟩, prog_1_method_22_code, 5, 2, 11, false, (some .int), (some 11), q_code124),
  (⟨"SunHouse", "wash", "(II)I"⟩, prog_1_method_23_code, 4, 2, 11, false, (some .int), (some 11), q_code125),
  (⟨"SunHouse", "washed", "(III)I"⟩, prog_1_method_24_code, 5, 3, 11, false, (some .int), (some 11), q_code126),
  (⟨"SunHouse", "parting", "(II)I"⟩, prog_1_method_25_code, 6, 2, 11, false, (some .int), (some 11), q_code127)]
def q_rec8 : List MRec := [(⟨"SunHouse", "trade", "(II)I"⟩, prog_1_method_26_code, 5, 2, 11, false, (some .int), (some 11), q_code128),
  (⟨"SunHouse", "room", "(I)I"⟩, prog_1_method_27_code, 3, 1, 11, false, (some .int), (some 11), q_code129),
  (⟨"SunHouse", "sells", "(I)I"⟩, prog_1_method_28_code, 2, 1, 11, false, (some .int), (some 11), q_code130),
  (⟨"SunHouse", "without", "(II)I"⟩, prog_1_method_29_code, 3, 2, 11, false, (some .int), (some 11), q_code131),
  (⟨"SunHouse", "loss", "(IIZ)J"⟩, prog_1_method_30_code, 10, 3, 11, false, (some .long), (some 11), q_code132),
  (⟨"SunHouse", "faults", "(I)I"⟩, prog_1_method_31_code, 2, 1, 11, false, (some .int), (some 11), q_code133),
  (⟨"SunHouse", "fits", "(III)I"⟩, prog_1_method_32_code, 5, 3, 11, false, (some .int), (some 11), q_code134),
  (⟨"SunHouse", "look", "(II)I"⟩, prog_1_method_33_code, 4, 2, 11, false, (some .int), (some 11), q_code135),
  (⟨"SunHouse", "image", "()I"⟩, prog_1_method_34_code, 1, 0, 11, false, (some .int), (some 11), q_code136),
  (⟨"SunHouse", "restore", "()I"⟩, prog_1_method_35_code, 1, 0, 11, false, (some .int), (some 11), q_code137),
  (⟨"SunHouse", "count", "(I)I"⟩, prog_1_method_36_code, 2, 1, 11, false, (some .int), (some 11), q_code138),
  (⟨"SunHouse", "keep", "(III)I"⟩, prog_1_method_37_code, 5, 3, 11, false, (some .int), (some 11), q_code139),
  (⟨"SunHouse", "row", "(III)I"⟩, prog_1_method_38_code, 5, 3, 11, false, (some .int), (some 11), q_code140),
  (⟨"SunHouse", "put", "(III)I"⟩, prog_1_method_39_code, 6, 3, 11, false, (some .int), (some 11), q_code141),
  (⟨"SunHouse", "element", "(II)J"⟩, prog_1_method_40_code, 4, 2, 11, false, (some .long), (some 11), q_code142),
  (⟨"SunHouse", "copy", "(IIIII)I"⟩, prog_1_method_41_code, 8, 5, 11, false, (some .int), (some 11), q_code143)]
def q_rec9 : List MRec := [(⟨"SunHouse", "weight", "(I)I"⟩, prog_1_method_42_code, 4, 1, 11, false, (some .int), (some 11), q_code144),
  (⟨"SunHouse", "toss", "(I)I"⟩, prog_1_method_43_code, 4, 1, 11, false, (some .int), (some 11), q_code145),
  (⟨"SunHouse", "at", "([II)I"⟩, prog_1_method_44_code, 2, 2, 11, false, (some .int), none, q_code146),
  (⟨"SunHouse", "lay", "([III)V"⟩, prog_1_method_45_code, 3, 3, 11, false, none, none, q_code147),
  (⟨"SunHouse", "copyOver", "([I[I)V"⟩, prog_1_method_46_code, 2, 2, 11, false, none, none, q_code148),
  (⟨"SunHouse", "isPart", "(I)Z"⟩, prog_1_method_47_code, 2, 1, 11, false, (some .boolean), (some 11), q_code149),
  (⟨"SunHouse", "isOfKind", "(II)Z"⟩, prog_1_method_48_code, 3, 2, 11, false, (some .boolean), (some 11), q_code150),
  (⟨"SunHouse", "isHour", "(I)Z"⟩, prog_1_method_49_code, 1, 1, 11, false, (some .boolean), none, q_code151),
  (⟨"SunHouse", "isDay", "(I)Z"⟩, prog_1_method_50_code, 1, 1, 11, false, (some .boolean), none, q_code152),
  (⟨"SunHouse", "isPlace", "(I)Z"⟩, prog_1_method_51_code, 1, 1, 11, false, (some .boolean), none, q_code153),
  (⟨"SunHouse", "shelfAt", "(I)LSunHouse$Shelf;"⟩, prog_1_method_52_code, 2, 1, 11, false, (some (.object "SunHouse$Shelf")), (some 11), q_code154),
  (⟨"SunHouse", "seekerOf", "(I)LSunHouse$Seeker;"⟩, prog_1_method_53_code, 3, 1, 11, false, (some (.object "SunHouse$Seeker")), (some 11), q_code155),
  (⟨"SunHouse", "refusalOfRow", "(LSunHouse$Shelf;I)I"⟩, prog_1_method_54_code, 2, 2, 11, false, (some .int), none, q_code156),
  (⟨"SunHouse", "refusalOfPart", "(LSunHouse$Shelf;)I"⟩, prog_1_method_55_code, 1, 1, 11, false, (some .int), none, q_code157),
  (⟨"SunHouse", "currentOf", "(II)I"⟩, prog_1_method_56_code, 3, 2, 11, false, (some .int), (some 11), q_code158),
  (⟨"SunHouse", "bestInHour", "(III)I"⟩, prog_1_method_57_code, 4, 3, 11, false, (some .int), (some 11), q_code159)]
def q_rec10 : List MRec := [(⟨"SunHouse", "bestWithout", "(II)I"⟩, prog_1_method_58_code, 3, 2, 11, false, (some .int), (some 11), q_code160),
  (⟨"SunHouse", "planWashing", "(II)I"⟩, prog_1_method_59_code, 5, 2, 11, false, (some .int), (some 11), q_code161),
  (⟨"SunHouse", "tellsGains", "(LSunHouse$Shelf;)Z"⟩, prog_1_method_60_code, 3, 1, 11, false, (some .boolean), none, q_code162),
  (⟨"SunHouse", "tellsCells", "(LSunHouse$Shelf;)Z"⟩, prog_1_method_61_code, 4, 1, 11, false, (some .boolean), (some 11), q_code163),
  (⟨"SunHouse", "diagnose", "(II)I"⟩, prog_1_method_62_code, 5, 2, 11, false, (some .int), (some 11), q_code164),
  (⟨"SunHouse", "weightOf", "(I)I"⟩, prog_1_method_63_code, 5, 1, 11, false, (some .int), (some 11), q_code165),
  (⟨"SunHouse", "failureOf", "(I)I"⟩, prog_1_method_64_code, 3, 1, 11, false, (some .int), (some 11), q_code166),
  (⟨"SunHouseModel", "<init>", "()V"⟩, prog_14_method_1_code, 1, 0, 12, true, none, (some 12), q_code167),
  (⟨"SunHouseModel", "isIn", "(JJJ)Z"⟩, prog_14_method_3_code, 6, 3, 12, false, (some .boolean), none, q_code168),
  (⟨"SunHouseModel", "isPart", "(I)Z"⟩, prog_14_method_4_code, 2, 1, 12, false, (some .boolean), (some 12), q_code169),
  (⟨"SunHouseModel", "kind", "(I)I"⟩, prog_14_method_5_code, 2, 1, 12, false, (some .int), (some 12), q_code170),
  (⟨"SunHouseModel", "many", "(I)I"⟩, prog_14_method_6_code, 2, 1, 12, false, (some .int), (some 12), q_code171),
  (⟨"SunHouseModel", "of", "(II)I"⟩, prog_14_method_7_code, 3, 2, 12, false, (some .int), (some 12), q_code172),
  (⟨"SunHouseModel", "isShelf", "(I)Z"⟩, prog_14_method_8_code, 1, 1, 12, false, (some .boolean), none, q_code173),
  (⟨"SunHouseModel", "lesser", "(II)I"⟩, prog_14_method_9_code, 2, 2, 12, false, (some .int), none, q_code174),
  (⟨"SunHouseModel", "gathers", "(I)V"⟩, prog_14_method_10_code, 2, 1, 12, false, none, (some 12), q_code175)]
def q_rec11 : List MRec := [(⟨"SunHouseModel", "adds", "(I)V"⟩, prog_14_method_11_code, 3, 1, 12, false, none, (some 12), q_code176),
  (⟨"SunHouseModel", "sign", "()I"⟩, prog_14_method_12_code, 1, 0, 12, false, (some .int), (some 12), q_code177),
  (⟨"SunHouseModel", "takes", "(I)Z"⟩, prog_14_method_13_code, 2, 1, 12, false, (some .boolean), (some 12), q_code178),
  (⟨"SunHouseModel", "readsNumber", "()Z"⟩, prog_14_method_14_code, 1, 0, 12, false, (some .boolean), (some 12), q_code179),
  (⟨"SunHouseModel", "readsNumbers", "()Z"⟩, prog_14_method_15_code, 1, 0, 12, false, (some .boolean), (some 12), q_code180),
  (⟨"SunHouseModel", "readsPoint", "()Z"⟩, prog_14_method_16_code, 1, 0, 12, false, (some .boolean), (some 12), q_code181),
  (⟨"SunHouseModel", "readsItem", "()Z"⟩, prog_14_method_17_code, 1, 0, 12, false, (some .boolean), (some 12), q_code182),
  (⟨"SunHouseModel", "readsStatement", "()Z"⟩, prog_14_method_18_code, 2, 0, 12, false, (some .boolean), (some 12), q_code183),
  (⟨"SunHouseModel", "makesCell", "(I)Z"⟩, prog_14_method_19_code, 6, 1, 12, false, (some .boolean), (some 12), q_code184),
  (⟨"SunHouseModel", "mayCome", "(III)Z"⟩, prog_14_method_20_code, 4, 3, 12, false, (some .boolean), (some 12), q_code185),
  (⟨"SunHouseModel", "makesRow", "(I)Z"⟩, prog_14_method_21_code, 8, 1, 12, false, (some .boolean), (some 12), q_code186),
  (⟨"SunHouseModel", "makesOver", "(III)Z"⟩, prog_14_method_22_code, 7, 3, 12, false, (some .boolean), (some 12), q_code187),
  (⟨"SunHouseModel", "makes", "()Z"⟩, prog_14_method_23_code, 5, 0, 12, false, (some .boolean), (some 12), q_code188),
  (⟨"SunHouseModel", "wrongRow", "(II)I"⟩, prog_14_method_24_code, 3, 2, 12, false, (some .int), (some 12), q_code189),
  (⟨"SunHouseModel", "text", "(I)I"⟩, prog_14_method_25_code, 5, 1, 12, false, (some .int), (some 12), q_code190),
  (⟨"SunHouseModel", "about", "(II)I"⟩, prog_14_method_26_code, 3, 2, 12, false, (some .int), (some 12), q_code191)]
def q_rec12 : List MRec := [(⟨"SunHouseModel", "share", "(I)I"⟩, prog_14_method_27_code, 6, 1, 12, false, (some .int), (some 12), q_code192),
  (⟨"SunHouseModel", "pushAt", "(II)I"⟩, prog_14_method_28_code, 4, 2, 12, false, (some .int), (some 12), q_code193),
  (⟨"SunHouseModel", "currentAt", "(III)I"⟩, prog_14_method_29_code, 4, 3, 12, false, (some .int), (some 12), q_code194),
  (⟨"SunHouseModel", "point", "(III)I"⟩, prog_14_method_30_code, 4, 3, 12, false, (some .int), (some 12), q_code195),
  (⟨"SunHouseModel", "set", "(III)I"⟩, prog_14_method_31_code, 5, 3, 12, false, (some .int), (some 12), q_code196),
  (⟨"SunHouseModel", "dead", "(IZ)I"⟩, prog_14_method_32_code, 4, 2, 12, false, (some .int), (some 12), q_code197),
  (⟨"SunHouseModel", "cellPush", "(III)I"⟩, prog_14_method_33_code, 9, 3, 12, false, (some .int), (some 12), q_code198),
  (⟨"SunHouseModel", "groupPush", "(III)I"⟩, prog_14_method_34_code, 6, 3, 12, false, (some .int), (some 12), q_code199),
  (⟨"SunHouseModel", "hasDiode", "(II)Z"⟩, prog_14_method_35_code, 3, 2, 12, false, (some .boolean), (some 12), q_code200),
  (⟨"SunHouseModel", "lowPush", "(II)I"⟩, prog_14_method_36_code, 6, 2, 12, false, (some .int), (some 12), q_code201),
  (⟨"SunHouseModel", "currentOf", "(II)I"⟩, prog_14_method_37_code, 5, 2, 12, false, (some .int), (some 12), q_code202),
  (⟨"SunHouseModel", "gives", "(I)V"⟩, prog_14_method_38_code, 3, 1, 12, false, none, (some 12), q_code203),
  (⟨"SunHouseModel", "givesMore", "(I)V"⟩, prog_14_method_39_code, 3, 1, 12, false, none, (some 12), q_code204),
  (⟨"SunHouseModel", "givesBy", "()V"⟩, prog_14_method_40_code, 3, 0, 12, false, none, (some 12), q_code205),
  (⟨"SunHouseModel", "push", "(II)J"⟩, prog_14_method_41_code, 5, 2, 12, false, (some .long), (some 12), q_code206),
  (⟨"SunHouseModel", "current", "(II)I"⟩, prog_14_method_42_code, 3, 2, 12, false, (some .int), (some 12), q_code207)]
def q_rec13 : List MRec := [(⟨"SunHouseModel", "bestOf", "()I"⟩, prog_14_method_43_code, 3, 0, 12, false, (some .int), (some 12), q_code208),
  (⟨"SunHouseModel", "bestPower", "(I)I"⟩, prog_14_method_44_code, 3, 1, 12, false, (some .int), (some 12), q_code209),
  (⟨"SunHouseModel", "best", "(II)I"⟩, prog_14_method_45_code, 4, 2, 12, false, (some .int), (some 12), q_code210),
  (⟨"SunHouseModel", "power", "(I)I"⟩, prog_14_method_46_code, 2, 1, 12, false, (some .int), (some 12), q_code211),
  (⟨"SunHouseModel", "hump", "(II)I"⟩, prog_14_method_47_code, 6, 2, 12, false, (some .int), (some 12), q_code212),
  (⟨"SunHouseModel", "held", "(III)I"⟩, prog_14_method_48_code, 10, 3, 12, false, (some .int), (some 12), q_code213),
  (⟨"SunHouseModel", "box", "(III)I"⟩, prog_14_method_49_code, 6, 3, 12, false, (some .int), (some 12), q_code214),
  (⟨"SunHouseModel", "step", "(I)V"⟩, prog_14_method_50_code, 3, 1, 12, false, none, (some 12), q_code215),
  (⟨"SunHouseModel", "seek", "(II)I"⟩, prog_14_method_51_code, 5, 2, 12, false, (some .int), (some 12), q_code216),
  (⟨"SunHouseModel", "led", "(III)I"⟩, prog_14_method_52_code, 7, 3, 12, false, (some .int), (some 12), q_code217),
  (⟨"SunHouseModel", "isSquare", "(I)Z"⟩, prog_14_method_53_code, 1, 1, 12, false, (some .boolean), none, q_code218),
  (⟨"SunHouseModel", "lies", "(III)I"⟩, prog_14_method_54_code, 5, 3, 12, false, (some .int), (some 12), q_code219),
  (⟨"SunHouseModel", "wall", "(IIII)I"⟩, prog_14_method_55_code, 6, 4, 12, false, (some .int), (some 12), q_code220),
  (⟨"SunHouseModel", "sun", "(III)I"⟩, prog_14_method_56_code, 5, 3, 12, false, (some .int), (some 12), q_code221),
  (⟨"SunHouseModel", "isShaded", "(III)Z"⟩, prog_14_method_57_code, 11, 3, 12, false, (some .boolean), (some 12), q_code222),
  (⟨"SunHouseModel", "litOf", "(II)I"⟩, prog_14_method_58_code, 8, 2, 12, false, (some .int), (some 12), q_code223)]
def q_rec14 : List MRec := [(⟨"SunHouseModel", "lit", "(II)I"⟩, prog_14_method_59_code, 3, 2, 12, false, (some .int), (some 12), q_code224),
  (⟨"SunHouseModel", "sky", "(I)I"⟩, prog_14_method_60_code, 4, 1, 12, false, (some .int), (some 12), q_code225),
  (⟨"SunHouseModel", "isGap", "(I)Z"⟩, prog_14_method_61_code, 2, 1, 12, false, (some .boolean), (some 12), q_code226),
  (⟨"SunHouseModel", "strengthAt", "(I)I"⟩, prog_14_method_62_code, 10, 1, 12, false, (some .int), (some 12), q_code227),
  (⟨"SunHouseModel", "strength", "(II)I"⟩, prog_14_method_63_code, 3, 2, 12, false, (some .int), (some 12), q_code228),
  (⟨"SunHouseModel", "hourPower", "(III)I"⟩, prog_14_method_64_code, 5, 3, 12, false, (some .int), (some 12), q_code229),
  (⟨"SunHouseModel", "hour", "(III)I"⟩, prog_14_method_65_code, 4, 3, 12, false, (some .int), (some 12), q_code230),
  (⟨"SunHouseModel", "day", "(II)I"⟩, prog_14_method_66_code, 5, 2, 12, false, (some .int), (some 12), q_code231),
  (⟨"SunHouseModel", "wrongWash", "(II)I"⟩, prog_14_method_67_code, 5, 2, 12, false, (some .int), (some 12), q_code232),
  (⟨"SunHouseModel", "gain", "(II)I"⟩, prog_14_method_68_code, 3, 2, 12, false, (some .int), (some 12), q_code233),
  (⟨"SunHouseModel", "pays", "(II)Z"⟩, prog_14_method_69_code, 5, 2, 12, false, (some .boolean), (some 12), q_code234),
  (⟨"SunHouseModel", "findWashing", "(II)V"⟩, prog_14_method_70_code, 7, 2, 12, false, none, (some 12), q_code235),
  (⟨"SunHouseModel", "wash", "(II)I"⟩, prog_14_method_71_code, 4, 2, 12, false, (some .int), (some 12), q_code236),
  (⟨"SunHouseModel", "washed", "(III)I"⟩, prog_14_method_72_code, 9, 3, 12, false, (some .int), (some 12), q_code237),
  (⟨"SunHouseModel", "wrongParting", "(I)I"⟩, prog_14_method_73_code, 6, 1, 12, false, (some .int), (some 12), q_code238),
  (⟨"SunHouseModel", "givesSet", "(II)V"⟩, prog_14_method_74_code, 5, 2, 12, false, none, (some 12), q_code239)]
def q_rec15 : List MRec := [(⟨"SunHouseModel", "parting", "(II)I"⟩, prog_14_method_75_code, 9, 2, 12, false, (some .int), (some 12), q_code240),
  (⟨"SunHouseModel", "trade", "(II)I"⟩, prog_14_method_76_code, 4, 2, 12, false, (some .int), (some 12), q_code241),
  (⟨"SunHouseModel", "room", "(I)I"⟩, prog_14_method_77_code, 3, 1, 12, false, (some .int), (some 12), q_code242),
  (⟨"SunHouseModel", "findSales", "()V"⟩, prog_14_method_78_code, 7, 0, 12, false, none, (some 12), q_code243),
  (⟨"SunHouseModel", "sells", "(I)I"⟩, prog_14_method_79_code, 4, 1, 12, false, (some .int), (some 12), q_code244),
  (⟨"SunHouseModel", "withoutOf", "(II)I"⟩, prog_14_method_80_code, 4, 2, 12, false, (some .int), (some 12), q_code245),
  (⟨"SunHouseModel", "without", "(II)I"⟩, prog_14_method_81_code, 3, 2, 12, false, (some .int), (some 12), q_code246),
  (⟨"SunHouseModel", "loss", "(IIZ)J"⟩, prog_14_method_82_code, 9, 3, 12, false, (some .long), (some 12), q_code247),
  (⟨"SunHouseModel", "faults", "(I)I"⟩, prog_14_method_83_code, 2, 1, 12, false, (some .int), (some 12), q_code248),
  (⟨"SunHouseModel", "takesFault", "(I)V"⟩, prog_14_method_84_code, 2, 1, 12, false, none, (some 12), q_code249),
  (⟨"SunHouseModel", "noFault", "()V"⟩, prog_14_method_85_code, 1, 0, 12, false, none, (some 12), q_code250),
  (⟨"SunHouseModel", "wrongFits", "(II)I"⟩, prog_14_method_86_code, 4, 2, 12, false, (some .int), (some 12), q_code251),
  (⟨"SunHouseModel", "fitsBy", "(III)Z"⟩, prog_14_method_87_code, 6, 3, 12, false, (some .boolean), (some 12), q_code252),
  (⟨"SunHouseModel", "fits", "(III)I"⟩, prog_14_method_88_code, 7, 3, 12, false, (some .int), (some 12), q_code253),
  (⟨"SunHouseModel", "look", "(II)I"⟩, prog_14_method_89_code, 12, 2, 12, false, (some .int), (some 12), q_code254),
  (⟨"SunHouseModel", "image", "()I"⟩, prog_14_method_90_code, 2, 0, 12, false, (some .int), (some 12), q_code255)]
def q_rec16 : List MRec := [(⟨"SunHouseModel", "restore", "()I"⟩, prog_14_method_91_code, 2, 0, 12, false, (some .int), (some 12), q_code256),
  (⟨"SunHouseModel", "count", "(I)I"⟩, prog_14_method_92_code, 4, 1, 12, false, (some .int), (some 12), q_code257),
  (⟨"SunHouseModel", "keep", "(III)I"⟩, prog_14_method_93_code, 4, 3, 12, false, (some .int), (some 12), q_code258),
  (⟨"SunHouseModel", "row", "(III)I"⟩, prog_14_method_94_code, 5, 3, 12, false, (some .int), (some 12), q_code259),
  (⟨"SunHouseModel", "put", "(III)I"⟩, prog_14_method_95_code, 5, 3, 12, false, (some .int), (some 12), q_code260),
  (⟨"SunHouseModel", "element", "(II)J"⟩, prog_14_method_96_code, 3, 2, 12, false, (some .long), (some 12), q_code261),
  (⟨"SunHouseModel", "copy", "(IIIII)I"⟩, prog_14_method_97_code, 8, 5, 12, false, (some .int), (some 12), q_code262),
  (⟨"SunHouseModel", "wrongKept", "(I)I"⟩, prog_14_method_98_code, 2, 1, 12, false, (some .int), (some 12), q_code263),
  (⟨"SunHouseModel", "weight", "(I)I"⟩, prog_14_method_99_code, 3, 1, 12, false, (some .int), (some 12), q_code264),
  (⟨"SunHouseModel", "toss", "(I)I"⟩, prog_14_method_100_code, 3, 1, 12, false, (some .int), (some 12), q_code265),
  (⟨"java/lang/Integer", "bitCount", "(I)I"⟩, prog_18_method_49_code, 1, 1, 14, false, (some .int), none, q_code266),
  (⟨"java/lang/Math", "abs", "(I)I"⟩, prog_19_method_59_code, 1, 1, 15, false, (some .int), none, q_code267),
  (⟨"java/lang/Math", "max", "(II)I"⟩, prog_19_method_65_code, 2, 2, 15, false, (some .int), none, q_code268),
  (⟨"java/lang/Math", "min", "(II)I"⟩, prog_19_method_69_code, 2, 2, 15, false, (some .int), none, q_code269),
  (⟨"java/util/Arrays", "fill", "([II)V"⟩, prog_24_method_103_code, 4, 2, 16, false, none, none, q_code270),
  (⟨"SunHouseLaw", "push", "(LSunHouse;II[J)I"⟩, method_3_code, 5, 4, 13, false, (some .int), none, q_code271)]
def q_rec17 : List MRec := [(⟨"SunHouseLaw", "loss", "(LSunHouse;IIZ[J)I"⟩, method_4_code, 6, 5, 13, false, (some .int), none, q_code272),
  (⟨"SunHouseLaw", "element", "(LSunHouse;II[J)I"⟩, method_5_code, 5, 4, 13, false, (some .int), none, q_code273),
  (⟨"SunHouseLaw", "law", "([I)Z"⟩, code, 8, 1, 13, false, (some .boolean), none, q_code274)]
def q_recs : List (List MRec) := [q_rec0, q_rec1, q_rec2, q_rec3, q_rec4, q_rec5, q_rec6, q_rec7, q_rec8, q_rec9, q_rec10, q_rec11, q_rec12, q_rec13, q_rec14, q_rec15, q_rec16, q_rec17]
def q_dflt : MRec := (⟨"", "", ""⟩, ⟨#[]⟩, 0, 0, 9999, false, none, none, [])
def q_r (mid : Nat) : MRec := (q_recs.getD (mid / 16) []).getD (mid % 16) q_dflt
def q_y (mid : Nat) : MethodName := (q_r mid).1
def q_b (mid : Nat) : ByteArray := (q_r mid).2.1
def q_nl (mid : Nat) : Nat := (q_r mid).2.2.1
def q_np (mid : Nat) : Nat := (q_r mid).2.2.2.1
def q_oc (mid : Nat) : Nat := (q_r mid).2.2.2.2.1
def q_ini (mid : Nat) : Bool := (q_r mid).2.2.2.2.2.1
def q_rt (mid : Nat) : Option FieldType := (q_r mid).2.2.2.2.2.2.1
def q_rc (mid : Nat) : Option Nat := (q_r mid).2.2.2.2.2.2.2.1
def q_i (mid pc : Nat) : Option Instr := q_at (q_r mid).2.2.2.2.2.2.2.2 pc
def q_ft0 : List (Nat × (Nat × Nat × Nat × Bool × Bool)) := [(9, (0, 0, 427, false, true)), (15, (0, 1, 430, false, true)), (18, (0, 2, 432, false, true)), (21, (0, 4, 435, false, true)), (24, (0, 5, 436, false, true)), (27, (0, 6, 437, false, true)), (30, (0, 7, 438, false, true)), (34, (0, 8, 439, true, true)), (38, (0, 9, 440, true, true)), (41, (0, 10, 441, true, true)), (44, (0, 11, 442, true, true)), (47, (0, 12, 443, true, true)), (50, (0, 13, 444, true, true)), (53, (0, 14, 445, true, true)), (56, (0, 15, 447, true, true)), (59, (0, 16, 449, true, true)), (62, (0, 17, 450, true, true)), (65, (0, 18, 451, true, true)), (68, (0, 3, 434, true, true)), (72, (3, 0, 296, true, false)), (81, (4, 1, 142, true, false)), (90, (4, 5, 153, true, false)), (97, (4, 4, 151, true, false)), (100, (8, 5, 341, false, false)), (105, (8, 6, 346, true, false)), (118, (4, 6, 155, true, false)), (119, (4, 7, 157, true, false)), (124, (4, 2, 147, true, false)), (127, (3, 1, 301, true, false)), (130, (1, 3, 192, true, false)), (133, (1, 2, 190, true, false)), (138, (1, 0, 183, true, false)), (141, (1, 1, 186, true, false))]
def q_ft1 : List (Nat × (Nat × Nat × Nat × Bool × Bool)) := [(9, (1, 0, 182, true, true)), (15, (1, 1, 185, true, true)), (18, (1, 2, 188, true, true)), (21, (1, 3, 191, true, true)), (24, (1, 4, 194, true, true)), (27, (1, 5, 196, true, true)), (42, (4, 0, 139, false, false)), (48, (4, 1, 144, true, false))]
def q_ft2 : List (Nat × (Nat × Nat × Nat × Bool × Bool)) := [(9, (2, 0, 519, false, true)), (15, (2, 1, 520, true, true)), (19, (2, 2, 521, true, true)), (22, (2, 3, 522, true, true)), (31, (0, 0, 428, false, false)), (57, (8, 5, 340, false, false)), (62, (8, 6, 345, true, false))]
def q_ft3 : List (Nat × (Nat × Nat × Nat × Bool × Bool)) := [(12, (3, 0, 295, true, true)), (21, (3, 1, 299, true, true)), (27, (3, 2, 303, true, true)), (34, (3, 3, 305, true, true)), (41, (3, 4, 307, true, true))]
def q_ft4 : List (Nat × (Nat × Nat × Nat × Bool × Bool)) := [(9, (4, 0, 137, false, true)), (15, (4, 1, 141, true, true)), (19, (4, 2, 145, true, true)), (22, (4, 3, 148, true, true)), (25, (4, 4, 150, true, true)), (28, (4, 5, 152, true, true)), (31, (4, 6, 154, true, true)), (34, (4, 7, 156, true, true))]
def q_ft5 : List (Nat × (Nat × Nat × Nat × Bool × Bool)) := [(9, (5, 0, 372, false, true)), (15, (5, 1, 373, false, true)), (18, (5, 2, 374, false, true)), (21, (5, 3, 375, false, true)), (24, (5, 4, 376, false, true)), (28, (5, 5, 377, false, true)), (31, (5, 6, 378, false, true)), (34, (5, 7, 379, false, true)), (37, (5, 8, 380, false, true)), (40, (5, 9, 381, true, true)), (44, (5, 10, 382, true, true)), (47, (5, 11, 383, true, true)), (50, (5, 12, 384, true, true)), (53, (5, 13, 385, true, true)), (56, (5, 14, 386, true, true)), (59, (5, 15, 387, true, true)), (66, (3, 0, 297, true, false)), (72, (4, 0, 138, false, false)), (87, (8, 5, 339, false, false)), (90, (8, 6, 348, true, false)), (135, (3, 1, 302, true, false)), (139, (1, 0, 184, true, false)), (144, (1, 1, 187, true, false))]
def q_ft6 : List (Nat × (Nat × Nat × Nat × Bool × Bool)) := [(9, (6, 0, 219, true, true)), (15, (6, 1, 221, true, true)), (18, (6, 2, 223, true, true)), (21, (6, 3, 225, true, true)), (24, (6, 4, 227, true, true)), (27, (6, 5, 229, true, true)), (30, (6, 6, 230, false, true)), (34, (6, 7, 232, false, true)), (65, (8, 6, 349, true, false)), (70, (8, 5, 342, false, false))]
def q_ft7 : List (Nat × (Nat × Nat × Nat × Bool × Bool)) := [(9, (7, 0, 277, false, true)), (15, (7, 1, 279, false, true)), (18, (7, 2, 281, false, true)), (22, (7, 3, 282, false, true)), (25, (7, 4, 283, false, true))]
def q_ft8 : List (Nat × (Nat × Nat × Nat × Bool × Bool)) := [(9, (8, 0, 327, false, true)), (15, (8, 1, 329, false, true)), (18, (8, 2, 331, false, true)), (22, (8, 3, 333, false, true)), (25, (8, 4, 335, false, true)), (28, (8, 5, 337, false, true)), (31, (8, 6, 344, true, true))]
def q_ft9 : List (Nat × (Nat × Nat × Nat × Bool × Bool)) := [(9, (9, 0, 256, true, true)), (15, (9, 1, 258, true, true)), (18, (9, 2, 260, false, true)), (22, (9, 3, 262, true, true))]
def q_ft10 : List (Nat × (Nat × Nat × Nat × Bool × Bool)) := [(9, (10, 0, 499, false, true)), (15, (10, 1, 500, true, true)), (19, (10, 2, 502, true, true)), (22, (10, 3, 503, true, true)), (25, (8, 5, 338, false, false)), (44, (8, 6, 347, true, false))]
def q_ft11 : List (Nat × (Nat × Nat × Nat × Bool × Bool)) := [(12, (11, 0, 532, true, true)), (16, (11, 1, 533, true, true)), (19, (11, 2, 534, false, true)), (25, (11, 3, 535, true, true)), (33, (11, 4, 536, true, true)), (42, (11, 5, 537, true, true)), (49, (11, 6, 538, true, true)), (56, (11, 7, 539, true, true)), (63, (11, 8, 540, true, true)), (67, (11, 9, 541, true, true)), (87, (3, 0, 298, true, false)), (91, (4, 1, 143, true, false)), (100, (4, 2, 146, true, false)), (103, (4, 3, 149, true, false)), (110, (0, 0, 429, false, false)), (125, (0, 14, 446, true, false)), (128, (0, 15, 448, true, false)), (134, (3, 1, 300, true, false)), (137, (1, 2, 189, true, false)), (146, (1, 3, 193, true, false)), (167, (0, 1, 431, false, false)), (170, (0, 2, 433, false, false)), (195, (7, 0, 278, false, false)), (198, (7, 1, 280, false, false)), (219, (1, 4, 195, true, false)), (222, (1, 5, 197, true, false)), (225, (3, 3, 306, true, false)), (229, (6, 2, 224, true, false)), (234, (6, 0, 220, true, false)), (237, (6, 1, 222, true, false)), (243, (6, 3, 226, true, false)), (246, (6, 4, 228, true, false)), (261, (8, 5, 343, false, false)), (277, (10, 1, 501, true, false)), (293, (3, 4, 308, true, false)), (297, (9, 0, 257, true, false)), (302, (9, 1, 259, true, false)), (305, (9, 2, 261, false, false)), (345, (4, 0, 140, false, false)), (356, (6, 6, 231, false, false)), (374, (8, 6, 350, true, false)), (382, (8, 1, 330, false, false)), (394, (8, 4, 336, false, false)), (410, (8, 2, 332, false, false)), (413, (8, 3, 334, false, false)), (416, (3, 2, 304, true, false)), (420, (8, 0, 328, false, false))]
def q_ft12 : List (Nat × (Nat × Nat × Nat × Bool × Bool)) := [(9, (12, 0, 1348, true, true)), (13, (12, 1, 1349, true, true)), (16, (12, 2, 1350, true, true)), (19, (12, 3, 1351, true, true)), (22, (12, 4, 1352, true, true)), (25, (12, 5, 1353, true, true)), (28, (12, 6, 1354, true, true)), (31, (12, 7, 1355, true, true)), (34, (12, 8, 1356, true, true)), (37, (12, 11, 1359, true, true)), (40, (12, 12, 1360, true, true)), (43, (12, 19, 1367, true, true)), (46, (12, 20, 1368, false, true)), (50, (12, 23, 1371, false, true)), (53, (12, 24, 1372, false, true)), (56, (12, 25, 1373, true, true)), (59, (12, 26, 1374, true, true)), (62, (12, 31, 1379, true, true)), (65, (12, 32, 1380, true, true)), (68, (12, 36, 1384, true, true)), (71, (12, 37, 1385, true, true)), (74, (12, 38, 1386, true, true)), (77, (12, 39, 1387, true, true)), (80, (12, 10, 1358, false, true)), (89, (12, 13, 1361, false, true)), (92, (12, 14, 1362, false, true)), (110, (12, 15, 1363, false, true)), (113, (12, 17, 1365, false, true)), (116, (12, 16, 1364, false, true)), (127, (12, 18, 1366, false, true)), (183, (12, 22, 1370, false, true)), (189, (12, 21, 1369, false, true)), (251, (12, 27, 1375, false, true)), (254, (12, 30, 1378, false, true)), (258, (12, 29, 1377, false, true)), (261, (12, 28, 1376, false, true)), (296, (12, 35, 1383, false, true)), (299, (12, 33, 1381, false, true)), (305, (12, 34, 1382, false, true)), (350, (12, 9, 1357, false, true))]
def q_ft13 : List (Nat × (Nat × Nat × Nat × Bool × Bool)) := []
def q_ft14 : List (Nat × (Nat × Nat × Nat × Bool × Bool)) := []
def q_ft15 : List (Nat × (Nat × Nat × Nat × Bool × Bool)) := []
def q_ft16 : List (Nat × (Nat × Nat × Nat × Bool × Bool)) := []
def q_ft : List (List (Nat × (Nat × Nat × Nat × Bool × Bool))) := [q_ft0, q_ft1, q_ft2, q_ft3, q_ft4, q_ft5, q_ft6, q_ft7, q_ft8, q_ft9, q_ft10, q_ft11, q_ft12, q_ft13, q_ft14, q_ft15, q_ft16]
def q_ct0 : List (Nat × (Nat × Nat × Nat × Nat × Nat × Nat)) := [(3, (0, 5, 426, 123, 124, 0)), (78, (3, 0, 684, 686, 14, 687)), (86, (146, 3, 0, 587, 0, 588)), (93, (4, 0, 692, 694, 15, 695)), (108, (5, 0, 696, 698, 16, 699)), (112, (270, 1, 688, 689, 0, 690)), (120, (147, 3, 0, 598, 0, 599)), (134, (38, 0, 936, 885, 886, 887)), (144, (9, 0, 744, 714, 715, 716)), (147, (13, 0, 745, 747, 20, 748)), (151, (10, 0, 740, 742, 19, 743)), (154, (0, 11, 749, 750, 113, 751)), (159, (14, 0, 752, 754, 21, 755)), (162, (0, 10, 764, 765, 113, 766)), (165, (12, 0, 1300, 807, 808, 809)), (168, (15, 0, 760, 762, 22, 763)), (171, (11, 0, 783, 737, 738, 739)), (174, (17, 0, 784, 757, 758, 759)), (177, (19, 0, 793, 772, 773, 774)), (181, (18, 0, 767, 769, 23, 770)), (184, (22, 0, 785, 787, 24, 788)), (187, (20, 0, 789, 790, 791, 792)), (190, (28, 0, 993, 995, 32, 996)), (193, (6, 0, 1053, 702, 703, 704)), (197, (32, 0, 1075, 1068, 1069, 1070))]
def q_ct1 : List (Nat × (Nat × Nat × Nat × Nat × Nat × Nat)) := [(3, (0, 5, 181, 123, 124, 0)), (30, (148, 3, 0, 897, 0, 898)), (34, (147, 3, 0, 598, 0, 599)), (38, (146, 3, 0, 587, 0, 588))]
def q_ct2 : List (Nat × (Nat × Nat × Nat × Nat × Nat × Nat)) := [(3, (0, 5, 518, 123, 124, 0)), (25, (29, 0, 1066, 1050, 1051, 1052)), (34, (32, 0, 1067, 1068, 1069, 1070)), (38, (30, 0, 1071, 1072, 1073, 1074)), (42, (17, 0, 1076, 757, 758, 759)), (46, (42, 1, 1077, 1078, 0, 1079)), (50, (43, 0, 1082, 1084, 37, 1085)), (54, (31, 0, 1087, 1088, 1089, 1090)), (65, (146, 3, 0, 587, 0, 588)), (69, (19, 0, 1081, 772, 773, 774)), (72, (147, 3, 0, 598, 0, 599)), (76, (46, 0, 1103, 1105, 38, 1106)), (79, (270, 1, 1107, 689, 0, 690)), (85, (0, 10, 1108, 765, 113, 766))]
def q_ct3 : List (Nat × (Nat × Nat × Nat × Nat × Nat × Nat)) := [(3, (0, 5, 130, 123, 124, 0)), (11, (50, 2, 0, 134, 0, 135)), (20, (33, 2, 0, 179, 0, 180)), (33, (71, 2, 0, 216, 0, 217)), (40, (92, 2, 0, 253, 0, 254)), (45, (79, 2, 0, 274, 0, 275)), (46, (51, 0, 1117, 1118, 1119, 1120)), (50, (34, 0, 1122, 1123, 1124, 1125)), (53, (80, 0, 1127, 1128, 1129, 1130)), (56, (72, 0, 1131, 1132, 1133, 1134)), (59, (93, 0, 1135, 1136, 1137, 1138)), (62, (52, 0, 636, 637, 638, 639)), (66, (35, 0, 641, 642, 643, 644)), (69, (81, 0, 646, 647, 648, 649))]
def q_ct4 : List (Nat × (Nat × Nat × Nat × Nat × Nat × Nat)) := [(3, (0, 5, 136, 123, 124, 0)), (37, (148, 3, 0, 897, 0, 898)), (41, (147, 3, 0, 598, 0, 599)), (45, (146, 3, 0, 587, 0, 588)), (49, (54, 1, 664, 665, 0, 666))]
def q_ct5 : List (Nat × (Nat × Nat × Nat × Nat × Nat × Nat)) := [(3, (0, 5, 371, 123, 124, 0)), (62, (59, 0, 582, 584, 1, 585)), (75, (68, 0, 624, 626, 10, 627)), (79, (55, 0, 667, 668, 669, 670)), (83, (146, 3, 0, 587, 0, 588)), (93, (60, 0, 589, 591, 2, 592)), (97, (61, 0, 593, 595, 3, 596)), (100, (62, 0, 600, 602, 4, 603)), (103, (63, 0, 604, 606, 5, 607)), (106, (147, 3, 0, 598, 0, 599)), (110, (64, 0, 608, 610, 6, 611)), (114, (65, 0, 612, 614, 7, 615)), (117, (66, 0, 616, 618, 8, 619)), (120, (67, 0, 620, 622, 9, 623)), (123, (69, 0, 628, 630, 11, 631)), (127, (70, 0, 655, 657, 12, 658)), (131, (49, 0, 632, 633, 634, 635)), (147, (36, 0, 650, 651, 652, 653)), (151, (53, 0, 659, 660, 661, 662))]
def q_ct6 : List (Nat × (Nat × Nat × Nat × Nat × Nat × Nat)) := [(3, (0, 5, 218, 123, 124, 0)), (37, (148, 3, 0, 897, 0, 898)), (41, (146, 3, 0, 587, 0, 588)), (45, (270, 1, 873, 689, 0, 690)), (51, (75, 0, 875, 877, 26, 878)), (61, (147, 3, 0, 598, 0, 599)), (73, (89, 0, 902, 903, 904, 905)), (77, (78, 0, 918, 920, 27, 921))]
def q_ct7 : List (Nat × (Nat × Nat × Nat × Nat × Nat × Nat)) := [(3, (0, 5, 276, 123, 124, 0))]
def q_ct8 : List (Nat × (Nat × Nat × Nat × Nat × Nat × Nat)) := [(3, (0, 5, 326, 123, 124, 0)), (35, (270, 1, 1192, 689, 0, 690)), (42, (0, 11, 1209, 750, 113, 751)), (48, (146, 3, 0, 587, 0, 588))]
def q_ct9 : List (Nat × (Nat × Nat × Nat × Nat × Nat × Nat)) := [(3, (0, 5, 255, 123, 124, 0)), (25, (148, 3, 0, 897, 0, 898)), (29, (270, 1, 1013, 689, 0, 690)), (35, (146, 3, 0, 587, 0, 588)), (39, (95, 0, 1015, 1017, 33, 1018)), (43, (96, 0, 1020, 1022, 34, 1023)), (47, (0, 10, 1019, 765, 113, 766)), (53, (147, 3, 0, 598, 0, 599))]
def q_ct10 : List (Nat × (Nat × Nat × Nat × Nat × Nat × Nat)) := [(3, (0, 5, 498, 123, 124, 0)), (30, (147, 3, 0, 598, 0, 599)), (34, (101, 0, 958, 960, 30, 961)), (38, (0, 11, 962, 750, 113, 751)), (47, (146, 3, 0, 587, 0, 588))]
def q_ct11 : List (Nat × (Nat × Nat × Nat × Nat × Nat × Nat)) := [(3, (0, 5, 122, 123, 124, 0)), (11, (47, 6, 127, 128, 0, 129)), (29, (83, 2, 0, 324, 0, 325)), (32, (57, 2, 0, 369, 0, 370)), (39, (0, 6, 423, 424, 0, 425)), (48, (79, 2, 0, 274, 0, 275)), (55, (99, 2, 0, 496, 0, 497)), (62, (40, 2, 0, 516, 0, 517)), (71, (154, 0, 567, 569, 0, 570)), (75, (156, 1, 571, 572, 0, 573)), (79, (58, 0, 578, 579, 580, 581)), (83, (149, 0, 675, 677, 13, 678)), (96, (146, 1, 679, 587, 0, 588)), (106, (1, 0, 680, 681, 682, 683)), (114, (6, 0, 701, 702, 703, 704)), (118, (150, 0, 709, 711, 17, 712)), (122, (9, 0, 713, 714, 715, 716)), (142, (147, 1, 723, 598, 0, 599)), (156, (16, 0, 1296, 1297, 1298, 1299)), (160, (158, 0, 732, 734, 18, 735)), (164, (21, 0, 779, 780, 781, 782)), (173, (19, 0, 771, 772, 773, 774)), (176, (23, 0, 798, 799, 800, 801)), (179, (12, 0, 806, 807, 808, 809)), (182, (24, 0, 810, 811, 812, 813)), (185, (25, 0, 814, 815, 816, 817)), (188, (26, 0, 818, 819, 820, 821)), (191, (155, 0, 826, 828, 25, 829)), (201, (81, 0, 830, 647, 648, 649)), (205, (20, 0, 835, 790, 791, 792)), (208, (82, 0, 836, 837, 838, 839)), (211, (0, 12, 844, 845, 113, 846)), (216, (153, 1, 851, 852, 0, 853)), (240, (151, 1, 862, 863, 0, 864)), (249, (74, 0, 869, 870, 871, 872)), (253, (38, 0, 884, 885, 886, 887)), (257, (76, 0, 892, 893, 894, 895)), (264, (152, 1, 911, 912, 0, 913)), (267, (77, 0, 914, 915, 916, 917)), (270, (159, 0, 928, 930, 28, 931)), (274, (161, 0, 945, 947, 29, 948)), (280, (102, 0, 968, 969, 970, 971)), (283, (163, 0, 976, 978, 31, 979)), (287, (2, 0, 985, 986, 987, 988)), (290, (27, 0, 989, 990, 991, 992)), (308, (94, 0, 1009, 1010, 1011, 1012)), (311, (97, 0, 1025, 1026, 1027, 1028)), (314, (98, 0, 1029, 1030, 1031, 1032)), (317, (160, 0, 1037, 1039, 35, 1040)), (325, (266, 1, 1311, 1312, 0, 1313)), (330, (29, 0, 1049, 1050, 1051, 1052)), (333, (164, 0, 1058, 1060, 36, 1061)), (336, (44, 0, 1091, 1092, 1093, 1094)), (339, (45, 0, 1099, 1100, 1101, 1102)), (342, (48, 0, 1113, 1114, 1115, 1116)), (346, (56, 0, 1148, 1149, 1150, 1151)), (349, (39, 0, 1152, 1153, 1154, 1155)), (353, (73, 0, 1156, 1157, 1158, 1159)), (359, (85, 0, 1164, 1165, 1166, 1167)), (362, (165, 0, 1168, 1170, 39, 1171)), (365, (166, 0, 1176, 1178, 40, 1179)), (368, (86, 0, 1180, 1181, 1182, 1183)), (371, (87, 0, 1188, 1189, 1190, 1191)), (377, (88, 0, 1197, 1198, 1199, 1200)), (390, (84, 0, 574, 575, 576, 577)), (397, (90, 0, 1205, 1206, 1207, 1208)), (400, (0, 9, 899, 901, 900, 114)), (406, (157, 1, 1214, 1215, 0, 1216)), (423, (11, 0, 736, 737, 738, 739)), (426, (17, 0, 756, 757, 758, 759)), (429, (8, 0, 932, 933, 934, 935)), (433, (7, 0, 1041, 1042, 1043, 1044)), (437, (162, 1, 950, 951, 0, 952)), (440, (100, 0, 953, 954, 955, 956)), (443, (91, 0, 980, 981, 982, 983)), (446, (41, 0, 1062, 1063, 1064, 1065)), (450, (37, 0, 1172, 1173, 1174, 1175))]
def q_ct12 : List (Nat × (Nat × Nat × Nat × Nat × Nat × Nat)) := [(1, (0, 5, 1347, 123, 124, 0)), (83, (168, 1, 1481, 1482, 0, 1483)), (95, (176, 0, 1558, 1560, 59, 1561)), (99, (170, 0, 1534, 1536, 55, 1537)), (103, (171, 0, 1562, 1564, 60, 1565)), (106, (172, 0, 1522, 1524, 52, 1525)), (119, (177, 0, 1488, 1490, 44, 1491)), (130, (179, 0, 1496, 1498, 46, 1499)), (134, (178, 0, 1502, 1504, 47, 1505)), (138, (180, 0, 1510, 1512, 49, 1513)), (141, (181, 0, 1492, 1494, 45, 1495)), (144, (182, 0, 1506, 1508, 48, 1509)), (147, (185, 0, 1530, 1532, 54, 1533)), (151, (174, 1, 1538, 1539, 0, 1540)), (154, (184, 0, 1518, 1520, 51, 1521)), (157, (186, 0, 1526, 1528, 53, 1529)), (160, (187, 0, 1541, 1543, 56, 1544)), (163, (173, 1, 1477, 1478, 0, 1479)), (166, (189, 0, 1473, 1475, 42, 1476)), (169, (183, 0, 1484, 1486, 43, 1487)), (172, (188, 0, 1514, 1516, 50, 1517)), (175, (169, 0, 1549, 1551, 57, 1552)), (180, (175, 0, 1554, 1556, 58, 1557)), (186, (223, 0, 1578, 1580, 63, 1581)), (192, (193, 0, 1570, 1572, 61, 1573)), (195, (192, 0, 1574, 1576, 62, 1577)), (198, (194, 0, 1586, 1588, 65, 1589)), (210, (198, 0, 1611, 1613, 67, 1614)), (213, (199, 0, 1615, 1617, 68, 1618)), (216, (200, 0, 1619, 1621, 69, 1622)), (220, (202, 0, 1640, 1642, 73, 1643)), (223, (201, 0, 1607, 1609, 66, 1610)), (226, (204, 0, 1627, 1629, 71, 1630)), (229, (205, 0, 1631, 1633, 72, 1634)), (234, (203, 0, 1623, 1625, 70, 1626)), (239, (208, 0, 1649, 1651, 74, 1652)), (244, (211, 0, 1657, 1659, 75, 1660)), (264, (215, 0, 1675, 1677, 76, 1678)), (269, (218, 1, 1688, 1689, 0, 1690)), (280, (222, 0, 1582, 1584, 64, 1585)), (284, (226, 0, 1719, 1721, 78, 1722)), (287, (227, 0, 1715, 1717, 77, 1718)), (290, (209, 0, 1732, 1734, 80, 1735)), (293, (229, 0, 1728, 1730, 79, 1731)), (302, (233, 0, 1756, 1758, 84, 1759)), (308, (234, 0, 1752, 1754, 83, 1755)), (311, (232, 0, 1744, 1746, 81, 1747)), (314, (235, 0, 1748, 1750, 82, 1751)), (320, (238, 0, 1768, 1770, 85, 1771)), (323, (239, 0, 1773, 1775, 86, 1776)), (328, (243, 0, 1790, 1792, 87, 1793)), (333, (245, 0, 1799, 1801, 88, 1802)), (338, (249, 0, 1824, 1826, 91, 1827)), (341, (250, 0, 1828, 1830, 92, 1831)), (344, (251, 0, 1816, 1818, 89, 1819)), (347, (252, 0, 1820, 1822, 90, 1823)), (353, (263, 0, 1872, 1874, 93, 1875))]
def q_ct13 : List (Nat × (Nat × Nat × Nat × Nat × Nat × Nat)) := [(7, (109, 0, 1225, 1226, 1227, 1228)), (15, (132, 0, 1304, 1305, 1306, 1307)), (19, (142, 0, 1321, 1322, 1323, 1324)), (24, (103, 6, 119, 120, 0, 121)), (27, (167, 6, 1344, 1345, 0, 1346)), (28, (104, 0, 563, 564, 565, 566)), (32, (190, 0, 1469, 1470, 1471, 1472)), (33, (105, 0, 671, 672, 673, 674)), (37, (191, 0, 1545, 1546, 1547, 1548)), (38, (106, 0, 705, 706, 707, 708)), (42, (195, 0, 1566, 1567, 1568, 1569)), (43, (107, 0, 717, 718, 719, 720)), (46, (196, 0, 1590, 1591, 1592, 1593)), (47, (108, 0, 724, 725, 726, 727)), (51, (197, 0, 1598, 1599, 1600, 1601)), (52, (271, 7, 1221, 1222, 0, 1223)), (57, (206, 0, 1602, 1603, 1604, 1605)), (58, (110, 0, 728, 729, 730, 731)), (61, (207, 0, 1635, 1636, 1637, 1638)), (62, (111, 0, 775, 776, 777, 778)), (65, (210, 0, 1644, 1645, 1646, 1647)), (66, (112, 0, 794, 795, 796, 797)), (69, (212, 0, 1653, 1654, 1655, 1656)), (70, (113, 0, 802, 803, 804, 805)), (73, (213, 0, 1661, 1662, 1663, 1664)), (74, (114, 0, 822, 823, 824, 825)), (77, (214, 0, 1666, 1667, 1668, 1669)), (78, (115, 0, 831, 832, 833, 834)), (81, (216, 0, 1671, 1672, 1673, 1674)), (82, (116, 0, 840, 841, 842, 843)), (85, (217, 0, 1679, 1680, 1681, 1682)), (86, (117, 0, 847, 848, 849, 850)), (89, (219, 0, 1684, 1685, 1686, 1687)), (90, (118, 0, 854, 855, 856, 857)), (94, (220, 0, 1691, 1692, 1693, 1694)), (95, (119, 0, 858, 859, 860, 861)), (98, (221, 0, 1699, 1700, 1701, 1702)), (99, (120, 0, 865, 866, 867, 868)), (102, (224, 0, 1703, 1704, 1705, 1706)), (103, (121, 0, 888, 889, 890, 891)), (106, (225, 0, 1707, 1708, 1709, 1710)), (107, (122, 0, 907, 908, 909, 910)), (110, (228, 0, 1711, 1712, 1713, 1714)), (111, (123, 0, 924, 925, 926, 927)), (114, (230, 0, 1724, 1725, 1726, 1727)), (115, (124, 0, 937, 938, 939, 940)), (118, (231, 0, 1736, 1737, 1738, 1739)), (119, (125, 0, 941, 942, 943, 944)), (122, (236, 0, 1740, 1741, 1742, 1743)), (123, (126, 0, 964, 965, 966, 967)), (126, (237, 0, 1760, 1761, 1762, 1763)), (127, (127, 0, 972, 973, 974, 975)), (130, (240, 0, 1764, 1765, 1766, 1767)), (131, (128, 0, 997, 998, 999, 1000)), (134, (241, 0, 1777, 1778, 1779, 1780)), (135, (129, 0, 1001, 1002, 1003, 1004)), (138, (242, 0, 1781, 1782, 1783, 1784)), (139, (130, 0, 1005, 1006, 1007, 1008)), (142, (244, 0, 1785, 1786, 1787, 1788)), (143, (131, 0, 1033, 1034, 1035, 1036)), (146, (246, 0, 1794, 1795, 1796, 1797)), (147, (272, 7, 1301, 1302, 0, 1303)), (150, (247, 0, 1803, 1804, 1805, 1806)), (151, (133, 0, 1045, 1046, 1047, 1048)), (154, (248, 0, 1808, 1809, 1810, 1811)), (155, (134, 0, 1054, 1055, 1056, 1057)), (158, (253, 0, 1812, 1813, 1814, 1815)), (159, (135, 0, 1095, 1096, 1097, 1098)), (162, (254, 0, 1832, 1833, 1834, 1835)), (163, (136, 0, 1109, 1110, 1111, 1112)), (167, (255, 0, 1836, 1837, 1838, 1839)), (168, (137, 0, 1140, 1141, 1142, 1143)), (171, (256, 0, 1840, 1841, 1842, 1843)), (172, (138, 0, 1144, 1145, 1146, 1147)), (175, (257, 0, 1844, 1845, 1846, 1847)), (176, (139, 0, 1160, 1161, 1162, 1163)), (179, (258, 0, 1848, 1849, 1850, 1851)), (180, (140, 0, 1184, 1185, 1186, 1187)), (183, (259, 0, 1852, 1853, 1854, 1855)), (184, (141, 0, 1193, 1194, 1195, 1196)), (187, (260, 0, 1856, 1857, 1858, 1859)), (188, (273, 7, 1317, 1318, 0, 1319)), (190, (261, 0, 1860, 1861, 1862, 1863)), (191, (143, 0, 1201, 1202, 1203, 1204)), (195, (262, 0, 1864, 1865, 1866, 1867)), (196, (144, 0, 1210, 1211, 1212, 1213)), (199, (264, 0, 1868, 1869, 1870, 1871)), (200, (145, 0, 1217, 1218, 1219, 1220)), (203, (265, 0, 1876, 1877, 1878, 1879))]
def q_ct14 : List (Nat × (Nat × Nat × Nat × Nat × Nat × Nat)) := []
def q_ct15 : List (Nat × (Nat × Nat × Nat × Nat × Nat × Nat)) := []
def q_ct16 : List (Nat × (Nat × Nat × Nat × Nat × Nat × Nat)) := []
def q_ct : List (List (Nat × (Nat × Nat × Nat × Nat × Nat × Nat))) := [q_ct0, q_ct1, q_ct2, q_ct3, q_ct4, q_ct5, q_ct6, q_ct7, q_ct8, q_ct9, q_ct10, q_ct11, q_ct12, q_ct13, q_ct14, q_ct15, q_ct16]
def q_clt0 : List (Nat × (Nat × Nat × Nat × Nat)) := []
def q_clt1 : List (Nat × (Nat × Nat × Nat × Nat)) := []
def q_clt2 : List (Nat × (Nat × Nat × Nat × Nat)) := []
def q_clt3 : List (Nat × (Nat × Nat × Nat × Nat)) := [(9, (4, 131, 132, 97)), (18, (1, 176, 177, 98)), (25, (7, 211, 272, 101)), (31, (6, 213, 214, 99)), (38, (9, 250, 251, 100))]
def q_clt4 : List (Nat × (Nat × Nat × Nat × Nat)) := []
def q_clt5 : List (Nat × (Nat × Nat × Nat × Nat)) := []
def q_clt6 : List (Nat × (Nat × Nat × Nat × Nat)) := []
def q_clt7 : List (Nat × (Nat × Nat × Nat × Nat)) := []
def q_clt8 : List (Nat × (Nat × Nat × Nat × Nat)) := []
def q_clt9 : List (Nat × (Nat × Nat × Nat × Nat)) := []
def q_clt10 : List (Nat × (Nat × Nat × Nat × Nat)) := []
def q_clt11 : List (Nat × (Nat × Nat × Nat × Nat)) := [(9, (3, 125, 126, 96)), (23, (8, 320, 322, 102)), (30, (5, 366, 367, 103)), (37, (0, 421, 422, 104)), (46, (7, 491, 272, 101)), (53, (10, 493, 494, 105)), (60, (2, 513, 514, 106))]
def q_clt12 : List (Nat × (Nat × Nat × Nat × Nat)) := []
def q_clt13 : List (Nat × (Nat × Nat × Nat × Nat)) := [(8, (11, 117, 118, 95)), (25, (12, 1342, 1343, 107))]
def q_clt14 : List (Nat × (Nat × Nat × Nat × Nat)) := []
def q_clt15 : List (Nat × (Nat × Nat × Nat × Nat)) := []
def q_clt16 : List (Nat × (Nat × Nat × Nat × Nat)) := []
def q_clt : List (List (Nat × (Nat × Nat × Nat × Nat))) := [q_clt0, q_clt1, q_clt2, q_clt3, q_clt4, q_clt5, q_clt6, q_clt7, q_clt8, q_clt9, q_clt10, q_clt11, q_clt12, q_clt13, q_clt14, q_clt15, q_clt16]
def q_cat0 : List (Nat × (Nat × Nat)) := []
def q_cat1 : List (Nat × (Nat × Nat)) := []
def q_cat2 : List (Nat × (Nat × Nat)) := []
def q_cat3 : List (Nat × (Nat × Nat)) := [(25, (7, 211))]
def q_cat4 : List (Nat × (Nat × Nat)) := []
def q_cat5 : List (Nat × (Nat × Nat)) := []
def q_cat6 : List (Nat × (Nat × Nat)) := []
def q_cat7 : List (Nat × (Nat × Nat)) := []
def q_cat8 : List (Nat × (Nat × Nat)) := []
def q_cat9 : List (Nat × (Nat × Nat)) := []
def q_cat10 : List (Nat × (Nat × Nat)) := []
def q_cat11 : List (Nat × (Nat × Nat)) := [(23, (8, 320))]
def q_cat12 : List (Nat × (Nat × Nat)) := []
def q_cat13 : List (Nat × (Nat × Nat)) := []
def q_cat14 : List (Nat × (Nat × Nat)) := []
def q_cat15 : List (Nat × (Nat × Nat)) := []
def q_cat16 : List (Nat × (Nat × Nat)) := []
def q_cat : List (List (Nat × (Nat × Nat))) := [q_cat0, q_cat1, q_cat2, q_cat3, q_cat4, q_cat5, q_cat6, q_cat7, q_cat8, q_cat9, q_cat10, q_cat11, q_cat12, q_cat13, q_cat14, q_cat15, q_cat16]
def q_kt0 : List (Nat × (Nat × Bool × Int)) := []
def q_kt1 : List (Nat × (Nat × Bool × Int)) := []
def q_kt2 : List (Nat × (Nat × Bool × Int)) := []
def q_kt3 : List (Nat × (Nat × Bool × Int)) := []
def q_kt4 : List (Nat × (Nat × Bool × Int)) := []
def q_kt5 : List (Nat × (Nat × Bool × Int)) := []
def q_kt6 : List (Nat × (Nat × Bool × Int)) := [(81, (923, true, 100)), (83, (922, true, 2))]
def q_kt7 : List (Nat × (Nat × Bool × Int)) := []
def q_kt8 : List (Nat × (Nat × Bool × Int)) := [(41, (906, false, -2147483648))]
def q_kt9 : List (Nat × (Nat × Bool × Int)) := []
def q_kt10 : List (Nat × (Nat × Bool × Int)) := []
def q_kt11 : List (Nat × (Nat × Bool × Int)) := [(436, (949, false, 209999))]
def q_kt12 : List (Nat × (Nat × Bool × Int)) := [(87, (1480, true, 7)), (123, (1500, true, 48)), (125, (1501, true, 57)), (178, (1553, true, 4)), (202, (1594, true, 3)), (204, (1595, true, 100)), (206, (1596, true, 40)), (208, (1597, true, 50)), (232, (1606, true, 999)), (237, (1639, true, -50)), (242, (1648, true, 2)), (247, (1665, true, 99)), (249, (1670, true, 500)), (267, (1683, true, 200)), (272, (1695, true, 9)), (274, (1696, true, 19)), (276, (1697, true, 11)), (278, (1698, true, 30)), (283, (1723, false, -2147483648)), (318, (1772, true, 8)), (326, (1789, true, -1)), (331, (1798, true, 15)), (336, (1807, true, 6))]
def q_kt13 : List (Nat × (Nat × Bool × Int)) := []
def q_kt14 : List (Nat × (Nat × Bool × Int)) := [(265, (1314, false, 1431655765)), (266, (1315, false, 858993459)), (267, (1316, false, 252645135))]
def q_kt15 : List (Nat × (Nat × Bool × Int)) := []
def q_kt16 : List (Nat × (Nat × Bool × Int)) := []
def q_kt : List (List (Nat × (Nat × Bool × Int))) := [q_kt0, q_kt1, q_kt2, q_kt3, q_kt4, q_kt5, q_kt6, q_kt7, q_kt8, q_kt9, q_kt10, q_kt11, q_kt12, q_kt13, q_kt14, q_kt15, q_kt16]
def q_N : List (String × Nat × MethodName × String) := [("SunHouse", 29, ⟨"SunHouse$Shelf", "<init>", "()V"⟩, "SunHouse"),
  ("SunHouse", 32, ⟨"SunHouse$Reader", "<init>", "()V"⟩, "SunHouse"),
  ("SunHouse", 48, ⟨"SunHouse$Seeker", "<init>", "()V"⟩, "SunHouse"),
  ("SunHouse", 55, ⟨"SunHouse$Washing", "<init>", "()V"⟩, "SunHouse"),
  ("SunHouse", 62, ⟨"SunHouse$Diagnosis", "<init>", "()V"⟩, "SunHouse"),
  ("SunHouse$Bench", 86, ⟨"SunHouse", "at", "([II)I"⟩, "SunHouse"),
  ("SunHouse$Bench", 120, ⟨"SunHouse", "lay", "([III)V"⟩, "SunHouse"),
  ("SunHouse$Cells", 30, ⟨"SunHouse", "copyOver", "([I[I)V"⟩, "SunHouse"),
  ("SunHouse$Cells", 34, ⟨"SunHouse", "lay", "([III)V"⟩, "SunHouse"),
  ("SunHouse$Cells", 38, ⟨"SunHouse", "at", "([II)I"⟩, "SunHouse"),
  ("SunHouse$Diagnosis", 65, ⟨"SunHouse", "at", "([II)I"⟩, "SunHouse"),
  ("SunHouse$Diagnosis", 72, ⟨"SunHouse", "lay", "([III)V"⟩, "SunHouse"),
  ("SunHouse$House", 11, ⟨"SunHouse$Parts", "<init>", "()V"⟩, "SunHouse"),
  ("SunHouse$House", 20, ⟨"SunHouse$Cells", "<init>", "()V"⟩, "SunHouse"),
  ("SunHouse$House", 33, ⟨"SunHouse$Roof", "<init>", "()V"⟩, "SunHouse"),
  ("SunHouse$House", 40, ⟨"SunHouse$Store", "<init>", "()V"⟩, "SunHouse"),
  ("SunHouse$House", 45, ⟨"SunHouse$Seeker", "<init>", "()V"⟩, "SunHouse"),
  ("SunHouse$Parts", 37, ⟨"SunHouse", "copyOver", "([I[I)V"⟩, "SunHouse"),
  ("SunHouse$Parts", 41, ⟨"SunHouse", "lay", "([III)V"⟩, "SunHouse"),
  ("SunHouse$Parts", 45, ⟨"SunHouse", "at", "([II)I"⟩, "SunHouse"),
  ("SunHouse$Reader", 83, ⟨"SunHouse", "at", "([II)I"⟩, "SunHouse"),
  ("SunHouse$Reader", 106, ⟨"SunHouse", "lay", "([III)V"⟩, "SunHouse"),
  ("SunHouse$Roof", 37, ⟨"SunHouse", "copyOver", "([I[I)V"⟩, "SunHouse"),
  ("SunHouse$Roof", 41, ⟨"SunHouse", "at", "([II)I"⟩, "SunHouse"),
  ("SunHouse$Roof", 61, ⟨"SunHouse", "lay", "([III)V"⟩, "SunHouse"),
  ("SunHouse$Shelf", 48, ⟨"SunHouse", "at", "([II)I"⟩, "SunHouse"),
  ("SunHouse$Store", 25, ⟨"SunHouse", "copyOver", "([I[I)V"⟩, "SunHouse"),
  ("SunHouse$Store", 35, ⟨"SunHouse", "at", "([II)I"⟩, "SunHouse"),
  ("SunHouse$Store", 53, ⟨"SunHouse", "lay", "([III)V"⟩, "SunHouse"),
  ("SunHouse$Washing", 30, ⟨"SunHouse", "lay", "([III)V"⟩, "SunHouse"),
  ("SunHouse$Washing", 47, ⟨"SunHouse", "at", "([II)I"⟩, "SunHouse")]
def q_ipl : List Nat := [104, 98, 106, 96, 97, 103, 99, 101, 102, 100, 105, 95, 107, 94, 115, 113, 108]
def q_ff (mid idx : Nat) : Option (Nat × Nat × Nat × Bool × Bool) := q_find (q_ft.getD (q_oc mid) []) idx
def q_f (mid idx : Nat) : Option (Nat × Nat) := match q_ff mid idx with
  | some v => some (v.1, v.2.1)
  | none => none
def q_pf (mid idx : Nat) : Bool := match q_ff mid idx with
  | some v => !v.2.2.2.1 || (q_ini mid && v.2.2.2.2)
  | none => false
def q_mm (mid idx : Nat) : Option (Nat × Nat × Nat × Nat × Nat × Nat) := q_find (q_ct.getD (q_oc mid) []) idx
def q_m (mid idx : Nat) : Option (Nat × Nat) := match q_mm mid idx with
  | some v => some (v.1, v.2.1)
  | none => none
def q_c (mid idx : Nat) : Option Nat := match q_find (q_clt.getD (q_oc mid) []) idx with
  | some v => some v.1
  | none => none
def q_ca (mid idx : Nat) : Option Nat := match q_find (q_cat.getD (q_oc mid) []) idx with
  | some v => some v.1
  | none => none
def q_k (mid idx : Nat) : Option MV := match q_find (q_kt.getD (q_oc mid) []) idx with
  | some v => some (bif v.2.1 then .inr (.inl (Int64.ofInt v.2.2)) else .inl (Int32.ofInt v.2.2))
  | none => none
def q_stt : List (Nat × Nat × Nat) := [(11, 131, 1), (6, 55, 3), (6, 58, 4), (11, 322, 2)]
def q_s3 : List (Nat × Nat × Nat) → Nat → Nat → Option Nat
  | [], _, _ => none
  | (a, b, k) :: t, c, i => if a = c ∧ b = i then some k else q_s3 t c i
/-- the static tables: 1 .. 4 -/
def q_s (mid idx : Nat) : Option Nat := q_s3 q_stt (q_oc mid) idx
theorem q_s3_mem {c i k : Nat} : ∀ {L : List (Nat × Nat × Nat)}, q_s3 L c i = some k → (c, i, k) ∈ L
  | [], h => by simp [q_s3] at h
  | (a, b, j) :: t, h => by
    unfold q_s3 at h
    split at h
    · rename_i hc
      cases h
      rw [hc.1, hc.2]
      exact List.mem_cons_self
    · exact List.mem_cons_of_mem _ (q_s3_mem h)
theorem q_s_lt {mid idx k : Nat} (h : q_s mid idx = some k) : k < 8 := by
  have h2 : ∀ q ∈ q_stt, q.2.2 < 8 := by decide +kernel
  exact h2 _ (q_s3_mem h)
def q_ra (ci : Nat) : Bool := Nat.beq ci 7 || Nat.beq ci 8
def q_tht : List (Nat × Nat × String) := [(109, 19, "java/lang/IllegalArgumentException"), (132, 17, "java/lang/IllegalArgumentException"), (142, 10, "java/lang/IllegalArgumentException"), (142, 40, "java/lang/IllegalStateException")]
def q_th3 : List (Nat × Nat × String) → Nat → Nat → Option String
  | [], _, _ => none
  | (a, b, E) :: t, mid, pc => bif Nat.beq a mid && Nat.beq b pc then some E else q_th3 t mid pc
def q_th (mid pc : Nat) : Option String := q_th3 q_tht mid pc
def q_htt : List (Nat × Nat × String × Nat × Nat) := [(271, 5, "java/lang/IllegalArgumentException", 14, 4), (272, 7, "java/lang/IllegalArgumentException", 16, 5), (273, 5, "java/lang/IllegalArgumentException", 14, 4), (273, 5, "java/lang/IllegalStateException", 18, 4)]
def q_h5 : List (Nat × Nat × String × Nat × Nat) → Nat → Nat → String → Option (Nat × Nat)
  | [], _, _, _ => none
  | (a, b, E, x) :: t, mid, pc, E' => if a = mid ∧ b = pc ∧ E = E' then some x else q_h5 t mid pc E'
def q_h (mid pc : Nat) (E : String) : Option (Nat × Nat) := q_h5 q_htt mid pc E
def q_hht : List (Nat × List (Nat × Nat × Nat × Nat)) := [(271, [(0, 9, 12, 13)]), (272, [(0, 11, 14, 13)]), (273, [(0, 9, 12, 13), (0, 9, 16, 22)])]
def q_hh (mid : Nat) : List (Nat × Nat × Nat × Nat) := (q_find q_hht mid).getD []
