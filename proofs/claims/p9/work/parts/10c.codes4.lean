def q_code255 : List (List (Option Instr)) := [[some (.iconst 0), some (.istore_n 1), some (.iload_n 1), some (.sipush 1330), none, none, some (.if_icmp .ge 21), none, none, some (.aload_n 0), some (.getfield 13), none, none, some (.iload_n 1), some (.aload_n 0), some (.getfield 9)],
  [none, none, some (.iload_n 1), some (.iaload), some (.iastore), some (.iinc 1 1), none, none, some (.goto (-22)), none, none, some (.aload_n 0), some (.iconst 1), some (.putfield 350), none, none],
  [some (.aload_n 0), some (.getfield 9), none, none, some (.sipush 1198), none, none, some (.iaload), some (.ireturn)]]
theorem q_code255_ok : q_dec prog_14_method_90_code q_code255 := q_chk_ok (by decide +kernel)
def q_code256 : List (List (Option Instr)) := [[some (.aload_n 0), some (.getfield 350), none, none, some (.ifCond .ne 6), none, none, some (.bipush (-3)), none, some (.ireturn), some (.iconst 0), some (.istore_n 1), some (.iload_n 1), some (.sipush 1330), none, none],
  [some (.if_icmp .ge 21), none, none, some (.aload_n 0), some (.getfield 9), none, none, some (.iload_n 1), some (.aload_n 0), some (.getfield 13), none, none, some (.iload_n 1), some (.iaload), some (.iastore), some (.iinc 1 1)],
  [none, none, some (.goto (-22)), none, none, some (.aload_n 0), some (.getfield 9), none, none, some (.sipush 1198), none, none, some (.iaload), some (.ireturn)]]
theorem q_code256_ok : q_dec prog_14_method_91_code q_code256 := q_chk_ok (by decide +kernel)
def q_code257 : List (List (Option Instr)) := [[some (.iconst 0), some (.istore_n 2), some (.iload_n 1), some (.tableswitch 212 0 8 #[49, 58, 58, 58, 58, 99, 153, 194, 203]), none, none, none, none, none, none, none, none, none, none, none, none],
  [none, none, none, none, none, none, none, none, none, none, none, none, none, none, none, none],
  [none, none, none, none, none, none, none, none, none, none, none, none, none, none, none, none],
  [none, none, none, none, some (.aload_n 0), some (.getfield 9), none, none, some (.sipush 1198), none, none, some (.iaload), some (.ireturn), some (.iconst 0), some (.istore_n 3), some (.iload_n 3)],
  [some (.aload_n 0), some (.getfield 9), none, none, some (.sipush 1198), none, none, some (.iaload), some (.if_icmp .ge 28), none, none, some (.iload_n 2), some (.aload_n 0), some (.iload_n 3), some (.invokevirtual 99), none],
  [none, some (.iload_n 1), some (.iconst 1), some (.isub), some (.if_icmp .ne 7), none, none, some (.iconst 1), some (.goto 4), none, none, some (.iconst 0), some (.iadd), some (.istore_n 2), some (.iinc 3 1), none],
  [none, some (.goto (-34)), none, none, some (.iload_n 2), some (.ireturn), some (.iconst 0), some (.istore_n 3), some (.iload_n 3), some (.aload_n 0), some (.getfield 9), none, none, some (.sipush 1198), none, none],
  [some (.iaload), some (.if_icmp .ge 41), none, none, some (.iload_n 2), some (.aload_n 0), some (.iload_n 3), some (.invokevirtual 99), none, none, some (.ifCond .ne 23), none, none, some (.aload_n 0), some (.getfield 9), none],
  [none, some (.bipush 28), none, some (.iload_n 3), some (.imul), some (.bipush 19), none, some (.iadd), some (.iaload), some (.iconst 1), some (.if_icmp .ne 7), none, none, some (.iconst 1), some (.goto 4), none],
  [none, some (.iconst 0), some (.iadd), some (.istore_n 2), some (.iinc 3 1), none, none, some (.goto (-47)), none, none, some (.iload_n 2), some (.ireturn), some (.iconst 0), some (.istore_n 3), some (.iload_n 3), some (.bipush 10)],
  [none, some (.if_icmp .ge 34), none, none, some (.iload_n 2), some (.aload_n 0), some (.getfield 9), none, none, some (.sipush 1120), none, none, some (.iconst 3), some (.iload_n 3), some (.imul), some (.iadd)],
  [some (.iconst 2), some (.iadd), some (.iaload), some (.ifCond .le 7), none, none, some (.iconst 1), some (.goto 4), none, none, some (.iconst 0), some (.iadd), some (.istore_n 2), some (.iinc 3 1), none, none],
  [some (.goto (-34)), none, none, some (.iload_n 2), some (.ireturn), some (.aload_n 0), some (.getfield 9), none, none, some (.sipush 1200), none, none, some (.iaload), some (.ireturn), some (.aload_n 0), some (.getfield 9)],
  [none, none, some (.sipush 1199), none, none, some (.iaload), some (.ireturn), some (.iconst (-1)), some (.ireturn)]]
theorem q_code257_ok : q_dec prog_14_method_92_code q_code257 := q_chk_ok (by decide +kernel)
def q_code258 : List (List (Option Instr)) := [[some (.iload_n 1), some (.invokestatic 163), none, none, some (.ifCond .eq 26), none, none, some (.iload_n 2), some (.i2l), some (.lconst 0), some (.lconst 1), some (.invokestatic 83), none, none, some (.ifCond .eq 16), none],
  [none, some (.iload_n 2), some (.iconst 1), some (.if_icmp .ne 13), none, none, some (.aload_n 0), some (.iload_n 3), some (.invokevirtual 175), none, none, some (.ifCond .ne 5), none, none, some (.iconst (-1)), some (.ireturn)],
  [some (.aload_n 0), some (.getfield 16), none, none, some (.iload_n 1), some (.iload_n 2), some (.iastore), some (.iload_n 2), some (.ifCond .ne 5), none, none, some (.iconst 0), some (.ireturn), some (.aload_n 0), some (.iload_n 3), some (.invokevirtual 180)],
  [none, none, some (.aload_n 0), some (.getfield 28), none, none, some (.iload_n 1), some (.aload_n 0), some (.iload_n 3), some (.invokevirtual 99), none, none, some (.iastore), some (.aload_n 0), some (.getfield 34), none],
  [none, some (.iload_n 1), some (.aload_n 0), some (.iload_n 3), some (.iconst 0), some (.invokevirtual 220), none, none, some (.iastore), some (.aload_n 0), some (.iload_n 3), some (.invokevirtual 99), none, none, some (.tableswitch 96 0 2 #[26, 52, 73]), none],
  [none, none, none, none, none, none, none, none, none, none, none, none, none, none, none, none],
  [none, none, none, none, none, none, none, none, some (.aload_n 0), some (.getfield 31), none, none, some (.iload_n 1), some (.bipush 10), none, some (.iload_n 3)],
  [some (.iadd), some (.aload_n 0), some (.iload_n 3), some (.aload_n 0), some (.iload_n 3), some (.invokevirtual 103), none, none, some (.iconst 1), some (.isub), some (.invokevirtual 106), none, none, some (.iadd), some (.iastore), some (.goto 69)],
  [none, none, some (.aload_n 0), some (.getfield 31), none, none, some (.iload_n 1), some (.bipush 10), none, some (.iload_n 3), some (.iadd), some (.bipush 10), none, some (.aload_n 0), some (.getfield 89), none],
  [none, some (.imul), some (.iadd), some (.iastore), some (.goto 48), none, none, some (.aload_n 0), some (.getfield 31), none, none, some (.iload_n 1), some (.iconst 2), some (.bipush 10), none, some (.iload_n 3)],
  [some (.iadd), some (.bipush 10), none, some (.aload_n 0), some (.getfield 89), none, none, some (.imul), some (.iadd), some (.imul), some (.iastore), some (.goto 25), none, none, some (.aload_n 0), some (.getfield 31)],
  [none, none, some (.iload_n 1), some (.bipush 10), none, some (.iload_n 3), some (.iadd), some (.aload_n 0), some (.getfield 9), none, none, some (.bipush 28), none, some (.iload_n 3), some (.imul), some (.iconst 5)],
  [some (.iadd), some (.iaload), some (.iadd), some (.iastore), some (.iconst 0), some (.ireturn)]]
theorem q_code258_ok : q_dec prog_14_method_93_code q_code258 := q_chk_ok (by decide +kernel)
def q_code259 : List (List (Option Instr)) := [[some (.iload_n 1), some (.invokestatic 163), none, none, some (.ifCond .eq 21), none, none, some (.iload_n 2), some (.i2l), some (.lconst 0), some (.ldc2_w 242), none, none, some (.invokestatic 83), none, none],
  [some (.ifCond .eq 9), none, none, some (.iload_n 3), some (.bipush 120), none, some (.if_icmp .le 5), none, none, some (.iconst (-1)), some (.ireturn), some (.iload_n 3), some (.ifCond .ge 6), none, none, some (.bipush (-14))],
  [none, some (.ireturn), some (.aload_n 0), some (.getfield 16), none, none, some (.iload_n 1), some (.iconst 2), some (.iastore), some (.aload_n 0), some (.getfield 19), none, none, some (.iload_n 1), some (.iload_n 2), some (.iastore)],
  [some (.aload_n 0), some (.getfield 22), none, none, some (.iload_n 1), some (.iload_n 3), some (.iastore), some (.iconst 0), some (.istore 4), none, some (.iload 4), none, some (.bipush 120), none, some (.if_icmp .ge 22), none],
  [none, some (.aload_n 0), some (.getfield 25), none, none, some (.bipush 120), none, some (.iload_n 1), some (.imul), some (.iload 4), none, some (.iadd), some (.iconst 0), some (.iastore), some (.iinc 4 1), none],
  [none, some (.goto (-23)), none, none, some (.iconst 0), some (.ireturn)]]
theorem q_code259_ok : q_dec prog_14_method_94_code q_code259 := q_chk_ok (by decide +kernel)
def q_code260 : List (List (Option Instr)) := [[some (.aload_n 0), some (.iload_n 1), some (.iconst (-1)), some (.invokevirtual 166), none, none, some (.istore 4), none, some (.iload 4), none, some (.ifCond .eq 6), none, none, some (.iload 4), none, some (.ireturn)],
  [some (.iload_n 2), some (.i2l), some (.lconst 0), some (.aload_n 0), some (.getfield 22), none, none, some (.iload_n 1), some (.iaload), some (.iconst 1), some (.isub), some (.i2l), some (.invokestatic 83), none, none, some (.ifCond .ne 6)],
  [none, none, some (.bipush (-13)), none, some (.ireturn), some (.aload_n 0), some (.getfield 25), none, none, some (.bipush 120), none, some (.iload_n 1), some (.imul), some (.iload_n 2), some (.iadd), some (.aload_n 0)],
  [some (.getfield 19), none, none, some (.iload_n 1), some (.iaload), some (.ifCond .ne 8), none, none, some (.iload_n 3), some (.i2b), some (.goto 19), none, none, some (.aload_n 0), some (.getfield 19), none],
  [none, some (.iload_n 1), some (.iaload), some (.iconst 1), some (.if_icmp .ne 8), none, none, some (.iload_n 3), some (.i2s), some (.goto 4), none, none, some (.iload_n 3), some (.iastore), some (.iconst 0), some (.ireturn)]]
theorem q_code260_ok : q_dec prog_14_method_95_code q_code260 := q_chk_ok (by decide +kernel)
def q_code261 : List (List (Option Instr)) := [[some (.aload_n 0), some (.iload_n 1), some (.invokestatic 163), none, none, some (.ifCond .ne 7), none, none, some (.iconst 1), some (.goto 36), none, none, some (.aload_n 0), some (.getfield 16), none, none],
  [some (.iload_n 1), some (.iaload), some (.iconst 2), some (.if_icmp .ne 21), none, none, some (.iload_n 2), some (.i2l), some (.lconst 0), some (.aload_n 0), some (.getfield 22), none, none, some (.iload_n 1), some (.iaload), some (.iconst 1)],
  [some (.isub), some (.i2l), some (.invokestatic 83), none, none, some (.ifCond .ne 7), none, none, some (.iconst 2), some (.goto 4), none, none, some (.iconst 0), some (.putfield 80), none, none],
  [some (.aload_n 0), some (.getfield 80), none, none, some (.ifCond .ne 18), none, none, some (.aload_n 0), some (.getfield 25), none, none, some (.bipush 120), none, some (.iload_n 1), some (.imul), some (.iload_n 2)],
  [some (.iadd), some (.iaload), some (.i2l), some (.goto 4), none, none, some (.lconst 0), some (.lreturn)]]
theorem q_code261_ok : q_dec prog_14_method_96_code q_code261 := q_chk_ok (by decide +kernel)
def q_code262 : List (List (Option Instr)) := [[some (.iload_n 1), some (.invokestatic 163), none, none, some (.ifCond .eq 10), none, none, some (.iload_n 3), some (.invokestatic 163), none, none, some (.ifCond .ne 5), none, none, some (.iconst (-1)), some (.ireturn)],
  [some (.aload_n 0), some (.getfield 16), none, none, some (.iload_n 1), some (.iaload), some (.ifCond .eq 12), none, none, some (.aload_n 0), some (.getfield 16), none, none, some (.iload_n 3), some (.iaload), some (.ifCond .ne 6)],
  [none, none, some (.bipush (-11)), none, some (.ireturn), some (.aload_n 0), some (.getfield 16), none, none, some (.iload_n 1), some (.iaload), some (.iconst 2), some (.if_icmp .ne 28), none, none, some (.aload_n 0)],
  [some (.getfield 16), none, none, some (.iload_n 3), some (.iaload), some (.iconst 2), some (.if_icmp .ne 18), none, none, some (.aload_n 0), some (.getfield 19), none, none, some (.iload_n 1), some (.iaload), some (.aload_n 0)],
  [some (.getfield 19), none, none, some (.iload_n 3), some (.iaload), some (.if_icmp .eq 6), none, none, some (.bipush (-12)), none, some (.ireturn), some (.iload 5), none, some (.ifCond .lt 39), none, none],
  [some (.iload_n 2), some (.ifCond .lt 35), none, none, some (.iload 4), none, some (.ifCond .lt 30), none, none, some (.iload 5), none, some (.aload_n 0), some (.getfield 22), none, none, some (.iload_n 1)],
  [some (.iaload), some (.iload_n 2), some (.isub), some (.if_icmp .gt 17), none, none, some (.iload 5), none, some (.aload_n 0), some (.getfield 22), none, none, some (.iload_n 3), some (.iaload), some (.iload 4), none],
  [some (.isub), some (.if_icmp .le 6), none, none, some (.bipush (-13)), none, some (.ireturn), some (.iconst 0), some (.istore 6), none, some (.iload 6), none, some (.iload 5), none, some (.if_icmp .ge 58), none],
  [none, some (.iload_n 2), some (.iload 4), none, some (.if_icmp .le 8), none, none, some (.iload 6), none, some (.goto 10), none, none, some (.iload 5), none, some (.iconst 1), some (.isub)],
  [some (.iload 6), none, some (.isub), some (.istore 7), none, some (.aload_n 0), some (.getfield 25), none, none, some (.bipush 120), none, some (.iload_n 3), some (.imul), some (.iload 4), none, some (.iadd)],
  [some (.iload 7), none, some (.iadd), some (.aload_n 0), some (.getfield 25), none, none, some (.bipush 120), none, some (.iload_n 1), some (.imul), some (.iload_n 2), some (.iadd), some (.iload 7), none, some (.iadd)],
  [some (.iaload), some (.iastore), some (.iinc 6 1), none, none, some (.goto (-59)), none, none, some (.iload 5), none, some (.ireturn)]]
theorem q_code262_ok : q_dec prog_14_method_97_code q_code262 := q_chk_ok (by decide +kernel)
def q_code263 : List (List (Option Instr)) := [[some (.iload_n 1), some (.invokestatic 163), none, none, some (.ifCond .ne 7), none, none, some (.iconst (-1)), some (.goto 33), none, none, some (.aload_n 0), some (.getfield 16), none, none, some (.iload_n 1)],
  [some (.iaload), some (.ifCond .ne 8), none, none, some (.bipush (-11)), none, some (.goto 19), none, none, some (.aload_n 0), some (.getfield 16), none, none, some (.iload_n 1), some (.iaload), some (.iconst 1)],
  [some (.if_icmp .ne 7), none, none, some (.iconst 0), some (.goto 5), none, none, some (.bipush (-12)), none, some (.ireturn)]]
theorem q_code263_ok : q_dec prog_14_method_98_code q_code263 := q_chk_ok (by decide +kernel)
def q_code264 : List (List (Option Instr)) := [[some (.aload_n 0), some (.iload_n 1), some (.invokevirtual 353), none, none, some (.istore_n 2), some (.iload_n 2), some (.ifCond .eq 7), none, none, some (.iload_n 2), some (.goto 9), none, none, some (.aload_n 0), some (.getfield 31)],
  [none, none, some (.iload_n 1), some (.iaload), some (.ireturn)]]
theorem q_code264_ok : q_dec prog_14_method_99_code q_code264 := q_chk_ok (by decide +kernel)
def q_code265 : List (List (Option Instr)) := [[some (.aload_n 0), some (.iload_n 1), some (.invokevirtual 353), none, none, some (.istore_n 2), some (.iload_n 2), some (.ifCond .eq 5), none, none, some (.iload_n 2), some (.ireturn), some (.aload_n 0), some (.getfield 28), none, none],
  [some (.iload_n 1), some (.iaload), some (.iconst 3), some (.if_icmp .eq 12), none, none, some (.aload_n 0), some (.getfield 34), none, none, some (.iload_n 1), some (.iaload), some (.ifCond .ne 8), none, none, some (.bipush (-15))],
  [none, some (.goto 27), none, none, some (.aload_n 0), some (.getfield 34), none, none, some (.iload_n 1), some (.iaload), some (.aload_n 0), some (.getfield 28), none, none, some (.iload_n 1), some (.iaload)],
  [some (.iconst 2), some (.if_icmp .ne 9), none, none, some (.sipush 1000), none, none, some (.goto 4), none, none, some (.iconst 0), some (.iadd), some (.ireturn)]]
theorem q_code265_ok : q_dec prog_14_method_100_code q_code265 := q_chk_ok (by decide +kernel)
def q_code266 : List (List (Option Instr)) := [[some (.iload_n 0), some (.iload_n 0), some (.iconst 1), some (.iushr), some (.ldc_w 265), none, none, some (.iand), some (.isub), some (.istore_n 0), some (.iload_n 0), some (.ldc_w 266), none, none, some (.iand), some (.iload_n 0)],
  [some (.iconst 2), some (.iushr), some (.ldc_w 266), none, none, some (.iand), some (.iadd), some (.istore_n 0), some (.iload_n 0), some (.iload_n 0), some (.iconst 4), some (.iushr), some (.iadd), some (.ldc_w 267), none, none],
  [some (.iand), some (.istore_n 0), some (.iload_n 0), some (.iload_n 0), some (.bipush 8), none, some (.iushr), some (.iadd), some (.istore_n 0), some (.iload_n 0), some (.iload_n 0), some (.bipush 16), none, some (.iushr), some (.iadd), some (.istore_n 0)],
  [some (.iload_n 0), some (.bipush 63), none, some (.iand), some (.ireturn)]]
theorem q_code266_ok : q_dec prog_18_method_49_code q_code266 := q_chk_ok (by decide +kernel)
def q_code267 : List (List (Option Instr)) := [[some (.iload_n 0), some (.ifCond .ge 8), none, none, some (.iload_n 0), some (.ineg), some (.goto 4), none, none, some (.iload_n 0), some (.ireturn)]]
theorem q_code267_ok : q_dec prog_19_method_59_code q_code267 := q_chk_ok (by decide +kernel)
def q_code268 : List (List (Option Instr)) := [[some (.iload_n 0), some (.iload_n 1), some (.if_icmp .lt 7), none, none, some (.iload_n 0), some (.goto 4), none, none, some (.iload_n 1), some (.ireturn)]]
theorem q_code268_ok : q_dec prog_19_method_65_code q_code268 := q_chk_ok (by decide +kernel)
def q_code269 : List (List (Option Instr)) := [[some (.iload_n 0), some (.iload_n 1), some (.if_icmp .gt 7), none, none, some (.iload_n 0), some (.goto 4), none, none, some (.iload_n 1), some (.ireturn)]]
theorem q_code269_ok : q_dec prog_19_method_69_code q_code269 := q_chk_ok (by decide +kernel)
def q_code270 : List (List (Option Instr)) := [[some (.iconst 0), some (.istore_n 2), some (.aload_n 0), some (.arraylength), some (.istore_n 3), some (.iload_n 2), some (.iload_n 3), some (.if_icmp .ge 13), none, none, some (.aload_n 0), some (.iload_n 2), some (.iload_n 1), some (.iastore), some (.iinc 2 1), none],
  [none, some (.goto (-12)), none, none, some (.return_)]]
theorem q_code270_ok : q_dec prog_24_method_103_code q_code270 := q_chk_ok (by decide +kernel)
def q_code271 : List (List (Option Instr)) := [[some (.aload_n 3), some (.iconst 0), some (.aload_n 0), some (.iload_n 1), some (.iload_n 2), some (.invokevirtual 7), none, none, some (.lastore), some (.goto 7), none, none, some (.astore 4), none, some (.iconst 1), some (.ireturn)],
  [some (.iconst 0), some (.ireturn)]]
theorem q_code271_ok : q_dec method_3_code q_code271 := q_chk_ok (by decide +kernel)
def q_code272 : List (List (Option Instr)) := [[some (.aload 4), none, some (.iconst 0), some (.aload_n 0), some (.iload_n 1), some (.iload_n 2), some (.iload_n 3), some (.invokevirtual 15), none, none, some (.lastore), some (.goto 7), none, none, some (.astore 5), none],
  [some (.iconst 1), some (.ireturn), some (.iconst 0), some (.ireturn)]]
theorem q_code272_ok : q_dec method_4_code q_code272 := q_chk_ok (by decide +kernel)
def q_code273 : List (List (Option Instr)) := [[some (.aload_n 3), some (.iconst 0), some (.aload_n 0), some (.iload_n 1), some (.iload_n 2), some (.invokevirtual 19), none, none, some (.lastore), some (.goto 11), none, none, some (.astore 4), none, some (.iconst 1), some (.ireturn)],
  [some (.astore 4), none, some (.iconst 2), some (.ireturn), some (.iconst 0), some (.ireturn)]]
theorem q_code273_ok : q_dec method_5_code q_code273 := q_chk_ok (by decide +kernel)
def q_code274 : List (List (Option Instr)) := [[some (.new 8), none, none, some (.dup), some (.invokespecial 24), none, none, some (.astore_n 1), some (.new 25), none, none, some (.dup), some (.invokespecial 27), none, none, some (.astore_n 2)],
  [some (.iconst 1), some (.newarray .long), none, some (.astore_n 3), some (.iconst 0), some (.istore 4), none, some (.iload 4), none, some (.aload_n 0), some (.arraylength), some (.bipush 6), none, some (.isub), some (.if_icmp .gt 1879), none],
  [none, some (.aload_n 0), some (.iload 4), none, some (.iaload), some (.bipush 63), none, some (.iand), some (.tableswitch 1863 0 41 #[184, 209, 246, 295, 344, 397, 437, 474, 511, 548, 597, 646, 683, 732, 781, 842, 891, 928, 953, 990, 1039, 1076, 1113, 1162, 1199, 1236, 1261, 1286, 1323, 1391, 1416, 1465, 1502, 1515, 1528, 1553, 1602, 1651, 1700, 1740, 1813, 1838]), none, none, none, none, none, none, none],
  [none, none, none, none, none, none, none, none, none, none, none, none, none, none, none, none],
  [none, none, none, none, none, none, none, none, none, none, none, none, none, none, none, none],
  [none, none, none, none, none, none, none, none, none, none, none, none, none, none, none, none],
  [none, none, none, none, none, none, none, none, none, none, none, none, none, none, none, none],
  [none, none, none, none, none, none, none, none, none, none, none, none, none, none, none, none],
  [none, none, none, none, none, none, none, none, none, none, none, none, none, none, none, none],
  [none, none, none, none, none, none, none, none, none, none, none, none, none, none, none, none],
  [none, none, none, none, none, none, none, none, none, none, none, none, none, none, none, none],
  [none, none, none, none, none, none, none, none, none, none, none, none, none, none, none, none],
  [none, none, none, none, none, none, none, none, none, none, none, none, none, none, none, none],
  [none, none, none, none, none, none, none, none, none, none, none, none, none, none, none, none],
  [some (.aload_n 1), some (.aload_n 0), some (.iload 4), none, some (.iconst 1), some (.iadd), some (.iaload), some (.invokevirtual 28), none, none, some (.pop), some (.aload_n 2), some (.aload_n 0), some (.iload 4), none, some (.iconst 1)],
  [some (.iadd), some (.iaload), some (.invokevirtual 32), none, none, some (.pop), some (.goto 1657), none, none, some (.aload_n 1), some (.aload_n 0), some (.iload 4), none, some (.iconst 1), some (.iadd), some (.iaload)],
  [some (.aload_n 0), some (.iload 4), none, some (.iconst 2), some (.iadd), some (.iaload), some (.invokevirtual 33), none, none, some (.pop), some (.aload_n 2), some (.aload_n 0), some (.iload 4), none, some (.iconst 1), some (.iadd)],
  [some (.iaload), some (.aload_n 0), some (.iload 4), none, some (.iconst 2), some (.iadd), some (.iaload), some (.invokevirtual 37), none, none, some (.pop), some (.goto 1620), none, none, some (.aload_n 1), some (.aload_n 0)],
  [some (.iload 4), none, some (.iconst 1), some (.iadd), some (.iaload), some (.aload_n 0), some (.iload 4), none, some (.iconst 2), some (.iadd), some (.iaload), some (.aload_n 0), some (.iload 4), none, some (.iconst 3), some (.iadd)],
  [some (.iaload), some (.invokevirtual 38), none, none, some (.pop), some (.aload_n 2), some (.aload_n 0), some (.iload 4), none, some (.iconst 1), some (.iadd), some (.iaload), some (.aload_n 0), some (.iload 4), none, some (.iconst 2)],
  [some (.iadd), some (.iaload), some (.aload_n 0), some (.iload 4), none, some (.iconst 3), some (.iadd), some (.iaload), some (.invokevirtual 42), none, none, some (.pop), some (.goto 1571), none, none, some (.aload_n 1)],
  [some (.aload_n 0), some (.iload 4), none, some (.iconst 1), some (.iadd), some (.iaload), some (.aload_n 0), some (.iload 4), none, some (.iconst 2), some (.iadd), some (.iaload), some (.aload_n 0), some (.iload 4), none, some (.iconst 3)],
  [some (.iadd), some (.iaload), some (.invokevirtual 43), none, none, some (.pop), some (.aload_n 2), some (.aload_n 0), some (.iload 4), none, some (.iconst 1), some (.iadd), some (.iaload), some (.aload_n 0), some (.iload 4), none],
  [some (.iconst 2), some (.iadd), some (.iaload), some (.aload_n 0), some (.iload 4), none, some (.iconst 3), some (.iadd), some (.iaload), some (.invokevirtual 46), none, none, some (.pop), some (.goto 1522), none, none],
  [some (.aload_n 1), some (.aload_n 0), some (.iload 4), none, some (.iconst 1), some (.iadd), some (.iaload), some (.aload_n 0), some (.iload 4), none, some (.iconst 2), some (.iadd), some (.iaload), some (.ifCond .eq 7), none, none],
  [some (.iconst 1), some (.goto 4), none, none, some (.iconst 0), some (.invokevirtual 47), none, none, some (.pop), some (.aload_n 2), some (.aload_n 0), some (.iload 4), none, some (.iconst 1), some (.iadd), some (.iaload)],
  [some (.aload_n 0), some (.iload 4), none, some (.iconst 2), some (.iadd), some (.iaload), some (.ifCond .eq 7), none, none, some (.iconst 1), some (.goto 4), none, none, some (.iconst 0), some (.invokevirtual 51), none],
  [none, some (.pop), some (.goto 1469), none, none, some (.aload_n 1), some (.aload_n 0), some (.iload 4), none, some (.iconst 1), some (.iadd), some (.iaload), some (.aload_n 0), some (.iload 4), none, some (.iconst 2)],
  [some (.iadd), some (.iaload), some (.aload_n 3), some (.invokestatic 52), none, none, some (.istore 5), none, some (.aload_n 2), some (.aload_n 0), some (.iload 4), none, some (.iconst 1), some (.iadd), some (.iaload), some (.aload_n 0)],
  [some (.iload 4), none, some (.iconst 2), some (.iadd), some (.iaload), some (.invokevirtual 57), none, none, some (.lstore 6), none, some (.goto 1429), none, none, some (.aload_n 1), some (.aload_n 0), some (.iload 4)],
  [none, some (.iconst 1), some (.iadd), some (.iaload), some (.aload_n 0), some (.iload 4), none, some (.iconst 2), some (.iadd), some (.iaload), some (.invokevirtual 58), none, none, some (.pop), some (.aload_n 2), some (.aload_n 0)],
  [some (.iload 4), none, some (.iconst 1), some (.iadd), some (.iaload), some (.aload_n 0), some (.iload 4), none, some (.iconst 2), some (.iadd), some (.iaload), some (.invokevirtual 61), none, none, some (.pop), some (.goto 1392)],
  [none, none, some (.aload_n 1), some (.aload_n 0), some (.iload 4), none, some (.iconst 1), some (.iadd), some (.iaload), some (.aload_n 0), some (.iload 4), none, some (.iconst 2), some (.iadd), some (.iaload), some (.invokevirtual 62)],
  [none, none, some (.aload_n 2), some (.aload_n 0), some (.iload 4), none, some (.iconst 1), some (.iadd), some (.iaload), some (.aload_n 0), some (.iload 4), none, some (.iconst 2), some (.iadd), some (.iaload), some (.invokevirtual 65)],
  [none, none, some (.if_icmp .eq 1357), none, none, some (.iconst 0), some (.ireturn), some (.aload_n 1), some (.aload_n 0), some (.iload 4), none, some (.iconst 1), some (.iadd), some (.iaload), some (.aload_n 0), some (.iload 4)],
  [none, some (.iconst 2), some (.iadd), some (.iaload), some (.invokevirtual 66), none, none, some (.pop), some (.aload_n 2), some (.aload_n 0), some (.iload 4), none, some (.iconst 1), some (.iadd), some (.iaload), some (.aload_n 0)],
  [some (.iload 4), none, some (.iconst 2), some (.iadd), some (.iaload), some (.invokevirtual 69), none, none, some (.pop), some (.goto 1318), none, none, some (.aload_n 1), some (.aload_n 0), some (.iload 4), none],
  [some (.iconst 1), some (.iadd), some (.iaload), some (.aload_n 0), some (.iload 4), none, some (.iconst 2), some (.iadd), some (.iaload), some (.aload_n 0), some (.iload 4), none, some (.iconst 3), some (.iadd), some (.iaload), some (.invokevirtual 70)],
  [none, none, some (.pop), some (.aload_n 2), some (.aload_n 0), some (.iload 4), none, some (.iconst 1), some (.iadd), some (.iaload), some (.aload_n 0), some (.iload 4), none, some (.iconst 2), some (.iadd), some (.iaload)],
  [some (.aload_n 0), some (.iload 4), none, some (.iconst 3), some (.iadd), some (.iaload), some (.invokevirtual 73), none, none, some (.pop), some (.goto 1269), none, none, some (.aload_n 1), some (.aload_n 0), some (.iload 4)],
  [none, some (.iconst 1), some (.iadd), some (.iaload), some (.aload_n 0), some (.iload 4), none, some (.iconst 2), some (.iadd), some (.iaload), some (.aload_n 0), some (.iload 4), none, some (.iconst 3), some (.iadd), some (.iaload)],
  [some (.invokevirtual 74), none, none, some (.pop), some (.aload_n 2), some (.aload_n 0), some (.iload 4), none, some (.iconst 1), some (.iadd), some (.iaload), some (.aload_n 0), some (.iload 4), none, some (.iconst 2), some (.iadd)],
  [some (.iaload), some (.aload_n 0), some (.iload 4), none, some (.iconst 3), some (.iadd), some (.iaload), some (.invokevirtual 77), none, none, some (.pop), some (.goto 1220), none, none, some (.aload_n 1), some (.aload_n 0)],
  [some (.iload 4), none, some (.iconst 1), some (.iadd), some (.iaload), some (.aload_n 0), some (.iload 4), none, some (.iconst 2), some (.iadd), some (.iaload), some (.invokevirtual 78), none, none, some (.pop), some (.aload_n 2)],
  [some (.aload_n 0), some (.iload 4), none, some (.iconst 1), some (.iadd), some (.iaload), some (.aload_n 0), some (.iload 4), none, some (.iconst 2), some (.iadd), some (.iaload), some (.invokevirtual 81), none, none, some (.pop)],
  [some (.goto 1183), none, none, some (.aload_n 1), some (.aload_n 0), some (.iload 4), none, some (.iconst 1), some (.iadd), some (.iaload), some (.aload_n 0), some (.iload 4), none, some (.iconst 2), some (.iadd), some (.iaload)],
  [some (.aload_n 0), some (.iload 4), none, some (.iconst 3), some (.iadd), some (.iaload), some (.invokevirtual 82), none, none, some (.pop), some (.aload_n 2), some (.aload_n 0), some (.iload 4), none, some (.iconst 1), some (.iadd)],
  [some (.iaload), some (.aload_n 0), some (.iload 4), none, some (.iconst 2), some (.iadd), some (.iaload), some (.aload_n 0), some (.iload 4), none, some (.iconst 3), some (.iadd), some (.iaload), some (.invokevirtual 85), none, none],
  [some (.pop), some (.goto 1134), none, none, some (.aload_n 1), some (.aload_n 0), some (.iload 4), none, some (.iconst 1), some (.iadd), some (.iaload), some (.aload_n 0), some (.iload 4), none, some (.iconst 2), some (.iadd)],
  [some (.iaload), some (.aload_n 0), some (.iload 4), none, some (.iconst 3), some (.iadd), some (.iaload), some (.invokevirtual 86), none, none, some (.pop), some (.aload_n 2), some (.aload_n 0), some (.iload 4), none, some (.iconst 1)],
  [some (.iadd), some (.iaload), some (.aload_n 0), some (.iload 4), none, some (.iconst 2), some (.iadd), some (.iaload), some (.aload_n 0), some (.iload 4), none, some (.iconst 3), some (.iadd), some (.iaload), some (.invokevirtual 89), none],
  [none, some (.pop), some (.goto 1085), none, none, some (.aload_n 1), some (.aload_n 0), some (.iload 4), none, some (.iconst 1), some (.iadd), some (.iaload), some (.aload_n 0), some (.iload 4), none, some (.iconst 2)],
  [some (.iadd), some (.iaload), some (.aload_n 0), some (.iload 4), none, some (.iconst 3), some (.iadd), some (.iaload), some (.aload_n 0), some (.iload 4), none, some (.iconst 4), some (.iadd), some (.iaload), some (.invokevirtual 90), none],
  [none, some (.pop), some (.aload_n 2), some (.aload_n 0), some (.iload 4), none, some (.iconst 1), some (.iadd), some (.iaload), some (.aload_n 0), some (.iload 4), none, some (.iconst 2), some (.iadd), some (.iaload), some (.aload_n 0)],
  [some (.iload 4), none, some (.iconst 3), some (.iadd), some (.iaload), some (.aload_n 0), some (.iload 4), none, some (.iconst 4), some (.iadd), some (.iaload), some (.invokevirtual 94), none, none, some (.pop), some (.goto 1024)],
  [none, none, some (.aload_n 1), some (.aload_n 0), some (.iload 4), none, some (.iconst 1), some (.iadd), some (.iaload), some (.aload_n 0), some (.iload 4), none, some (.iconst 2), some (.iadd), some (.iaload), some (.aload_n 0)],
  [some (.iload 4), none, some (.iconst 3), some (.iadd), some (.iaload), some (.invokevirtual 95), none, none, some (.pop), some (.aload_n 2), some (.aload_n 0), some (.iload 4), none, some (.iconst 1), some (.iadd), some (.iaload)],
  [some (.aload_n 0), some (.iload 4), none, some (.iconst 2), some (.iadd), some (.iaload), some (.aload_n 0), some (.iload 4), none, some (.iconst 3), some (.iadd), some (.iaload), some (.invokevirtual 98), none, none, some (.pop)],
  [some (.goto 975), none, none, some (.aload_n 1), some (.aload_n 0), some (.iload 4), none, some (.iconst 1), some (.iadd), some (.iaload), some (.aload_n 0), some (.iload 4), none, some (.iconst 2), some (.iadd), some (.iaload)],
  [some (.invokevirtual 99), none, none, some (.pop), some (.aload_n 2), some (.aload_n 0), some (.iload 4), none, some (.iconst 1), some (.iadd), some (.iaload), some (.aload_n 0), some (.iload 4), none, some (.iconst 2), some (.iadd)],
  [some (.iaload), some (.invokevirtual 102), none, none, some (.pop), some (.goto 938), none, none, some (.aload_n 1), some (.aload_n 0), some (.iload 4), none, some (.iconst 1), some (.iadd), some (.iaload), some (.invokevirtual 103)],
  [none, none, some (.pop), some (.aload_n 2), some (.aload_n 0), some (.iload 4), none, some (.iconst 1), some (.iadd), some (.iaload), some (.invokevirtual 106), none, none, some (.pop), some (.goto 913), none],
  [none, some (.aload_n 1), some (.aload_n 0), some (.iload 4), none, some (.iconst 1), some (.iadd), some (.iaload), some (.aload_n 0), some (.iload 4), none, some (.iconst 2), some (.iadd), some (.iaload), some (.invokevirtual 107), none],
  [none, some (.pop), some (.aload_n 2), some (.aload_n 0), some (.iload 4), none, some (.iconst 1), some (.iadd), some (.iaload), some (.aload_n 0), some (.iload 4), none, some (.iconst 2), some (.iadd), some (.iaload), some (.invokevirtual 110)],
  [none, none, some (.pop), some (.goto 876), none, none, some (.aload_n 1), some (.aload_n 0), some (.iload 4), none, some (.iconst 1), some (.iadd), some (.iaload), some (.aload_n 0), some (.iload 4), none],
  [some (.iconst 2), some (.iadd), some (.iaload), some (.aload_n 0), some (.iload 4), none, some (.iconst 3), some (.iadd), some (.iaload), some (.invokevirtual 111), none, none, some (.pop), some (.aload_n 2), some (.aload_n 0), some (.iload 4)],
  [none, some (.iconst 1), some (.iadd), some (.iaload), some (.aload_n 0), some (.iload 4), none, some (.iconst 2), some (.iadd), some (.iaload), some (.aload_n 0), some (.iload 4), none, some (.iconst 3), some (.iadd), some (.iaload)],
  [some (.invokevirtual 114), none, none, some (.pop), some (.goto 827), none, none, some (.aload_n 1), some (.aload_n 0), some (.iload 4), none, some (.iconst 1), some (.iadd), some (.iaload), some (.aload_n 0), some (.iload 4)],
  [none, some (.iconst 2), some (.iadd), some (.iaload), some (.invokevirtual 115), none, none, some (.pop), some (.aload_n 2), some (.aload_n 0), some (.iload 4), none, some (.iconst 1), some (.iadd), some (.iaload), some (.aload_n 0)],
  [some (.iload 4), none, some (.iconst 2), some (.iadd), some (.iaload), some (.invokevirtual 118), none, none, some (.pop), some (.goto 790), none, none, some (.aload_n 1), some (.aload_n 0), some (.iload 4), none],
  [some (.iconst 1), some (.iadd), some (.iaload), some (.aload_n 0), some (.iload 4), none, some (.iconst 2), some (.iadd), some (.iaload), some (.invokevirtual 119), none, none, some (.pop), some (.aload_n 2), some (.aload_n 0), some (.iload 4)],
  [none, some (.iconst 1), some (.iadd), some (.iaload), some (.aload_n 0), some (.iload 4), none, some (.iconst 2), some (.iadd), some (.iaload), some (.invokevirtual 122), none, none, some (.pop), some (.goto 753), none],
  [none, some (.aload_n 1), some (.aload_n 0), some (.iload 4), none, some (.iconst 1), some (.iadd), some (.iaload), some (.aload_n 0), some (.iload 4), none, some (.iconst 2), some (.iadd), some (.iaload), some (.aload_n 0), some (.iload 4)],
  [none, some (.iconst 3), some (.iadd), some (.iaload), some (.invokevirtual 123), none, none, some (.pop), some (.aload_n 2), some (.aload_n 0), some (.iload 4), none, some (.iconst 1), some (.iadd), some (.iaload), some (.aload_n 0)],
  [some (.iload 4), none, some (.iconst 2), some (.iadd), some (.iaload), some (.aload_n 0), some (.iload 4), none, some (.iconst 3), some (.iadd), some (.iaload), some (.invokevirtual 126), none, none, some (.pop), some (.goto 704)],
  [none, none, some (.aload_n 1), some (.aload_n 0), some (.iload 4), none, some (.iconst 1), some (.iadd), some (.iaload), some (.aload_n 0), some (.iload 4), none, some (.iconst 2), some (.iadd), some (.iaload), some (.invokevirtual 127)],
  [none, none, some (.pop), some (.aload_n 2), some (.aload_n 0), some (.iload 4), none, some (.iconst 1), some (.iadd), some (.iaload), some (.aload_n 0), some (.iload 4), none, some (.iconst 2), some (.iadd), some (.iaload)],
  [some (.invokevirtual 130), none, none, some (.pop), some (.goto 667), none, none, some (.aload_n 1), some (.aload_n 0), some (.iload 4), none, some (.iconst 1), some (.iadd), some (.iaload), some (.aload_n 0), some (.iload 4)],
  [none, some (.iconst 2), some (.iadd), some (.iaload), some (.invokevirtual 131), none, none, some (.pop), some (.aload_n 2), some (.aload_n 0), some (.iload 4), none, some (.iconst 1), some (.iadd), some (.iaload), some (.aload_n 0)],
  [some (.iload 4), none, some (.iconst 2), some (.iadd), some (.iaload), some (.invokevirtual 134), none, none, some (.pop), some (.goto 630), none, none, some (.aload_n 1), some (.aload_n 0), some (.iload 4), none],
  [some (.iconst 1), some (.iadd), some (.iaload), some (.invokevirtual 135), none, none, some (.pop), some (.aload_n 2), some (.aload_n 0), some (.iload 4), none, some (.iconst 1), some (.iadd), some (.iaload), some (.invokevirtual 138), none],
  [none, some (.pop), some (.goto 605), none, none, some (.aload_n 1), some (.aload_n 0), some (.iload 4), none, some (.iconst 1), some (.iadd), some (.iaload), some (.invokevirtual 139), none, none, some (.pop)],
  [some (.aload_n 2), some (.aload_n 0), some (.iload 4), none, some (.iconst 1), some (.iadd), some (.iaload), some (.invokevirtual 142), none, none, some (.pop), some (.goto 580), none, none, some (.aload_n 1), some (.aload_n 0)],
  [some (.iload 4), none, some (.iconst 1), some (.iadd), some (.iaload), some (.aload_n 0), some (.iload 4), none, some (.iconst 2), some (.iadd), some (.iaload), some (.invokevirtual 143), none, none, some (.pop), some (.aload_n 2)],
  [some (.aload_n 0), some (.iload 4), none, some (.iconst 1), some (.iadd), some (.iaload), some (.aload_n 0), some (.iload 4), none, some (.iconst 2), some (.iadd), some (.iaload), some (.invokevirtual 146), none, none, some (.pop)],
  [some (.goto 543), none, none, some (.aload_n 1), some (.aload_n 0), some (.iload 4), none, some (.iconst 1), some (.iadd), some (.iaload), some (.aload_n 0), some (.iload 4), none, some (.iconst 2), some (.iadd), some (.iaload)],
  [some (.aload_n 0), some (.iload 4), none, some (.iconst 3), some (.iadd), some (.iaload), some (.ifCond .eq 7), none, none, some (.iconst 1), some (.goto 4), none, none, some (.iconst 0), some (.aload_n 3), some (.invokestatic 147)],
  [none, none, some (.istore 5), none, some (.aload_n 2), some (.aload_n 0), some (.iload 4), none, some (.iconst 1), some (.iadd), some (.iaload), some (.aload_n 0), some (.iload 4), none, some (.iconst 2), some (.iadd)],
  [some (.iaload), some (.aload_n 0), some (.iload 4), none, some (.iconst 3), some (.iadd), some (.iaload), some (.ifCond .eq 7), none, none, some (.iconst 1), some (.goto 4), none, none, some (.iconst 0), some (.invokevirtual 150)],
  [none, none, some (.lstore 6), none, some (.goto 475), none, none, some (.aload_n 1), some (.aload_n 0), some (.iload 4), none, some (.iconst 1), some (.iadd), some (.iaload), some (.invokevirtual 151), none],
  [none, some (.pop), some (.aload_n 2), some (.aload_n 0), some (.iload 4), none, some (.iconst 1), some (.iadd), some (.iaload), some (.invokevirtual 154), none, none, some (.pop), some (.goto 450), none, none],
  [some (.aload_n 1), some (.aload_n 0), some (.iload 4), none, some (.iconst 1), some (.iadd), some (.iaload), some (.aload_n 0), some (.iload 4), none, some (.iconst 2), some (.iadd), some (.iaload), some (.aload_n 0), some (.iload 4), none],
  [some (.iconst 3), some (.iadd), some (.iaload), some (.invokevirtual 155), none, none, some (.pop), some (.aload_n 2), some (.aload_n 0), some (.iload 4), none, some (.iconst 1), some (.iadd), some (.iaload), some (.aload_n 0), some (.iload 4)],
  [none, some (.iconst 2), some (.iadd), some (.iaload), some (.aload_n 0), some (.iload 4), none, some (.iconst 3), some (.iadd), some (.iaload), some (.invokevirtual 158), none, none, some (.pop), some (.goto 401), none],
  [none, some (.aload_n 1), some (.aload_n 0), some (.iload 4), none, some (.iconst 1), some (.iadd), some (.iaload), some (.aload_n 0), some (.iload 4), none, some (.iconst 2), some (.iadd), some (.iaload), some (.invokevirtual 159), none],
  [none, some (.pop), some (.aload_n 2), some (.aload_n 0), some (.iload 4), none, some (.iconst 1), some (.iadd), some (.iaload), some (.aload_n 0), some (.iload 4), none, some (.iconst 2), some (.iadd), some (.iaload), some (.invokevirtual 162)],
  [none, none, some (.pop), some (.goto 364), none, none, some (.aload_n 1), some (.invokevirtual 163), none, none, some (.pop), some (.aload_n 2), some (.invokevirtual 167), none, none, some (.pop)],
  [some (.goto 351), none, none, some (.aload_n 1), some (.invokevirtual 168), none, none, some (.pop), some (.aload_n 2), some (.invokevirtual 171), none, none, some (.pop), some (.goto 338), none, none],
  [some (.aload_n 1), some (.aload_n 0), some (.iload 4), none, some (.iconst 1), some (.iadd), some (.iaload), some (.invokevirtual 172), none, none, some (.pop), some (.aload_n 2), some (.aload_n 0), some (.iload 4), none, some (.iconst 1)],
  [some (.iadd), some (.iaload), some (.invokevirtual 175), none, none, some (.pop), some (.goto 313), none, none, some (.aload_n 1), some (.aload_n 0), some (.iload 4), none, some (.iconst 1), some (.iadd), some (.iaload)],
  [some (.aload_n 0), some (.iload 4), none, some (.iconst 2), some (.iadd), some (.iaload), some (.aload_n 0), some (.iload 4), none, some (.iconst 3), some (.iadd), some (.iaload), some (.invokevirtual 176), none, none, some (.pop)],
  [some (.aload_n 2), some (.aload_n 0), some (.iload 4), none, some (.iconst 1), some (.iadd), some (.iaload), some (.aload_n 0), some (.iload 4), none, some (.iconst 2), some (.iadd), some (.iaload), some (.aload_n 0), some (.iload 4), none],
  [some (.iconst 3), some (.iadd), some (.iaload), some (.invokevirtual 179), none, none, some (.pop), some (.goto 264), none, none, some (.aload_n 1), some (.aload_n 0), some (.iload 4), none, some (.iconst 1), some (.iadd)],
  [some (.iaload), some (.aload_n 0), some (.iload 4), none, some (.iconst 2), some (.iadd), some (.iaload), some (.aload_n 0), some (.iload 4), none, some (.iconst 3), some (.iadd), some (.iaload), some (.invokevirtual 180), none, none],
  [some (.pop), some (.aload_n 2), some (.aload_n 0), some (.iload 4), none, some (.iconst 1), some (.iadd), some (.iaload), some (.aload_n 0), some (.iload 4), none, some (.iconst 2), some (.iadd), some (.iaload), some (.aload_n 0), some (.iload 4)],
  [none, some (.iconst 3), some (.iadd), some (.iaload), some (.invokevirtual 183), none, none, some (.pop), some (.goto 215), none, none, some (.aload_n 1), some (.aload_n 0), some (.iload 4), none, some (.iconst 1)],
  [some (.iadd), some (.iaload), some (.aload_n 0), some (.iload 4), none, some (.iconst 2), some (.iadd), some (.iaload), some (.aload_n 0), some (.iload 4), none, some (.iconst 3), some (.iadd), some (.iaload), some (.invokevirtual 184), none],
  [none, some (.pop), some (.aload_n 2), some (.aload_n 0), some (.iload 4), none, some (.iconst 1), some (.iadd), some (.iaload), some (.aload_n 0), some (.iload 4), none, some (.iconst 2), some (.iadd), some (.iaload), some (.aload_n 0)],
  [some (.iload 4), none, some (.iconst 3), some (.iadd), some (.iaload), some (.invokevirtual 187), none, none, some (.pop), some (.goto 166), none, none, some (.aload_n 1), some (.aload_n 0), some (.iload 4), none],
  [some (.iconst 1), some (.iadd), some (.iaload), some (.aload_n 0), some (.iload 4), none, some (.iconst 2), some (.iadd), some (.iaload), some (.aload_n 3), some (.invokestatic 188), none, none, some (.istore 5), none, some (.aload_n 2)],
  [some (.aload_n 0), some (.iload 4), none, some (.iconst 1), some (.iadd), some (.iaload), some (.aload_n 0), some (.iload 4), none, some (.iconst 2), some (.iadd), some (.iaload), some (.invokevirtual 190), none, none, some (.lstore 6)],
  [none, some (.goto 126), none, none, some (.aload_n 1), some (.aload_n 0), some (.iload 4), none, some (.iconst 1), some (.iadd), some (.iaload), some (.aload_n 0), some (.iload 4), none, some (.iconst 2), some (.iadd)],
  [some (.iaload), some (.aload_n 0), some (.iload 4), none, some (.iconst 3), some (.iadd), some (.iaload), some (.aload_n 0), some (.iload 4), none, some (.iconst 4), some (.iadd), some (.iaload), some (.aload_n 0), some (.iload 4), none],
  [some (.iconst 5), some (.iadd), some (.iaload), some (.invokevirtual 191), none, none, some (.pop), some (.aload_n 2), some (.aload_n 0), some (.iload 4), none, some (.iconst 1), some (.iadd), some (.iaload), some (.aload_n 0), some (.iload 4)],
  [none, some (.iconst 2), some (.iadd), some (.iaload), some (.aload_n 0), some (.iload 4), none, some (.iconst 3), some (.iadd), some (.iaload), some (.aload_n 0), some (.iload 4), none, some (.iconst 4), some (.iadd), some (.iaload)],
  [some (.aload_n 0), some (.iload 4), none, some (.iconst 5), some (.iadd), some (.iaload), some (.invokevirtual 195), none, none, some (.pop), some (.goto 53), none, none, some (.aload_n 1), some (.aload_n 0), some (.iload 4)],
  [none, some (.iconst 1), some (.iadd), some (.iaload), some (.invokevirtual 196), none, none, some (.pop), some (.aload_n 2), some (.aload_n 0), some (.iload 4), none, some (.iconst 1), some (.iadd), some (.iaload), some (.invokevirtual 199)],
  [none, none, some (.pop), some (.goto 28), none, none, some (.aload_n 1), some (.aload_n 0), some (.iload 4), none, some (.iconst 1), some (.iadd), some (.iaload), some (.invokevirtual 200), none, none],
  [some (.pop), some (.aload_n 2), some (.aload_n 0), some (.iload 4), none, some (.iconst 1), some (.iadd), some (.iaload), some (.invokevirtual 203), none, none, some (.pop), some (.goto 3), none, none, some (.iinc 4 6)],
  [none, none, some (.goto (-1883)), none, none, some (.iconst 1), some (.ireturn)]]
theorem q_code274_p0 : q_chkR code q_code274 0 96 = true := by decide +kernel
theorem q_code274_p1 : q_chkR code q_code274 96 96 = true := by decide +kernel
theorem q_code274_p2 : q_chkR code q_code274 192 96 = true := by decide +kernel
theorem q_code274_p3 : q_chkR code q_code274 288 96 = true := by decide +kernel
theorem q_code274_p4 : q_chkR code q_code274 384 96 = true := by decide +kernel
theorem q_code274_p5 : q_chkR code q_code274 480 96 = true := by decide +kernel
theorem q_code274_p6 : q_chkR code q_code274 576 96 = true := by decide +kernel
theorem q_code274_p7 : q_chkR code q_code274 672 96 = true := by decide +kernel
theorem q_code274_p8 : q_chkR code q_code274 768 96 = true := by decide +kernel
theorem q_code274_p9 : q_chkR code q_code274 864 96 = true := by decide +kernel
theorem q_code274_p10 : q_chkR code q_code274 960 96 = true := by decide +kernel
theorem q_code274_p11 : q_chkR code q_code274 1056 96 = true := by decide +kernel
theorem q_code274_p12 : q_chkR code q_code274 1152 96 = true := by decide +kernel
theorem q_code274_p13 : q_chkR code q_code274 1248 96 = true := by decide +kernel
theorem q_code274_p14 : q_chkR code q_code274 1344 96 = true := by decide +kernel
theorem q_code274_p15 : q_chkR code q_code274 1440 96 = true := by decide +kernel
theorem q_code274_p16 : q_chkR code q_code274 1536 96 = true := by decide +kernel
theorem q_code274_p17 : q_chkR code q_code274 1632 96 = true := by decide +kernel
theorem q_code274_p18 : q_chkR code q_code274 1728 96 = true := by decide +kernel
theorem q_code274_p19 : q_chkR code q_code274 1824 96 = true := by decide +kernel
theorem q_code274_ok : q_dec code q_code274 := q_chkR_ok (m := 20) (k := 96) (by decide +kernel) (fun j hj => match j, hj with
  | 0, _ => q_code274_p0
  | 1, _ => q_code274_p1
  | 2, _ => q_code274_p2
  | 3, _ => q_code274_p3
  | 4, _ => q_code274_p4
  | 5, _ => q_code274_p5
  | 6, _ => q_code274_p6
  | 7, _ => q_code274_p7
  | 8, _ => q_code274_p8
  | 9, _ => q_code274_p9
  | 10, _ => q_code274_p10
  | 11, _ => q_code274_p11
  | 12, _ => q_code274_p12
  | 13, _ => q_code274_p13
  | 14, _ => q_code274_p14
  | 15, _ => q_code274_p15
  | 16, _ => q_code274_p16
  | 17, _ => q_code274_p17
  | 18, _ => q_code274_p18
  | 19, _ => q_code274_p19
  | n + 20, h => absurd h (by omega))
