def q_code117 : List (List (Option Instr)) := [[some (.aload_n 0), some (.iload_n 1), some (.invokevirtual 83), none, none, some (.ifCond .eq 39), none, none, some (.iload_n 2), some (.invokestatic 216), none, none, some (.ifCond .eq 32), none, none, some (.iload_n 3)],
  [some (.invokestatic 216), none, none, some (.ifCond .eq 25), none, none, some (.iload_n 2), some (.bipush 100), none, some (.idiv), some (.iload_n 3), some (.bipush 100), none, some (.idiv), some (.if_icmp .gt 14), none],
  [none, some (.iload_n 2), some (.bipush 100), none, some (.irem), some (.iload_n 3), some (.bipush 100), none, some (.irem), some (.if_icmp .le 5), none, none, some (.iconst (-1)), some (.ireturn), some (.aload_n 0), some (.iload_n 1)],
  [some (.iconst 0), some (.invokevirtual 118), none, none, some (.ifCond .ne 6), none, none, some (.bipush (-3)), none, some (.ireturn), some (.aload_n 0), some (.getfield 12), none, none, some (.getfield 134), none],
  [none, some (.getfield 219), none, none, some (.iload_n 1), some (.iload_n 2), some (.invokestatic 142), none, none, some (.aload_n 0), some (.getfield 12), none, none, some (.getfield 134), none, none],
  [some (.getfield 222), none, none, some (.iload_n 1), some (.iload_n 3), some (.invokestatic 142), none, none, some (.iload_n 3), some (.bipush 100), none, some (.idiv), some (.iload_n 2), some (.bipush 100), none, some (.idiv)],
  [some (.isub), some (.iconst 1), some (.iadd), some (.iload_n 3), some (.bipush 100), none, some (.irem), some (.iload_n 2), some (.bipush 100), none, some (.irem), some (.isub), some (.iconst 1), some (.iadd), some (.imul), some (.ireturn)]]
theorem q_code117_ok : q_dec prog_1_method_15_code q_code117 := f_all2_ok (by decide +kernel)
def q_code118 : List (List (Option Instr)) := [[some (.iload_n 2), some (.ifCond .lt 23), none, none, some (.iload_n 2), some (.bipush 20), none, some (.if_icmp .ge 17), none, none, some (.iload_n 3), some (.ifCond .lt 13), none, none, some (.iload_n 3), some (.bipush 12)],
  [none, some (.if_icmp .ge 7), none, none, some (.iconst 1), some (.goto 4), none, none, some (.iconst 0), some (.istore 5), none, some (.iload_n 1), some (.ifCond .lt 26), none, none, some (.iload_n 1)],
  [some (.bipush 10), none, some (.if_icmp .ge 20), none, none, some (.iload 5), none, some (.ifCond .eq 15), none, none, some (.iload 4), none, some (.ifCond .lt 10), none, none, some (.iload 4)],
  [none, some (.bipush 30), none, some (.if_icmp .le 5), none, none, some (.iconst (-1)), some (.ireturn), some (.aload_n 0), some (.getfield 12), none, none, some (.getfield 225), none, none, some (.astore 6)],
  [none, some (.aload 6), none, some (.getfield 229), none, none, some (.iload_n 1), some (.invokestatic 96), none, none, some (.istore 7), none, some (.aload 6), none, some (.getfield 234), none],
  [none, some (.iload_n 1), some (.iload_n 2), some (.invokestatic 142), none, none, some (.aload 6), none, some (.getfield 237), none, none, some (.iload_n 1), some (.iload_n 3), some (.invokestatic 142), none, none],
  [some (.aload 6), none, some (.getfield 229), none, none, some (.iload_n 1), some (.iload 4), none, some (.invokestatic 142), none, none, some (.iload 7), none, some (.ireturn)]]
theorem q_code118_ok : q_dec prog_1_method_16_code q_code118 := f_all2_ok (by decide +kernel)
def q_code119 : List (List (Option Instr)) := [[some (.iload_n 1), some (.invokestatic 240), none, none, some (.ifCond .eq 23), none, none, some (.iload_n 2), some (.ifCond .lt 19), none, none, some (.iload_n 2), some (.bipush 7), none, some (.if_icmp .gt 13), none],
  [none, some (.iload_n 3), some (.ifCond .lt 9), none, none, some (.iload_n 3), some (.bipush 30), none, some (.if_icmp .le 5), none, none, some (.iconst (-1)), some (.ireturn), some (.aload_n 0), some (.getfield 12), none],
  [none, some (.getfield 225), none, none, some (.astore 4), none, some (.bipush 100), none, some (.aload 4), none, some (.getfield 243), none, none, some (.iload_n 1), some (.invokestatic 96), none],
  [none, some (.imul), some (.aload 4), none, some (.getfield 246), none, none, some (.iload_n 1), some (.invokestatic 96), none, none, some (.iadd), some (.istore 5), none, some (.aload 4), none],
  [some (.getfield 243), none, none, some (.iload_n 1), some (.iload_n 2), some (.invokestatic 142), none, none, some (.aload 4), none, some (.getfield 246), none, none, some (.iload_n 1), some (.iload_n 3), some (.invokestatic 142)],
  [none, none, some (.iload 5), none, some (.ireturn)]]
theorem q_code119_ok : q_dec prog_1_method_17_code q_code119 := f_all2_ok (by decide +kernel)
def q_code120 : List (List (Option Instr)) := [[some (.aload_n 0), some (.iload_n 1), some (.invokevirtual 83), none, none, some (.ifCond .eq 10), none, none, some (.iload_n 2), some (.invokestatic 240), none, none, some (.ifCond .ne 5), none, none, some (.iconst (-1))],
  [some (.ireturn), some (.aload_n 0), some (.iload_n 1), some (.iconst 0), some (.invokevirtual 118), none, none, some (.ifCond .ne 6), none, none, some (.bipush (-3)), none, some (.ireturn), some (.aload_n 0), some (.getfield 12), none],
  [none, some (.getfield 225), none, none, some (.iload_n 2), some (.aload_n 0), some (.getfield 67), none, none, some (.invokevirtual 249), none, none, some (.aload_n 0), some (.getfield 12), none, none],
  [some (.getfield 134), none, none, some (.iload_n 1), some (.aload_n 0), some (.getfield 67), none, none, some (.invokevirtual 253), none, none, some (.ireturn)]]
theorem q_code120_ok : q_dec prog_1_method_18_code q_code120 := f_all2_ok (by decide +kernel)
def q_code121 : List (List (Option Instr)) := [[some (.aload_n 0), some (.iload_n 1), some (.invokevirtual 71), none, none, some (.astore_n 2), some (.aload_n 2), some (.iconst (-1)), some (.invokestatic 75), none, none, some (.istore_n 3), some (.iload_n 3), some (.ifCond .ne 7), none, none],
  [some (.aload_n 2), some (.ifnonnull 5), none, none, some (.iload_n 3), some (.ireturn), some (.aload_n 0), some (.getfield 12), none, none, some (.getfield 225), none, none, some (.aload_n 2), some (.invokevirtual 257), none],
  [none, some (.aload_n 2), some (.getfield 261), none, none, some (.ireturn)]]
theorem q_code121_ok : q_dec prog_1_method_19_code q_code121 := f_all2_ok (by decide +kernel)
def q_code122 : List (List (Option Instr)) := [[some (.iload_n 1), some (.invokestatic 264), none, none, some (.ifCond .eq 10), none, none, some (.iload_n 2), some (.invokestatic 240), none, none, some (.ifCond .ne 5), none, none, some (.iconst (-1)), some (.ireturn)],
  [some (.aload_n 0), some (.getfield 12), none, none, some (.getfield 225), none, none, some (.iload_n 1), some (.bipush 12), none, some (.imul), some (.iload_n 2), some (.iadd), some (.invokevirtual 267), none, none],
  [some (.ireturn)]]
theorem q_code122_ok : q_dec prog_1_method_20_code q_code122 := f_all2_ok (by decide +kernel)
def q_code123 : List (List (Option Instr)) := [[some (.aload_n 0), some (.iload_n 1), some (.invokevirtual 83), none, none, some (.ifCond .eq 17), none, none, some (.iload_n 2), some (.invokestatic 264), none, none, some (.ifCond .eq 10), none, none, some (.iload_n 3)],
  [some (.invokestatic 240), none, none, some (.ifCond .ne 5), none, none, some (.iconst (-1)), some (.ireturn), some (.aload_n 0), some (.iload_n 1), some (.iload_n 2), some (.iload_n 3), some (.invokevirtual 270), none, none, some (.ireturn)]]
theorem q_code123_ok : q_dec prog_1_method_21_code q_code123 := f_all2_ok (by decide +kernel)
def q_code124 : List (List (Option Instr)) := [[some (.aload_n 0), some (.iload_n 1), some (.invokevirtual 83), none, none, some (.ifCond .eq 10), none, none, some (.iload_n 2), some (.invokestatic 264), none, none, some (.ifCond .ne 5), none, none, some (.iconst (-1))],
  [some (.ireturn), some (.iconst 0), some (.istore_n 3), some (.iconst 0), some (.istore 4), none, some (.iload 4), none, some (.bipush 12), none, some (.if_icmp .ge 20), none, none, some (.iload_n 3), some (.aload_n 0), some (.iload_n 1)],
  [some (.iload_n 2), some (.iload 4), none, some (.invokevirtual 270), none, none, some (.iadd), some (.istore_n 3), some (.iinc 4 1), none, none, some (.goto (-21)), none, none, some (.iload_n 3), some (.ireturn)]]
theorem q_code124_ok : q_dec prog_1_method_22_code q_code124 := f_all2_ok (by decide +kernel)
def q_code125 : List (List (Option Instr)) := [[some (.aload_n 0), some (.iload_n 1), some (.iload_n 2), some (.invokevirtual 274), none, none, some (.istore_n 3), some (.iload_n 3), some (.ifCond .eq 7), none, none, some (.iload_n 3), some (.goto 14), none, none, some (.aload_n 0)],
  [some (.getfield 56), none, none, some (.getfield 277), none, none, some (.iconst 0), some (.invokestatic 96), none, none, some (.ireturn)]]
theorem q_code125_ok : q_dec prog_1_method_23_code q_code125 := f_all2_ok (by decide +kernel)
def q_code126 : List (List (Option Instr)) := [[some (.iload_n 3), some (.iconst (-1)), some (.if_icmp .ge 5), none, none, some (.iconst (-1)), some (.ireturn), some (.aload_n 0), some (.iload_n 1), some (.iload_n 2), some (.invokevirtual 274), none, none, some (.istore 4), none, some (.iload 4)],
  [none, some (.ifCond .eq 8), none, none, some (.iload 4), none, some (.goto 11), none, none, some (.aload_n 0), some (.getfield 56), none, none, some (.iload_n 3), some (.invokevirtual 280), none],
  [none, some (.ireturn)]]
theorem q_code126_ok : q_dec prog_1_method_24_code q_code126 := f_all2_ok (by decide +kernel)
def q_code127 : List (List (Option Instr)) := [[some (.aload_n 0), some (.iload_n 1), some (.invokevirtual 71), none, none, some (.astore_n 3), some (.iload_n 2), some (.ifCond .lt 8), none, none, some (.iload_n 2), some (.iconst 1), some (.if_icmp .le 5), none, none, some (.iconst (-1))],
  [some (.ireturn), some (.aload_n 3), some (.iconst 0), some (.invokestatic 75), none, none, some (.istore 4), none, some (.iload 4), none, some (.ifCond .ne 7), none, none, some (.aload_n 3), some (.ifnonnull 6), none],
  [none, some (.iload 4), none, some (.ireturn), some (.aload_n 0), some (.aload_n 3), some (.invokevirtual 283), none, none, some (.ifCond .ne 6), none, none, some (.bipush (-13)), none, some (.ireturn), some (.aload_n 0)],
  [some (.getfield 42), none, none, some (.aload_n 3), some (.invokevirtual 287), none, none, some (.aload_n 0), some (.getfield 42), none, none, some (.invokevirtual 290), none, none, some (.istore 5), none],
  [some (.iload_n 2), some (.ifCond .ne 13), none, none, some (.aload_n 0), some (.getfield 42), none, none, some (.getfield 167), none, none, some (.goto 5), none, none, some (.iload 5), none],
  [some (.ireturn)]]
theorem q_code127_ok : q_dec prog_1_method_25_code q_code127 := f_all2_ok (by decide +kernel)
def q_code128 : List (List (Option Instr)) := [[some (.iload_n 1), some (.invokestatic 240), none, none, some (.ifCond .eq 14), none, none, some (.iload_n 2), some (.ifCond .lt 10), none, none, some (.iload_n 2), some (.sipush 2099), none, none, some (.if_icmp .le 5)],
  [none, none, some (.iconst (-1)), some (.ireturn), some (.aload_n 0), some (.getfield 12), none, none, some (.getfield 293), none, none, some (.astore_n 3), some (.bipush 100), none, some (.aload_n 3), some (.getfield 297)],
  [none, none, some (.iload_n 1), some (.invokestatic 96), none, none, some (.imul), some (.aload_n 3), some (.getfield 302), none, none, some (.iload_n 1), some (.invokestatic 96), none, none, some (.iadd)],
  [some (.istore 4), none, some (.aload_n 3), some (.getfield 297), none, none, some (.iload_n 1), some (.iload_n 2), some (.bipush 100), none, some (.idiv), some (.invokestatic 142), none, none, some (.aload_n 3), some (.getfield 302)],
  [none, none, some (.iload_n 1), some (.iload_n 2), some (.bipush 100), none, some (.irem), some (.invokestatic 142), none, none, some (.iload 4), none, some (.ireturn)]]
theorem q_code128_ok : q_dec prog_1_method_26_code q_code128 := f_all2_ok (by decide +kernel)
def q_code129 : List (List (Option Instr)) := [[some (.iload_n 1), some (.ifCond .lt 9), none, none, some (.iload_n 1), some (.bipush 30), none, some (.if_icmp .le 5), none, none, some (.iconst (-1)), some (.ireturn), some (.aload_n 0), some (.getfield 12), none, none],
  [some (.getfield 293), none, none, some (.getfield 305), none, none, some (.istore_n 2), some (.aload_n 0), some (.getfield 12), none, none, some (.getfield 293), none, none, some (.iload_n 1), some (.putfield 305)],
  [none, none, some (.iload_n 2), some (.ireturn)]]
theorem q_code129_ok : q_dec prog_1_method_27_code q_code129 := f_all2_ok (by decide +kernel)
def q_code130 : List (List (Option Instr)) := [[some (.iload_n 1), some (.iconst (-1)), some (.if_icmp .lt 9), none, none, some (.iload_n 1), some (.bipush 12), none, some (.if_icmp .lt 5), none, none, some (.iconst (-1)), some (.ireturn), some (.aload_n 0), some (.getfield 12), none],
  [none, some (.getfield 293), none, none, some (.invokevirtual 308), none, none, some (.iload_n 1), some (.ifCond .ge 16), none, none, some (.aload_n 0), some (.getfield 12), none, none, some (.getfield 293)],
  [none, none, some (.invokevirtual 311), none, none, some (.goto 14), none, none, some (.aload_n 0), some (.getfield 12), none, none, some (.getfield 293), none, none, some (.iload_n 1)],
  [some (.invokevirtual 314), none, none, some (.ireturn)]]
theorem q_code130_ok : q_dec prog_1_method_28_code q_code130 := f_all2_ok (by decide +kernel)
def q_code131 : List (List (Option Instr)) := [[some (.aload_n 0), some (.iload_n 1), some (.invokevirtual 83), none, none, some (.ifCond .eq 13), none, none, some (.iload_n 2), some (.ifCond .lt 9), none, none, some (.iload_n 2), some (.bipush 16), none, some (.if_icmp .lt 5)],
  [none, none, some (.iconst (-1)), some (.ireturn), some (.aload_n 0), some (.iload_n 1), some (.iload_n 2), some (.invokevirtual 317), none, none, some (.ireturn)]]
theorem q_code131_ok : q_dec prog_1_method_29_code q_code131 := f_all2_ok (by decide +kernel)
def q_code132 : List (List (Option Instr)) := [[some (.aload_n 0), some (.iload_n 1), some (.invokevirtual 83), none, none, some (.ifCond .eq 12), none, none, some (.iload_n 2), some (.ifCond .lt 8), none, none, some (.iload_n 2), some (.iconst 4), some (.if_icmp .lt 14), none],
  [none, some (.new 149), none, none, some (.dup), some (.ldc_w 320), none, none, some (.invokespecial 153), none, none, some (.athrow), some (.iconst 1), some (.iload_n 2), some (.ishl), some (.istore 4)],
  [none, some (.iload_n 3), some (.ifCond .ne 27), none, none, some (.aload_n 0), some (.iload_n 1), some (.iconst 2), some (.iload 4), none, some (.imul), some (.iconst 1), some (.isub), some (.invokevirtual 317), none, none],
  [some (.i2l), some (.aload_n 0), some (.iload_n 1), some (.iload 4), none, some (.iconst 1), some (.isub), some (.invokevirtual 317), none, none, some (.i2l), some (.lsub), some (.lreturn), some (.lconst 0), some (.lstore 5), none],
  [some (.iconst 0), some (.istore 7), none, some (.iload 7), none, some (.bipush 16), none, some (.if_icmp .ge 59), none, none, some (.iload 7), none, some (.iload 4), none, some (.iand), some (.ifCond .ne 45)],
  [none, none, some (.aload_n 0), some (.iload_n 1), some (.iload 7), none, some (.iload 4), none, some (.ior), some (.invokevirtual 317), none, none, some (.i2l), some (.aload_n 0), some (.iload_n 1), some (.iload 7)],
  [none, some (.invokevirtual 317), none, none, some (.i2l), some (.lsub), some (.lstore 8), none, some (.lload 5), none, some (.lload 8), none, some (.getstatic 322), none, none, some (.iload 7)],
  [none, some (.invokestatic 325), none, none, some (.invokestatic 96), none, none, some (.i2l), some (.lmul), some (.ladd), some (.lstore 5), none, some (.iinc 7 1), none, none, some (.goto (-60))],
  [none, none, some (.lload 5), none, some (.lreturn)]]
theorem q_code132_ok : q_dec prog_1_method_30_code q_code132 := f_all2_ok (by decide +kernel)
def q_code133 : List (List (Option Instr)) := [[some (.aload_n 0), some (.iload_n 1), some (.invokevirtual 83), none, none, some (.ifCond .ne 5), none, none, some (.iconst (-1)), some (.ireturn), some (.aload_n 0), some (.getfield 42), none, none, some (.iload_n 1), some (.invokevirtual 106)],
  [none, none, some (.aload_n 0), some (.getfield 42), none, none, some (.invokevirtual 330), none, none, some (.ireturn)]]
theorem q_code133_ok : q_dec prog_1_method_31_code q_code133 := f_all2_ok (by decide +kernel)
def q_code134 : List (List (Option Instr)) := [[some (.iload_n 3), some (.iconst (-1)), some (.if_icmp .ge 5), none, none, some (.iconst (-1)), some (.ireturn), some (.aload_n 0), some (.iload_n 1), some (.iload_n 2), some (.invokevirtual 333), none, none, some (.istore 4), none, some (.iload 4)],
  [none, some (.ifCond .eq 8), none, none, some (.iload 4), none, some (.goto 11), none, none, some (.aload_n 0), some (.getfield 63), none, none, some (.iload_n 3), some (.invokevirtual 336), none],
  [none, some (.ireturn)]]
theorem q_code134_ok : q_dec prog_1_method_32_code q_code134 := f_all2_ok (by decide +kernel)
def q_code135 : List (List (Option Instr)) := [[some (.aload_n 0), some (.iload_n 1), some (.iload_n 2), some (.invokevirtual 333), none, none, some (.istore_n 3), some (.iload_n 3), some (.ifCond .eq 7), none, none, some (.iload_n 3), some (.goto 10), none, none, some (.aload_n 0)],
  [some (.getfield 63), none, none, some (.invokevirtual 339), none, none, some (.ireturn)]]
theorem q_code135_ok : q_dec prog_1_method_33_code q_code135 := f_all2_ok (by decide +kernel)
def q_code136 : List (List (Option Instr)) := [[some (.aload_n 0), some (.getfield 16), none, none, some (.aload_n 0), some (.getfield 12), none, none, some (.invokevirtual 342), none, none, some (.aload_n 0), some (.iconst 1), some (.putfield 19), none, none],
  [some (.aload_n 0), some (.getfield 12), none, none, some (.getfield 87), none, none, some (.getfield 345), none, none, some (.ireturn)]]
theorem q_code136_ok : q_dec prog_1_method_34_code q_code136 := f_all2_ok (by decide +kernel)
def q_code137 : List (List (Option Instr)) := [[some (.aload_n 0), some (.getfield 19), none, none, some (.ifCond .ne 6), none, none, some (.bipush (-3)), none, some (.ireturn), some (.aload_n 0), some (.getfield 12), none, none, some (.aload_n 0), some (.getfield 16)],
  [none, none, some (.invokevirtual 342), none, none, some (.aload_n 0), some (.getfield 12), none, none, some (.getfield 87), none, none, some (.getfield 345), none, none, some (.ireturn)]]
theorem q_code137_ok : q_dec prog_1_method_35_code q_code137 := f_all2_ok (by decide +kernel)
def q_code138 : List (List (Option Instr)) := [[some (.iload_n 1), some (.ifCond .lt 9), none, none, some (.iload_n 1), some (.bipush 8), none, some (.if_icmp .le 5), none, none, some (.iconst (-1)), some (.ireturn), some (.iload_n 1), some (.ifCond .ne 14), none, none],
  [some (.aload_n 0), some (.getfield 12), none, none, some (.getfield 87), none, none, some (.getfield 345), none, none, some (.ireturn), some (.iload_n 1), some (.iconst 4), some (.if_icmp .gt 17), none, none],
  [some (.aload_n 0), some (.getfield 12), none, none, some (.getfield 87), none, none, some (.iload_n 1), some (.iconst 1), some (.isub), some (.invokevirtual 346), none, none, some (.ireturn), some (.iload_n 1), some (.iconst 5)],
  [some (.if_icmp .ne 21), none, none, some (.aload_n 0), some (.getfield 12), none, none, some (.getfield 134), none, none, some (.aload_n 0), some (.getfield 12), none, none, some (.getfield 87), none],
  [none, some (.invokevirtual 349), none, none, some (.ireturn), some (.iload_n 1), some (.bipush 6), none, some (.if_icmp .ne 14), none, none, some (.aload_n 0), some (.getfield 12), none, none, some (.getfield 225)],
  [none, none, some (.invokevirtual 353), none, none, some (.ireturn), some (.iload_n 1), some (.bipush 7), none, some (.if_icmp .ne 16), none, none, some (.aload_n 0), some (.getfield 12), none, none],
  [some (.getfield 225), none, none, some (.getfield 356), none, none, some (.goto 13), none, none, some (.aload_n 0), some (.getfield 12), none, none, some (.getfield 293), none, none],
  [some (.getfield 305), none, none, some (.ireturn)]]
theorem q_code138_ok : q_dec prog_1_method_36_code q_code138 := f_all2_ok (by decide +kernel)
def q_code139 : List (List (Option Instr)) := [[some (.aload_n 0), some (.iload_n 1), some (.invokevirtual 71), none, none, some (.astore 4), none, some (.aload 4), none, some (.ifnull 25), none, none, some (.iload_n 2), some (.ifCond .lt 21), none, none],
  [some (.iload_n 2), some (.iconst 1), some (.if_icmp .gt 16), none, none, some (.iload_n 2), some (.iconst 1), some (.if_icmp .ne 13), none, none, some (.aload_n 0), some (.iload_n 3), some (.invokevirtual 83), none, none, some (.ifCond .ne 5)],
  [none, none, some (.iconst (-1)), some (.ireturn), some (.iload_n 2), some (.ifCond .ne 11), none, none, some (.aload 4), none, some (.invokevirtual 359), none, none, some (.goto 18), none, none],
  [some (.aload 4), none, some (.aload_n 0), some (.iload_n 3), some (.invokevirtual 362), none, none, some (.aload_n 0), some (.iload_n 3), some (.invokevirtual 365), none, none, some (.invokevirtual 368), none, none, some (.iconst 0)],
  [some (.ireturn)]]
theorem q_code139_ok : q_dec prog_1_method_37_code q_code139 := f_all2_ok (by decide +kernel)
def q_code140 : List (List (Option Instr)) := [[some (.aload_n 0), some (.iload_n 1), some (.invokevirtual 71), none, none, some (.astore 4), none, some (.aload 4), none, some (.ifnull 18), none, none, some (.iload_n 2), some (.ifCond .lt 14), none, none],
  [some (.iload_n 2), some (.iconst 2), some (.if_icmp .gt 9), none, none, some (.iload_n 3), some (.bipush 120), none, some (.if_icmp .le 5), none, none, some (.iconst (-1)), some (.ireturn), some (.iload_n 3), some (.ifCond .ge 6), none],
  [none, some (.bipush (-14)), none, some (.ireturn), some (.aload 4), none, some (.iload_n 2), some (.iload_n 3), some (.invokevirtual 371), none, none, some (.iconst 0), some (.ireturn)]]
theorem q_code140_ok : q_dec prog_1_method_38_code q_code140 := f_all2_ok (by decide +kernel)
def q_code141 : List (List (Option Instr)) := [[some (.aload_n 0), some (.iload_n 1), some (.invokevirtual 71), none, none, some (.astore 4), none, some (.aload 4), none, some (.iconst (-1)), some (.invokestatic 75), none, none, some (.istore 5), none, some (.iload 5)],
  [none, some (.ifCond .ne 8), none, none, some (.aload 4), none, some (.ifnonnull 6), none, none, some (.iload 5), none, some (.ireturn), some (.iload_n 2), some (.ifCond .lt 12), none, none],
  [some (.iload_n 2), some (.aload 4), none, some (.getfield 261), none, none, some (.if_icmp .lt 6), none, none, some (.bipush (-13)), none, some (.ireturn), some (.aload 4), none, some (.getfield 374), none],
  [none, some (.iload_n 2), some (.aload 4), none, some (.iload_n 3), some (.invokevirtual 377), none, none, some (.invokestatic 142), none, none, some (.iconst 0), some (.ireturn)]]
theorem q_code141_ok : q_dec prog_1_method_39_code q_code141 := f_all2_ok (by decide +kernel)
def q_code142 : List (List (Option Instr)) := [[some (.aload_n 0), some (.iload_n 1), some (.invokevirtual 71), none, none, some (.astore_n 3), some (.aload_n 3), some (.ifnonnull 14), none, none, some (.new 149), none, none, some (.dup), some (.ldc_w 380), none],
  [none, some (.invokespecial 153), none, none, some (.athrow), some (.aload_n 3), some (.getfield 382), none, none, some (.ifCond .eq 15), none, none, some (.iload_n 2), some (.ifCond .lt 11), none, none],
  [some (.iload_n 2), some (.aload_n 3), some (.getfield 261), none, none, some (.if_icmp .lt 14), none, none, some (.new 385), none, none, some (.dup), some (.ldc_w 387), none, none, some (.invokespecial 389)],
  [none, none, some (.athrow), some (.aload_n 3), some (.getfield 374), none, none, some (.iload_n 2), some (.invokestatic 96), none, none, some (.i2l), some (.lreturn)]]
theorem q_code142_ok : q_dec prog_1_method_40_code q_code142 := f_all2_ok (by decide +kernel)
def q_code143 : List (List (Option Instr)) := [[some (.aload_n 0), some (.iload_n 1), some (.invokevirtual 71), none, none, some (.astore 6), none, some (.aload_n 0), some (.iload_n 3), some (.invokevirtual 71), none, none, some (.astore 7), none, some (.aload 6), none],
  [some (.ifnull 8), none, none, some (.aload 7), none, some (.ifnonnull 5), none, none, some (.iconst (-1)), some (.ireturn), some (.aload 6), none, some (.invokevirtual 390), none, none, some (.ifCond .ne 11)],
  [none, none, some (.aload 7), none, some (.invokevirtual 390), none, none, some (.ifCond .eq 6), none, none, some (.bipush (-11)), none, some (.ireturn), some (.aload 6), none, some (.getfield 382)],
  [none, none, some (.ifCond .eq 24), none, none, some (.aload 7), none, some (.getfield 382), none, none, some (.ifCond .eq 16), none, none, some (.aload 6), none, some (.getfield 394)],
  [none, none, some (.aload 7), none, some (.getfield 394), none, none, some (.if_icmp .eq 6), none, none, some (.bipush (-12)), none, some (.ireturn), some (.aload 6), none, some (.iload_n 2)],
  [some (.iload 5), none, some (.invokevirtual 397), none, none, some (.ifCond .eq 15), none, none, some (.aload 7), none, some (.iload 4), none, some (.iload 5), none, some (.invokevirtual 397), none],
  [none, some (.ifCond .ne 6), none, none, some (.bipush (-13)), none, some (.ireturn), some (.aload 6), none, some (.getfield 374), none, none, some (.iload_n 2), some (.aload 7), none, some (.getfield 374)],
  [none, none, some (.iload 4), none, some (.iload 5), none, some (.invokestatic 400), none, none, some (.iload 5), none, some (.ireturn)]]
theorem q_code143_ok : q_dec prog_1_method_41_code q_code143 := f_all2_ok (by decide +kernel)
def q_code144 : List (List (Option Instr)) := [[some (.aload_n 0), some (.iload_n 1), some (.invokevirtual 71), none, none, some (.astore_n 2), some (.aload_n 2), some (.invokestatic 406), none, none, some (.istore_n 3), some (.iload_n 3), some (.ifCond .ne 7), none, none, some (.aload_n 2)],
  [some (.ifnonnull 7), none, none, some (.iload_n 3), some (.goto 7), none, none, some (.aload_n 2), some (.getfield 410), none, none, some (.ireturn)]]
theorem q_code144_ok : q_dec prog_1_method_42_code q_code144 := f_all2_ok (by decide +kernel)
def q_code145 : List (List (Option Instr)) := [[some (.aload_n 0), some (.iload_n 1), some (.invokevirtual 71), none, none, some (.astore_n 2), some (.aload_n 2), some (.invokestatic 406), none, none, some (.istore_n 3), some (.iload_n 3), some (.ifCond .ne 7), none, none, some (.aload_n 2)],
  [some (.ifnonnull 7), none, none, some (.iload_n 3), some (.goto 7), none, none, some (.aload_n 2), some (.getfield 413), none, none, some (.ireturn)]]
theorem q_code145_ok : q_dec prog_1_method_43_code q_code145 := f_all2_ok (by decide +kernel)
def q_code146 : List (List (Option Instr)) := [[some (.aload_n 0), some (.ifnull 19), none, none, some (.iload_n 1), some (.ifCond .lt 15), none, none, some (.iload_n 1), some (.aload_n 0), some (.arraylength), some (.if_icmp .ge 9), none, none, some (.aload_n 0), some (.iload_n 1)],
  [some (.iaload), some (.goto 4), none, none, some (.iconst 0), some (.ireturn)]]
theorem q_code146_ok : q_dec prog_1_method_44_code q_code146 := f_all2_ok (by decide +kernel)
def q_code147 : List (List (Option Instr)) := [[some (.aload_n 0), some (.ifnull 17), none, none, some (.iload_n 1), some (.ifCond .lt 13), none, none, some (.iload_n 1), some (.aload_n 0), some (.arraylength), some (.if_icmp .ge 7), none, none, some (.aload_n 0), some (.iload_n 1)],
  [some (.iload_n 2), some (.iastore), some (.return_)]]
theorem q_code147_ok : q_dec prog_1_method_45_code q_code147 := f_all2_ok (by decide +kernel)
def q_code148 : List (List (Option Instr)) := [[some (.aload_n 0), some (.ifnull 23), none, none, some (.aload_n 1), some (.ifnull 19), none, none, some (.aload_n 0), some (.arraylength), some (.aload_n 1), some (.arraylength), some (.if_icmp .gt 12), none, none, some (.aload_n 0)],
  [some (.iconst 0), some (.aload_n 1), some (.iconst 0), some (.aload_n 0), some (.arraylength), some (.invokestatic 400), none, none, some (.return_)]]
theorem q_code148_ok : q_dec prog_1_method_46_code q_code148 := f_all2_ok (by decide +kernel)
def q_code149 : List (List (Option Instr)) := [[some (.iload_n 1), some (.ifCond .lt 21), none, none, some (.iload_n 1), some (.aload_n 0), some (.getfield 12), none, none, some (.getfield 87), none, none, some (.getfield 345), none, none, some (.if_icmp .ge 7)],
  [none, none, some (.iconst 1), some (.goto 4), none, none, some (.iconst 0), some (.ireturn)]]
theorem q_code149_ok : q_dec prog_1_method_47_code q_code149 := f_all2_ok (by decide +kernel)
def q_code150 : List (List (Option Instr)) := [[some (.aload_n 0), some (.getfield 12), none, none, some (.getfield 87), none, none, some (.getfield 91), none, none, some (.iload_n 1), some (.invokestatic 96), none, none, some (.iload_n 2), some (.if_icmp .ne 7)],
  [none, none, some (.iconst 1), some (.goto 4), none, none, some (.iconst 0), some (.ireturn)]]
theorem q_code150_ok : q_dec prog_1_method_48_code q_code150 := f_all2_ok (by decide +kernel)
def q_code151 : List (List (Option Instr)) := [[some (.iload_n 0), some (.ifCond .lt 13), none, none, some (.iload_n 0), some (.bipush 12), none, some (.if_icmp .ge 7), none, none, some (.iconst 1), some (.goto 4), none, none, some (.iconst 0), some (.ireturn)]]
theorem q_code151_ok : q_dec prog_1_method_49_code q_code151 := f_all2_ok (by decide +kernel)
def q_code152 : List (List (Option Instr)) := [[some (.iload_n 0), some (.ifCond .lt 13), none, none, some (.iload_n 0), some (.bipush 10), none, some (.if_icmp .ge 7), none, none, some (.iconst 1), some (.goto 4), none, none, some (.iconst 0), some (.ireturn)]]
theorem q_code152_ok : q_dec prog_1_method_50_code q_code152 := f_all2_ok (by decide +kernel)
def q_code153 : List (List (Option Instr)) := [[some (.iload_n 0), some (.ifCond .lt 25), none, none, some (.iload_n 0), some (.bipush 100), none, some (.idiv), some (.bipush 20), none, some (.if_icmp .ge 16), none, none, some (.iload_n 0), some (.bipush 100), none],
  [some (.irem), some (.bipush 12), none, some (.if_icmp .ge 7), none, none, some (.iconst 1), some (.goto 4), none, none, some (.iconst 0), some (.ireturn)]]
theorem q_code153_ok : q_dec prog_1_method_51_code q_code153 := f_all2_ok (by decide +kernel)
def q_code154 : List (List (Option Instr)) := [[some (.iload_n 1), some (.ifCond .lt 21), none, none, some (.iload_n 1), some (.aload_n 0), some (.getfield 25), none, none, some (.arraylength), some (.if_icmp .ge 12), none, none, some (.aload_n 0), some (.getfield 25), none],
  [none, some (.iload_n 1), some (.aaload), some (.goto 4), none, none, some (.aconst_null), some (.areturn)]]
theorem q_code154_ok : q_dec prog_1_method_52_code q_code154 := f_all2_ok (by decide +kernel)
def q_code155 : List (List (Option Instr)) := [[some (.iload_n 1), some (.ifCond .lt 19), none, none, some (.iload_n 1), some (.aload_n 0), some (.getfield 12), none, none, some (.getfield 416), none, none, some (.arraylength), some (.if_icmp .ge 7), none, none],
  [some (.iconst 1), some (.goto 4), none, none, some (.iconst 0), some (.istore_n 2), some (.iload_n 2), some (.ifCond .eq 24), none, none, some (.aload_n 0), some (.iload_n 1), some (.iconst 3), some (.invokevirtual 118), none, none],
  [some (.ifCond .eq 15), none, none, some (.aload_n 0), some (.getfield 12), none, none, some (.getfield 416), none, none, some (.iload_n 1), some (.aaload), some (.goto 4), none, none, some (.aconst_null)],
  [some (.areturn)]]
theorem q_code155_ok : q_dec prog_1_method_53_code q_code155 := f_all2_ok (by decide +kernel)
def q_code156 : List (List (Option Instr)) := [[some (.aload_n 0), some (.ifnonnull 5), none, none, some (.iconst (-1)), some (.ireturn), some (.aload_n 0), some (.invokevirtual 390), none, none, some (.ifCond .eq 6), none, none, some (.bipush (-11)), none, some (.ireturn)],
  [some (.aload_n 0), some (.getfield 382), none, none, some (.ifCond .eq 20), none, none, some (.iload_n 1), some (.iconst (-1)), some (.if_icmp .eq 11), none, none, some (.iload_n 1), some (.aload_n 0), some (.getfield 394), none],
  [none, some (.if_icmp .ne 7), none, none, some (.iconst 0), some (.goto 5), none, none, some (.bipush (-12)), none, some (.ireturn)]]
theorem q_code156_ok : q_dec prog_1_method_54_code q_code156 := f_all2_ok (by decide +kernel)
def q_code157 : List (List (Option Instr)) := [[some (.aload_n 0), some (.ifnonnull 5), none, none, some (.iconst (-1)), some (.ireturn), some (.aload_n 0), some (.invokevirtual 390), none, none, some (.ifCond .eq 6), none, none, some (.bipush (-11)), none, some (.ireturn)],
  [some (.aload_n 0), some (.getfield 420), none, none, some (.ifCond .eq 7), none, none, some (.iconst 0), some (.goto 5), none, none, some (.bipush (-12)), none, some (.ireturn)]]
theorem q_code157_ok : q_dec prog_1_method_55_code q_code157 := f_all2_ok (by decide +kernel)
def q_code158 : List (List (Option Instr)) := [[some (.aload_n 0), some (.getfield 42), none, none, some (.iload_n 1), some (.invokevirtual 106), none, none, some (.aload_n 0), some (.getfield 42), none, none, some (.invokevirtual 423), none, none, some (.aload_n 0)],
  [some (.getfield 42), none, none, some (.iload_n 2), some (.iload_n 2), some (.invokevirtual 426), none, none, some (.aload_n 0), some (.getfield 42), none, none, some (.iload_n 2), some (.invokevirtual 173), none, none],
  [some (.ireturn)]]
theorem q_code158_ok : q_dec prog_1_method_56_code q_code158 := f_all2_ok (by decide +kernel)
def q_code159 : List (List (Option Instr)) := [[some (.aload_n 0), some (.getfield 12), none, none, some (.getfield 225), none, none, some (.iload_n 3), some (.aload_n 0), some (.getfield 67), none, none, some (.invokevirtual 249), none, none, some (.aload_n 0)],
  [some (.getfield 42), none, none, some (.iload_n 1), some (.invokevirtual 106), none, none, some (.aload_n 0), some (.getfield 42), none, none, some (.aload_n 0), some (.getfield 67), none, none, some (.aload_n 0)],
  [some (.getfield 12), none, none, some (.getfield 225), none, none, some (.iload_n 2), some (.bipush 12), none, some (.imul), some (.iload_n 3), some (.iadd), some (.invokevirtual 267), none, none, some (.invokevirtual 429)],
  [none, none, some (.aload_n 0), some (.getfield 42), none, none, some (.invokevirtual 164), none, none, some (.aload_n 0), some (.getfield 42), none, none, some (.getfield 167), none, none],
  [some (.ireturn)]]
theorem q_code159_ok : q_dec prog_1_method_57_code q_code159 := f_all2_ok (by decide +kernel)
def q_code160 : List (List (Option Instr)) := [[some (.aload_n 0), some (.getfield 42), none, none, some (.iload_n 1), some (.invokevirtual 106), none, none, some (.aload_n 0), some (.getfield 42), none, none, some (.iload_n 2), some (.invokevirtual 433), none, none],
  [some (.aload_n 0), some (.getfield 42), none, none, some (.invokevirtual 164), none, none, some (.aload_n 0), some (.getfield 42), none, none, some (.getfield 167), none, none, some (.ireturn)]]
theorem q_code160_ok : q_dec prog_1_method_58_code q_code160 := f_all2_ok (by decide +kernel)
def q_code161 : List (List (Option Instr)) := [[some (.aload_n 0), some (.iload_n 1), some (.invokevirtual 71), none, none, some (.astore_n 3), some (.iload_n 2), some (.ifCond .lt 10), none, none, some (.iload_n 2), some (.ldc_w 436), none, none, some (.if_icmp .le 5), none],
  [none, some (.iconst (-1)), some (.ireturn), some (.aload_n 3), some (.iconst 1), some (.invokestatic 75), none, none, some (.istore 4), none, some (.iload 4), none, some (.ifCond .ne 7), none, none, some (.aload_n 3)],
  [some (.ifnonnull 6), none, none, some (.iload 4), none, some (.ireturn), some (.aload_n 3), some (.invokestatic 437), none, none, some (.ifCond .ne 6), none, none, some (.bipush (-13)), none, some (.ireturn)],
  [some (.aload_n 0), some (.getfield 56), none, none, some (.aload_n 3), some (.iload_n 2), some (.sipush 10000), none, none, some (.idiv), some (.iload_n 2), some (.sipush 10000), none, none, some (.irem), some (.invokevirtual 440)],
  [none, none, some (.iconst 0), some (.ireturn)]]
theorem q_code161_ok : q_dec prog_1_method_59_code q_code161 := f_all2_ok (by decide +kernel)
def q_code162 : List (List (Option Instr)) := [[some (.aload_n 0), some (.getfield 261), none, none, some (.iconst 1), some (.if_icmp .lt 12), none, none, some (.aload_n 0), some (.getfield 261), none, none, some (.bipush 30), none, some (.if_icmp .le 5), none],
  [none, some (.iconst 0), some (.ireturn), some (.iconst 0), some (.istore_n 1), some (.iload_n 1), some (.aload_n 0), some (.getfield 261), none, none, some (.if_icmp .ge 31), none, none, some (.aload_n 0), some (.getfield 374), none],
  [none, some (.iload_n 1), some (.invokestatic 96), none, none, some (.istore_n 2), some (.iload_n 2), some (.ifCond .lt 10), none, none, some (.iload_n 2), some (.sipush 999), none, none, some (.if_icmp .le 5), none],
  [none, some (.iconst 0), some (.ireturn), some (.iinc 1 1), none, none, some (.goto (-33)), none, none, some (.iconst 1), some (.ireturn)]]
theorem q_code162_ok : q_dec prog_1_method_60_code q_code162 := f_all2_ok (by decide +kernel)
def q_code163 : List (List (Option Instr)) := [[some (.aload_n 1), some (.getfield 261), none, none, some (.iconst 2), some (.if_icmp .lt 12), none, none, some (.aload_n 1), some (.getfield 261), none, none, some (.bipush 8), none, some (.if_icmp .le 5), none],
  [none, some (.iconst 0), some (.ireturn), some (.iconst 0), some (.istore_n 2), some (.iload_n 2), some (.aload_n 1), some (.getfield 261), none, none, some (.if_icmp .ge 46), none, none, some (.aload_n 1), some (.getfield 374), none],
  [none, some (.iload_n 2), some (.invokestatic 96), none, none, some (.istore_n 3), some (.aload_n 0), some (.iload_n 3), some (.invokevirtual 83), none, none, some (.ifCond .eq 21), none, none, some (.aload_n 0), some (.iload_n 3)],
  [some (.iconst 0), some (.invokevirtual 118), none, none, some (.ifCond .eq 12), none, none, some (.aload_n 1), some (.iload_n 3), some (.invokevirtual 443), none, none, some (.iload_n 2), some (.if_icmp .ge 5), none, none],
  [some (.iconst 0), some (.ireturn), some (.iinc 2 1), none, none, some (.goto (-48)), none, none, some (.iconst 1), some (.ireturn)]]
theorem q_code163_ok : q_dec prog_1_method_61_code q_code163 := f_all2_ok (by decide +kernel)
def q_code164 : List (List (Option Instr)) := [[some (.aload_n 0), some (.iload_n 2), some (.invokevirtual 71), none, none, some (.astore_n 3), some (.aload_n 0), some (.iload_n 1), some (.invokevirtual 83), none, none, some (.ifCond .ne 5), none, none, some (.iconst (-1)), some (.ireturn)],
  [some (.aload_n 3), some (.iconst 0), some (.invokestatic 75), none, none, some (.istore 4), none, some (.iload 4), none, some (.ifCond .ne 7), none, none, some (.aload_n 3), some (.ifnonnull 6), none, none],
  [some (.iload 4), none, some (.ireturn), some (.aload_n 3), some (.getfield 261), none, none, some (.iconst 2), some (.irem), some (.ifCond .ne 12), none, none, some (.aload_n 3), some (.getfield 261), none, none],
  [some (.bipush 40), none, some (.if_icmp .le 6), none, none, some (.bipush (-13)), none, some (.ireturn), some (.aload_n 0), some (.getfield 42), none, none, some (.iload_n 1), some (.invokevirtual 106), none, none],
  [some (.aload_n 0), some (.getfield 42), none, none, some (.invokevirtual 423), none, none, some (.aload_n 0), some (.getfield 63), none, none, some (.aload_n 0), some (.getfield 42), none, none, some (.aload_n 3)],
  [some (.invokevirtual 446), none, none, some (.iconst 0), some (.ireturn)]]
theorem q_code164_ok : q_dec prog_1_method_62_code q_code164 := f_all2_ok (by decide +kernel)
def q_code165 : List (List (Option Instr)) := [[some (.bipush 10), none, some (.iload_n 1), some (.iadd), some (.istore_n 2), some (.aload_n 0), some (.getfield 12), none, none, some (.getfield 87), none, none, some (.getfield 91), none, none, some (.iload_n 1)],
  [some (.invokestatic 96), none, none, some (.istore_n 3), some (.iload_n 3), some (.ifCond .ne 31), none, none, some (.iload_n 2), some (.aload_n 0), some (.getfield 12), none, none, some (.getfield 134), none, none],
  [some (.iload_n 1), some (.aload_n 0), some (.getfield 12), none, none, some (.getfield 87), none, none, some (.getfield 100), none, none, some (.iload_n 1), some (.invokestatic 96), none, none, some (.invokevirtual 450)],
  [none, none, some (.iadd), some (.ireturn), some (.iload_n 3), some (.iconst 3), some (.if_icmp .ne 27), none, none, some (.aload_n 0), some (.iload_n 1), some (.invokevirtual 191), none, none, some (.astore 4), none],
  [some (.aload 4), none, some (.ifnonnull 7), none, none, some (.iload_n 2), some (.goto 10), none, none, some (.iload_n 2), some (.aload 4), none, some (.getfield 198), none, none, some (.iadd)],
  [some (.ireturn), some (.aload_n 0), some (.getfield 42), none, none, some (.iload_n 1), some (.invokevirtual 106), none, none, some (.iload_n 2), some (.bipush 10), none, some (.aload_n 0), some (.getfield 42), none, none],
  [some (.getfield 110), none, none, some (.imul), some (.iadd), some (.istore 4), none, some (.iload_n 3), some (.iconst 2), some (.if_icmp .ne 10), none, none, some (.iconst 2), some (.iload 4), none, some (.imul)],
  [some (.goto 5), none, none, some (.iload 4), none, some (.ireturn)]]
theorem q_code165_ok : q_dec prog_1_method_63_code q_code165 := f_all2_ok (by decide +kernel)
def q_code166 : List (List (Option Instr)) := [[some (.aload_n 0), some (.iload_n 1), some (.iconst 0), some (.invokevirtual 160), none, none, some (.istore_n 2), some (.aload_n 0), some (.iload_n 1), some (.iconst 3), some (.invokevirtual 118), none, none, some (.ifCond .ne 7), none, none],
  [some (.iload_n 2), some (.ifCond .ne 6), none, none, some (.bipush (-15)), none, some (.ireturn), some (.aload_n 0), some (.iload_n 1), some (.iconst 2), some (.invokevirtual 118), none, none, some (.ifCond .eq 11), none, none],
  [some (.sipush 1000), none, none, some (.iload_n 2), some (.iadd), some (.goto 4), none, none, some (.iload_n 2), some (.ireturn)]]
theorem q_code166_ok : q_dec prog_1_method_64_code q_code166 := f_all2_ok (by decide +kernel)
def q_code167 : List (List (Option Instr)) := [[some (.aload_n 0), some (.invokespecial 1), none, none, some (.aload_n 0), some (.sipush 1330), none, none, some (.newarray .int), none, some (.putfield 9), none, none, some (.aload_n 0), some (.sipush 1330), none],
  [none, some (.newarray .int), none, some (.putfield 13), none, none, some (.aload_n 0), some (.bipush 8), none, some (.newarray .int), none, some (.putfield 16), none, none, some (.aload_n 0), some (.bipush 8)],
  [none, some (.newarray .int), none, some (.putfield 19), none, none, some (.aload_n 0), some (.bipush 8), none, some (.newarray .int), none, some (.putfield 22), none, none, some (.aload_n 0), some (.sipush 960)],
  [none, none, some (.newarray .int), none, some (.putfield 25), none, none, some (.aload_n 0), some (.bipush 8), none, some (.newarray .int), none, some (.putfield 28), none, none, some (.aload_n 0)],
  [some (.bipush 8), none, some (.newarray .int), none, some (.putfield 31), none, none, some (.aload_n 0), some (.bipush 8), none, some (.newarray .int), none, some (.putfield 34), none, none, some (.aload_n 0)],
  [some (.bipush 48), none, some (.newarray .int), none, some (.putfield 37), none, none, some (.aload_n 0), some (.bipush 48), none, some (.newarray .int), none, some (.putfield 40), none, none, some (.aload_n 0)],
  [some (.sipush 1330), none, none, some (.newarray .int), none, some (.putfield 43), none, none, some (.aload_n 0), some (.iconst (-1)), some (.putfield 46), none, none, some (.aload_n 0), some (.iconst (-1)), some (.putfield 50)],
  [none, none, some (.aload_n 0), some (.iconst (-1)), some (.putfield 53), none, none, some (.aload_n 0), some (.sipush 1000), none, none, some (.newarray .int), none, some (.putfield 56), none, none],
  [some (.aload_n 0), some (.bipush 100), none, some (.newarray .int), none, some (.putfield 59), none, none, some (.aload_n 0), some (.sipush 1024), none, none, some (.newarray .int), none, some (.putfield 62), none],
  [none, some (.aload_n 0), some (.sipush 1024), none, none, some (.newarray .int), none, some (.putfield 65), none, none, some (.aload_n 0), some (.sipush 800), none, none, some (.newarray .int), none],
  [some (.putfield 68), none, none, some (.aload_n 0), some (.sipush 403), none, none, some (.newarray .int), none, some (.putfield 71), none, none, some (.aload_n 0), some (.sipush 403), none, none],
  [some (.newarray .int), none, some (.putfield 74), none, none, some (.aload_n 0), some (.sipush 11737), none, none, some (.newarray .int), none, some (.putfield 77), none, none, some (.return_)]]
theorem q_code167_ok : q_dec prog_14_method_1_code q_code167 := f_all2_ok (by decide +kernel)
def q_code168 : List (List (Option Instr)) := [[some (.lload_n 0), some (.lload_n 2), some (.lcmp), some (.ifCond .lt 14), none, none, some (.lload_n 0), some (.lload 4), none, some (.lcmp), some (.ifCond .gt 7), none, none, some (.iconst 1), some (.goto 4), none],
  [none, some (.iconst 0), some (.ireturn)]]
theorem q_code168_ok : q_dec prog_14_method_3_code q_code168 := f_all2_ok (by decide +kernel)
def q_code169 : List (List (Option Instr)) := [[some (.iload_n 1), some (.i2l), some (.lconst 0), some (.aload_n 0), some (.getfield 9), none, none, some (.sipush 1198), none, none, some (.iaload), some (.iconst 1), some (.isub), some (.i2l), some (.invokestatic 83), none],
  [none, some (.ireturn)]]
theorem q_code169_ok : q_dec prog_14_method_4_code q_code169 := f_all2_ok (by decide +kernel)
def q_code170 : List (List (Option Instr)) := [[some (.aload_n 0), some (.getfield 9), none, none, some (.bipush 28), none, some (.iload_n 1), some (.imul), some (.iaload), some (.ireturn)]]
theorem q_code170_ok : q_dec prog_14_method_5_code q_code170 := f_all2_ok (by decide +kernel)
def q_code171 : List (List (Option Instr)) := [[some (.aload_n 0), some (.getfield 9), none, none, some (.bipush 28), none, some (.iload_n 1), some (.imul), some (.iconst 2), some (.iadd), some (.iaload), some (.ireturn)]]
theorem q_code171_ok : q_dec prog_14_method_6_code q_code171 := f_all2_ok (by decide +kernel)
def q_code172 : List (List (Option Instr)) := [[some (.aload_n 0), some (.getfield 9), none, none, some (.bipush 28), none, some (.iload_n 1), some (.imul), some (.iconst 3), some (.iadd), some (.iload_n 2), some (.iadd), some (.iaload), some (.ireturn)]]
theorem q_code172_ok : q_dec prog_14_method_7_code q_code172 := f_all2_ok (by decide +kernel)
def q_code173 : List (List (Option Instr)) := [[some (.iload_n 0), some (.i2l), some (.lconst 0), some (.ldc2_w 87), none, none, some (.invokestatic 83), none, none, some (.ireturn)]]
theorem q_code173_ok : q_dec prog_14_method_8_code q_code173 := f_all2_ok (by decide +kernel)
def q_code174 : List (List (Option Instr)) := [[some (.iload_n 0), some (.iload_n 1), some (.if_icmp .ge 7), none, none, some (.iload_n 0), some (.goto 4), none, none, some (.iload_n 1), some (.ireturn)]]
theorem q_code174_ok : q_dec prog_14_method_9_code q_code174 := f_all2_ok (by decide +kernel)
def q_code175 : List (List (Option Instr)) := [[some (.aload_n 0), some (.iconst 0), some (.putfield 89), none, none, some (.aload_n 0), some (.iconst 0), some (.putfield 92), none, none, some (.aload_n 0), some (.iload_n 1), some (.invokevirtual 95), none, none, some (.return_)]]
theorem q_code175_ok : q_dec prog_14_method_10_code q_code175 := f_all2_ok (by decide +kernel)
def q_code176 : List (List (Option Instr)) := [[some (.aload_n 0), some (.iload_n 1), some (.invokevirtual 99), none, none, some (.ifCond .ne 24), none, none, some (.aload_n 0), some (.getfield 37), none, none, some (.aload_n 0), some (.getfield 89), none, none],
  [some (.iload_n 1), some (.iastore), some (.aload_n 0), some (.dup), some (.getfield 89), none, none, some (.iconst 1), some (.iadd), some (.putfield 89), none, none, some (.return_), some (.aload_n 0), some (.iload_n 1), some (.invokevirtual 99)],
  [none, none, some (.iconst 1), some (.if_icmp .ne 115), none, none, some (.iconst 0), some (.istore_n 2), some (.iload_n 2), some (.aload_n 0), some (.iload_n 1), some (.invokevirtual 103), none, none, some (.if_icmp .ge 34), none],
  [none, some (.aload_n 0), some (.getfield 37), none, none, some (.aload_n 0), some (.getfield 89), none, none, some (.aload_n 0), some (.iload_n 1), some (.iload_n 2), some (.invokevirtual 106), none, none, some (.iastore)],
  [some (.aload_n 0), some (.dup), some (.getfield 89), none, none, some (.iconst 1), some (.iadd), some (.putfield 89), none, none, some (.iinc 2 1), none, none, some (.goto (-37)), none, none],
  [some (.iconst 0), some (.istore_n 2), some (.iload_n 2), some (.aload_n 0), some (.getfield 9), none, none, some (.bipush 28), none, some (.iload_n 1), some (.imul), some (.bipush 19), none, some (.iadd), some (.iaload), some (.if_icmp .ge 54)],
  [none, none, some (.aload_n 0), some (.getfield 9), none, none, some (.bipush 28), none, some (.iload_n 1), some (.imul), some (.bipush 20), none, some (.iadd), some (.iload_n 2), some (.iadd), some (.iaload)],
  [some (.ifCond .ne 6), none, none, some (.goto 28), none, none, some (.aload_n 0), some (.getfield 40), none, none, some (.aload_n 0), some (.getfield 92), none, none, some (.bipush 8), none],
  [some (.iload_n 1), some (.imul), some (.iload_n 2), some (.iadd), some (.iastore), some (.aload_n 0), some (.dup), some (.getfield 92), none, none, some (.iconst 1), some (.iadd), some (.putfield 92), none, none, some (.iinc 2 1)],
  [none, none, some (.goto (-64)), none, none, some (.return_), some (.iconst 0), some (.istore_n 2), some (.iload_n 2), some (.aload_n 0), some (.iload_n 1), some (.invokevirtual 103), none, none, some (.if_icmp .ge 19), none],
  [none, some (.aload_n 0), some (.aload_n 0), some (.iload_n 1), some (.iload_n 2), some (.invokevirtual 106), none, none, some (.invokevirtual 95), none, none, some (.iinc 2 1), none, none, some (.goto (-22)), none],
  [none, some (.return_)]]
theorem q_code176_ok : q_dec prog_14_method_11_code q_code176 := f_all2_ok (by decide +kernel)
def q_code177 : List (List (Option Instr)) := [[some (.aload_n 0), some (.getfield 110), none, none, some (.aload_n 0), some (.getfield 113), none, none, some (.if_icmp .ge 20), none, none, some (.aload_n 0), some (.getfield 25), none, none, some (.aload_n 0)],
  [some (.getfield 116), none, none, some (.aload_n 0), some (.getfield 110), none, none, some (.iadd), some (.iaload), some (.goto 6), none, none, some (.sipush (-1000)), none, none, some (.ireturn)]]
theorem q_code177_ok : q_dec prog_14_method_12_code q_code177 := f_all2_ok (by decide +kernel)
def q_code178 : List (List (Option Instr)) := [[some (.aload_n 0), some (.invokevirtual 119), none, none, some (.iload_n 1), some (.if_icmp .eq 5), none, none, some (.iconst 0), some (.ireturn), some (.aload_n 0), some (.dup), some (.getfield 110), none, none, some (.iconst 1)],
  [some (.iadd), some (.putfield 110), none, none, some (.iconst 1), some (.ireturn)]]
theorem q_code178_ok : q_dec prog_14_method_13_code q_code178 := f_all2_ok (by decide +kernel)
def q_code179 : List (List (Option Instr)) := [[some (.aload_n 0), some (.invokevirtual 119), none, none, some (.i2l), some (.ldc2_w 123), none, none, some (.ldc2_w 125), none, none, some (.invokestatic 83), none, none, some (.ifCond .ne 5), none],
  [none, some (.iconst 0), some (.ireturn), some (.aload_n 0), some (.aload_n 0), some (.invokevirtual 119), none, none, some (.bipush 48), none, some (.isub), some (.putfield 127), none, none, some (.aload_n 0), some (.dup)],
  [some (.getfield 110), none, none, some (.iconst 1), some (.iadd), some (.putfield 110), none, none, some (.aload_n 0), some (.getfield 127), none, none, some (.ifCond .le 49), none, none, some (.aload_n 0)],
  [some (.invokevirtual 119), none, none, some (.i2l), some (.ldc2_w 123), none, none, some (.ldc2_w 125), none, none, some (.invokestatic 83), none, none, some (.ifCond .eq 32), none, none],
  [some (.aload_n 0), some (.bipush 10), none, some (.aload_n 0), some (.getfield 127), none, none, some (.imul), some (.aload_n 0), some (.invokevirtual 119), none, none, some (.iadd), some (.bipush 48), none, some (.isub)],
  [some (.putfield 127), none, none, some (.aload_n 0), some (.dup), some (.getfield 110), none, none, some (.iconst 1), some (.iadd), some (.putfield 110), none, none, some (.iconst 1), some (.ireturn)]]
theorem q_code179_ok : q_dec prog_14_method_14_code q_code179 := f_all2_ok (by decide +kernel)
def q_code180 : List (List (Option Instr)) := [[some (.aload_n 0), some (.invokevirtual 130), none, none, some (.ifCond .ne 5), none, none, some (.iconst 0), some (.ireturn), some (.aload_n 0), some (.bipush 32), none, some (.invokevirtual 134), none, none, some (.ifCond .eq 12)],
  [none, none, some (.aload_n 0), some (.invokevirtual 130), none, none, some (.ifCond .ne (-13)), none, none, some (.iconst 0), some (.ireturn), some (.iconst 1), some (.ireturn)]]
theorem q_code180_ok : q_dec prog_14_method_15_code q_code180 := f_all2_ok (by decide +kernel)
def q_code181 : List (List (Option Instr)) := [[some (.aload_n 0), some (.invokevirtual 130), none, none, some (.ifCond .eq 23), none, none, some (.aload_n 0), some (.bipush 47), none, some (.invokevirtual 134), none, none, some (.ifCond .eq 14), none, none],
  [some (.aload_n 0), some (.invokevirtual 130), none, none, some (.ifCond .eq 7), none, none, some (.iconst 1), some (.goto 4), none, none, some (.iconst 0), some (.ireturn)]]
theorem q_code181_ok : q_dec prog_14_method_16_code q_code181 := f_all2_ok (by decide +kernel)
def q_code182 : List (List (Option Instr)) := [[some (.aload_n 0), some (.bipush 91), none, some (.invokevirtual 134), none, none, some (.ifCond .eq 27), none, none, some (.aload_n 0), some (.invokevirtual 138), none, none, some (.ifCond .eq 16), none, none],
  [some (.aload_n 0), some (.bipush 93), none, some (.invokevirtual 134), none, none, some (.ifCond .eq 7), none, none, some (.iconst 1), some (.goto 11), none, none, some (.iconst 0), some (.goto 7), none],
  [none, some (.aload_n 0), some (.invokevirtual 130), none, none, some (.ireturn)]]
theorem q_code182_ok : q_dec prog_14_method_17_code q_code182 := f_all2_ok (by decide +kernel)
def q_code183 : List (List (Option Instr)) := [[some (.aload_n 0), some (.invokevirtual 119), none, none, some (.istore_n 1), some (.iload_n 1), some (.bipush 99), none, some (.if_icmp .eq 23), none, none, some (.iload_n 1), some (.bipush 114), none, some (.if_icmp .eq 17), none],
  [none, some (.iload_n 1), some (.bipush 102), none, some (.if_icmp .eq 11), none, none, some (.iload_n 1), some (.bipush 98), none, some (.if_icmp .eq 5), none, none, some (.iconst 0), some (.ireturn), some (.aload_n 0)],
  [some (.dup), some (.getfield 110), none, none, some (.iconst 1), some (.iadd), some (.putfield 110), none, none, some (.iload_n 1), some (.bipush 99), none, some (.if_icmp .ne 30), none, none, some (.aload_n 0)],
  [some (.invokevirtual 141), none, none, some (.ifCond .ne 5), none, none, some (.iconst 0), some (.ireturn), some (.aload_n 0), some (.bipush 32), none, some (.invokevirtual 134), none, none, some (.ifCond .eq 70), none],
  [none, some (.aload_n 0), some (.invokevirtual 141), none, none, some (.ifCond .ne (-13)), none, none, some (.iconst 0), some (.ireturn), some (.iload_n 1), some (.bipush 114), none, some (.if_icmp .ne 30), none, none],
  [some (.aload_n 0), some (.invokevirtual 144), none, none, some (.ifCond .ne 5), none, none, some (.iconst 0), some (.ireturn), some (.aload_n 0), some (.bipush 32), none, some (.invokevirtual 134), none, none, some (.ifCond .eq 37)],
  [none, none, some (.aload_n 0), some (.invokevirtual 144), none, none, some (.ifCond .ne (-13)), none, none, some (.iconst 0), some (.ireturn), some (.iload_n 1), some (.bipush 102), none, some (.if_icmp .ne 13), none],
  [none, some (.aload_n 0), some (.invokevirtual 138), none, none, some (.ifCond .ne 15), none, none, some (.goto 10), none, none, some (.aload_n 0), some (.invokevirtual 130), none, none, some (.ifCond .ne 5)],
  [none, none, some (.iconst 0), some (.ireturn), some (.aload_n 0), some (.bipush 59), none, some (.invokevirtual 134), none, none, some (.ireturn)]]
theorem q_code183_ok : q_dec prog_14_method_18_code q_code183 := f_all2_ok (by decide +kernel)
def q_code184 : List (List (Option Instr)) := [[some (.iconst 0), some (.istore_n 2), some (.iconst 1), some (.istore_n 3), some (.aload_n 0), some (.dup), some (.getfield 110), none, none, some (.iconst 1), some (.iadd), some (.putfield 110), none, none, some (.iload_n 3), some (.ifCond .eq 13)],
  [none, none, some (.iload_n 2), some (.bipush 6), none, some (.if_icmp .ge 7), none, none, some (.iconst 1), some (.goto 4), none, none, some (.iconst 0), some (.istore_n 3), some (.aload_n 0), some (.invokevirtual 130)],
  [none, none, some (.istore 4), none, some (.aload_n 0), some (.getfield 127), none, none, some (.istore 5), none, some (.aload_n 0), some (.dup), some (.getfield 110), none, none, some (.iconst 1)],
  [some (.iadd), some (.putfield 110), none, none, some (.aload_n 0), some (.invokevirtual 130), none, none, some (.istore 4), none, some (.iload_n 3), some (.ifCond .ne 6), none, none, some (.goto 39), none],
  [none, some (.aload_n 0), some (.getfield 9), none, none, some (.bipush 28), none, some (.iload_n 1), some (.imul), some (.iconst 3), some (.iadd), some (.iload_n 2), some (.iadd), some (.iload 5), none, some (.iastore)],
  [some (.aload_n 0), some (.getfield 9), none, none, some (.bipush 28), none, some (.iload_n 1), some (.imul), some (.bipush 9), none, some (.iadd), some (.iload_n 2), some (.iadd), some (.aload_n 0), some (.getfield 127), none],
  [none, some (.iastore), some (.iinc 2 1), none, none, some (.aload_n 0), some (.invokevirtual 119), none, none, some (.bipush 32), none, some (.if_icmp .eq (-103)), none, none, some (.aload_n 0), some (.getfield 9)],
  [none, none, some (.bipush 28), none, some (.iload_n 1), some (.imul), some (.iconst 2), some (.iadd), some (.iload_n 2), some (.iastore), some (.iload_n 3), some (.ifCond .eq 56), none, none, some (.iload_n 2), some (.iconst 1)],
  [some (.if_icmp .le 51), none, none, some (.aload_n 0), some (.iload_n 1), some (.iconst 0), some (.invokevirtual 106), none, none, some (.ifCond .ne 42), none, none, some (.aload_n 0), some (.getfield 9), none, none],
  [some (.bipush 28), none, some (.iload_n 1), some (.imul), some (.bipush 8), none, some (.iadd), some (.iload_n 2), some (.iadd), some (.iaload), some (.ifCond .ne 25), none, none, some (.aload_n 0), some (.getfield 9), none],
  [none, some (.bipush 28), none, some (.iload_n 1), some (.imul), some (.iconst 2), some (.iadd), some (.iload_n 2), some (.iadd), some (.iaload), some (.bipush 60), none, some (.if_icmp .gt 7), none, none, some (.iconst 1)],
  [some (.goto 4), none, none, some (.iconst 0), some (.istore_n 3), some (.iconst 1), some (.istore 4), none, some (.iload 4), none, some (.iload_n 2), some (.if_icmp .ge 71), none, none, some (.iload_n 3), some (.ifCond .eq 59)],
  [none, none, some (.aload_n 0), some (.iload_n 1), some (.iload 4), none, some (.invokevirtual 106), none, none, some (.aload_n 0), some (.iload_n 1), some (.iload 4), none, some (.iconst 1), some (.isub), some (.invokevirtual 106)],
  [none, none, some (.if_icmp .le 40), none, none, some (.aload_n 0), some (.getfield 9), none, none, some (.bipush 28), none, some (.iload_n 1), some (.imul), some (.bipush 9), none, some (.iadd)],
  [some (.iload 4), none, some (.iadd), some (.iaload), some (.aload_n 0), some (.getfield 9), none, none, some (.bipush 28), none, some (.iload_n 1), some (.imul), some (.bipush 8), none, some (.iadd), some (.iload 4)],
  [none, some (.iadd), some (.iaload), some (.if_icmp .ge 7), none, none, some (.iconst 1), some (.goto 4), none, none, some (.iconst 0), some (.istore_n 3), some (.iinc 4 1), none, none, some (.goto (-71))],
  [none, none, some (.iload_n 3), some (.ireturn)]]
theorem q_code184_ok : q_dec prog_14_method_19_code q_code184 := f_all2_ok (by decide +kernel)
def q_code185 : List (List (Option Instr)) := [[some (.iload_n 1), some (.iload_n 2), some (.if_icmp .ge 34), none, none, some (.iload_n 3), some (.aload_n 0), some (.iload_n 1), some (.invokevirtual 99), none, none, some (.ishr), some (.iconst 1), some (.iand), some (.iconst 1), some (.if_icmp .ne 21)],
  [none, none, some (.aload_n 0), some (.getfield 9), none, none, some (.bipush 28), none, some (.iload_n 1), some (.imul), some (.iconst 1), some (.iadd), some (.iaload), some (.ifCond .ne 7), none, none],
  [some (.iconst 1), some (.goto 4), none, none, some (.iconst 0), some (.ireturn)]]
theorem q_code185_ok : q_dec prog_14_method_20_code q_code185 := f_all2_ok (by decide +kernel)
def q_code186 : List (List (Option Instr)) := [[some (.iconst 0), some (.istore_n 2), some (.iconst 0), some (.istore_n 3), some (.iconst 1), some (.istore 4), none, some (.aload_n 0), some (.dup), some (.getfield 110), none, none, some (.iconst 1), some (.iadd), some (.putfield 110), none],
  [none, some (.aload_n 0), some (.bipush 91), none, some (.invokevirtual 134), none, none, some (.istore 5), none, some (.iconst 1), some (.istore 6), none, some (.iload 6), none, some (.ifCond .eq 121), none],
  [none, some (.aload_n 0), some (.invokevirtual 130), none, none, some (.istore 7), none, some (.iload 4), none, some (.ifCond .eq 26), none, none, some (.iload_n 2), some (.bipush 8), none, some (.if_icmp .ge 20)],
  [none, none, some (.aload_n 0), some (.aload_n 0), some (.getfield 127), none, none, some (.iload_n 1), some (.iconst 1), some (.invokevirtual 147), none, none, some (.ifCond .eq 7), none, none, some (.iconst 1)],
  [some (.goto 4), none, none, some (.iconst 0), some (.istore 4), none, some (.iload 4), none, some (.ifCond .eq 55), none, none, some (.aload_n 0), some (.getfield 9), none, none, some (.bipush 28)],
  [none, some (.iload_n 1), some (.imul), some (.iconst 3), some (.iadd), some (.iload_n 2), some (.iadd), some (.aload_n 0), some (.getfield 127), none, none, some (.iastore), some (.aload_n 0), some (.getfield 9), none, none],
  [some (.bipush 28), none, some (.iload_n 1), some (.imul), some (.bipush 11), none, some (.iadd), some (.iload_n 2), some (.iadd), some (.iload_n 3), some (.iastore), some (.aload_n 0), some (.getfield 9), none, none, some (.bipush 28)],
  [none, some (.aload_n 0), some (.getfield 127), none, none, some (.imul), some (.iconst 1), some (.iadd), some (.iload_n 1), some (.iconst 1), some (.iadd), some (.iastore), some (.iinc 2 1), none, none, some (.iload 5)],
  [none, some (.ifCond .eq 16), none, none, some (.aload_n 0), some (.bipush 32), none, some (.invokevirtual 134), none, none, some (.ifCond .eq 7), none, none, some (.iconst 1), some (.goto 4), none],
  [none, some (.iconst 0), some (.istore 6), none, some (.goto (-120)), none, none, some (.iload 5), none, some (.ifCond .eq 13), none, none, some (.aload_n 0), some (.dup), some (.getfield 110), none],
  [none, some (.iconst 1), some (.iadd), some (.putfield 110), none, none, some (.iload 4), none, some (.ifCond .eq 27), none, none, some (.aload_n 0), some (.getfield 9), none, none, some (.bipush 28)],
  [none, some (.iload_n 1), some (.imul), some (.bipush 20), none, some (.iadd), some (.iload_n 3), some (.iadd), some (.iload 5), none, some (.ifCond .eq 7), none, none, some (.iconst 1), some (.goto 4), none],
  [none, some (.iconst 0), some (.iastore), some (.iinc 3 1), none, none, some (.aload_n 0), some (.invokevirtual 119), none, none, some (.bipush 32), none, some (.if_icmp .eq (-197)), none, none, some (.aload_n 0)],
  [some (.getfield 9), none, none, some (.bipush 28), none, some (.iload_n 1), some (.imul), some (.iconst 2), some (.iadd), some (.iload_n 2), some (.iastore), some (.aload_n 0), some (.getfield 9), none, none, some (.bipush 28)],
  [none, some (.iload_n 1), some (.imul), some (.bipush 19), none, some (.iadd), some (.iload_n 3), some (.bipush 8), none, some (.invokestatic 151), none, none, some (.iastore), some (.iload 4), none, some (.ireturn)]]
theorem q_code186_ok : q_dec prog_14_method_21_code q_code186 := f_all2_ok (by decide +kernel)
def q_code187 : List (List (Option Instr)) := [[some (.iconst 0), some (.istore 4), none, some (.iconst 1), some (.istore 5), none, some (.aload_n 0), some (.dup), some (.getfield 110), none, none, some (.iconst 1), some (.iadd), some (.putfield 110), none, none],
  [some (.aload_n 0), some (.invokevirtual 130), none, none, some (.istore 6), none, some (.iload 5), none, some (.ifCond .eq 26), none, none, some (.iload 4), none, some (.iload_n 2), some (.if_icmp .ge 20), none],
  [none, some (.aload_n 0), some (.aload_n 0), some (.getfield 127), none, none, some (.iload_n 1), some (.iload_n 3), some (.invokevirtual 147), none, none, some (.ifCond .eq 7), none, none, some (.iconst 1), some (.goto 4)],
  [none, none, some (.iconst 0), some (.istore 5), none, some (.iload 5), none, some (.ifCond .ne 6), none, none, some (.goto 41), none, none, some (.aload_n 0), some (.getfield 9), none],
  [none, some (.bipush 28), none, some (.iload_n 1), some (.imul), some (.iconst 3), some (.iadd), some (.iload 4), none, some (.iadd), some (.aload_n 0), some (.getfield 127), none, none, some (.iastore), some (.aload_n 0)],
  [some (.getfield 9), none, none, some (.bipush 28), none, some (.aload_n 0), some (.getfield 127), none, none, some (.imul), some (.iconst 1), some (.iadd), some (.iload_n 1), some (.iconst 1), some (.iadd), some (.iastore)],
  [some (.iinc 4 1), none, none, some (.aload_n 0), some (.invokevirtual 119), none, none, some (.bipush 32), none, some (.if_icmp .eq (-99)), none, none, some (.aload_n 0), some (.getfield 9), none, none],
  [some (.bipush 28), none, some (.iload_n 1), some (.imul), some (.iconst 2), some (.iadd), some (.iload 4), none, some (.iastore), some (.iload 5), none, some (.ireturn)]]
theorem q_code187_ok : q_dec prog_14_method_22_code q_code187 := f_all2_ok (by decide +kernel)
def q_code188 : List (List (Option Instr)) := [[some (.aload_n 0), some (.getfield 9), none, none, some (.sipush 1198), none, none, some (.iaload), some (.istore_n 1), some (.iload_n 1), some (.bipush 40), none, some (.if_icmp .ne 5), none, none, some (.iconst 0)],
  [some (.ireturn), some (.iconst 0), some (.istore_n 2), some (.iload_n 2), some (.bipush 28), none, some (.if_icmp .ge 21), none, none, some (.aload_n 0), some (.getfield 9), none, none, some (.bipush 28), none, some (.iload_n 1)],
  [some (.imul), some (.iload_n 2), some (.iadd), some (.iconst 0), some (.iastore), some (.iinc 2 1), none, none, some (.goto (-21)), none, none, some (.aload_n 0), some (.invokevirtual 119), none, none, some (.istore_n 2)],
  [some (.iload_n 2), some (.bipush 99), none, some (.if_icmp .ne 7), none, none, some (.iconst 0), some (.goto 24), none, none, some (.iload_n 2), some (.bipush 114), none, some (.if_icmp .ne 7), none, none],
  [some (.iconst 1), some (.goto 14), none, none, some (.iload_n 2), some (.bipush 102), none, some (.if_icmp .ne 7), none, none, some (.iconst 2), some (.goto 4), none, none, some (.iconst 3), some (.istore_n 3)],
  [some (.aload_n 0), some (.getfield 9), none, none, some (.bipush 28), none, some (.iload_n 1), some (.imul), some (.iload_n 3), some (.iastore), some (.iload_n 3), some (.ifCond .ne 11), none, none, some (.aload_n 0), some (.iload_n 1)],
  [some (.invokevirtual 154), none, none, some (.goto 40), none, none, some (.iload_n 3), some (.iconst 1), some (.if_icmp .ne 11), none, none, some (.aload_n 0), some (.iload_n 1), some (.invokevirtual 157), none, none],
  [some (.goto 27), none, none, some (.iload_n 3), some (.iconst 2), some (.if_icmp .ne 14), none, none, some (.aload_n 0), some (.iload_n 1), some (.bipush 6), none, some (.iconst 3), some (.invokevirtual 160), none, none],
  [some (.goto 11), none, none, some (.aload_n 0), some (.iload_n 1), some (.iconst 1), some (.bipush 7), none, some (.invokevirtual 160), none, none, some (.istore 4), none, some (.iload_n 3), some (.ifCond .ne 17), none],
  [none, some (.aload_n 0), some (.getfield 9), none, none, some (.bipush 28), none, some (.iload_n 1), some (.imul), some (.bipush 15), none, some (.iadd), some (.bipush 100), none, some (.iastore), some (.iload_n 3)],
  [some (.iconst 3), some (.if_icmp .ne 28), none, none, some (.aload_n 0), some (.getfield 9), none, none, some (.bipush 28), none, some (.iload_n 1), some (.imul), some (.iconst 5), some (.iadd), some (.iconst 5), some (.iastore)],
  [some (.aload_n 0), some (.getfield 9), none, none, some (.bipush 28), none, some (.iload_n 1), some (.imul), some (.bipush 6), none, some (.iadd), some (.iconst 1), some (.iastore), some (.aload_n 0), some (.dup), some (.getfield 110)],
  [none, none, some (.iconst 1), some (.iadd), some (.putfield 110), none, none, some (.aload_n 0), some (.getfield 9), none, none, some (.sipush 1198), none, none, some (.dup2), some (.iaload)],
  [some (.iconst 1), some (.iadd), some (.iastore), some (.iload 4), none, some (.ireturn)]]
theorem q_code188_ok : q_dec prog_14_method_23_code q_code188 := f_all2_ok (by decide +kernel)
def q_code189 : List (List (Option Instr)) := [[some (.iload_n 1), some (.invokestatic 163), none, none, some (.ifCond .ne 7), none, none, some (.iconst (-1)), some (.goto 47), none, none, some (.aload_n 0), some (.getfield 16), none, none, some (.iload_n 1)],
  [some (.iaload), some (.ifCond .ne 8), none, none, some (.bipush (-11)), none, some (.goto 33), none, none, some (.aload_n 0), some (.getfield 16), none, none, some (.iload_n 1), some (.iaload), some (.iconst 2)],
  [some (.if_icmp .ne 17), none, none, some (.iload_n 2), some (.ifCond .lt 18), none, none, some (.aload_n 0), some (.getfield 19), none, none, some (.iload_n 1), some (.iaload), some (.iload_n 2), some (.if_icmp .eq 8), none],
  [none, some (.bipush (-12)), none, some (.goto 4), none, none, some (.iconst 0), some (.ireturn)]]
theorem q_code189_ok : q_dec prog_14_method_24_code q_code189 := f_all2_ok (by decide +kernel)
def q_code190 : List (List (Option Instr)) := [[some (.aload_n 0), some (.iload_n 1), some (.iconst 0), some (.invokevirtual 166), none, none, some (.istore_n 2), some (.iload_n 2), some (.ifCond .eq 5), none, none, some (.iload_n 2), some (.ireturn), some (.aload_n 0), some (.bipush 120), none],
  [some (.iload_n 1), some (.imul), some (.putfield 116), none, none, some (.aload_n 0), some (.aload_n 0), some (.getfield 22), none, none, some (.iload_n 1), some (.iaload), some (.putfield 113), none, none, some (.aload_n 0)],
  [some (.iconst 0), some (.putfield 110), none, none, some (.aload_n 0), some (.invokevirtual 169), none, none, some (.ifCond .ne 12), none, none, some (.sipush (-1000)), none, none, some (.aload_n 0), some (.getfield 110)],
  [none, none, some (.isub), some (.ireturn), some (.aload_n 0), some (.getfield 110), none, none, some (.aload_n 0), some (.getfield 113), none, none, some (.if_icmp .lt (-24)), none, none, some (.iconst 0)],
  [some (.istore_n 3), some (.iload_n 3), some (.sipush 1330), none, none, some (.if_icmp .ge 21), none, none, some (.aload_n 0), some (.getfield 43), none, none, some (.iload_n 3), some (.aload_n 0), some (.getfield 9), none],
  [none, some (.iload_n 3), some (.iaload), some (.iastore), some (.iinc 3 1), none, none, some (.goto (-22)), none, none, some (.aload_n 0), some (.iconst 0), some (.putfield 110), none, none, some (.aload_n 0)],
  [some (.getfield 110), none, none, some (.aload_n 0), some (.getfield 113), none, none, some (.if_icmp .ge 55), none, none, some (.aload_n 0), some (.getfield 110), none, none, some (.istore_n 3), some (.aload_n 0)],
  [some (.invokevirtual 172), none, none, some (.ifCond .eq 6), none, none, some (.goto (-23)), none, none, some (.iconst 0), some (.istore 4), none, some (.iload 4), none, some (.sipush 1330), none],
  [none, some (.if_icmp .ge 23), none, none, some (.aload_n 0), some (.getfield 9), none, none, some (.iload 4), none, some (.aload_n 0), some (.getfield 43), none, none, some (.iload 4), none],
  [some (.iaload), some (.iastore), some (.iinc 4 1), none, none, some (.goto (-25)), none, none, some (.sipush (-2000)), none, none, some (.iload_n 3), some (.isub), some (.ireturn), some (.aload_n 0), some (.getfield 9)],
  [none, none, some (.sipush 1198), none, none, some (.iaload), some (.aload_n 0), some (.getfield 43), none, none, some (.sipush 1198), none, none, some (.iaload), some (.isub), some (.ireturn)]]
theorem q_code190_ok : q_dec prog_14_method_25_code q_code190 := f_all2_ok (by decide +kernel)
def q_code191 : List (List (Option Instr)) := [[some (.aload_n 0), some (.iload_n 1), some (.invokevirtual 175), none, none, some (.ifCond .eq 15), none, none, some (.iload_n 2), some (.i2l), some (.lconst 0), some (.ldc2_w 178), none, none, some (.invokestatic 83), none],
  [none, some (.ifCond .ne 5), none, none, some (.iconst (-1)), some (.ireturn), some (.aload_n 0), some (.iload_n 1), some (.invokevirtual 180), none, none, some (.iload_n 2), some (.tableswitch 78 0 3 #[32, 38, 43, 48]), none, none, none],
  [none, none, none, none, none, none, none, none, none, none, none, none, none, none, none, none],
  [none, none, none, none, none, none, none, none, none, none, none, none, some (.aload_n 0), some (.iload_n 1), some (.invokevirtual 99), none],
  [none, some (.ireturn), some (.aload_n 0), some (.getfield 89), none, none, some (.ireturn), some (.aload_n 0), some (.getfield 92), none, none, some (.ireturn), some (.aload_n 0), some (.iload_n 1), some (.invokevirtual 99), none],
  [none, some (.iconst 1), some (.if_icmp .ne 18), none, none, some (.aload_n 0), some (.getfield 9), none, none, some (.bipush 28), none, some (.iload_n 1), some (.imul), some (.bipush 19), none, some (.iadd)],
  [some (.iaload), some (.goto 8), none, none, some (.aload_n 0), some (.iload_n 1), some (.invokevirtual 103), none, none, some (.ireturn), some (.aload_n 0), some (.getfield 9), none, none, some (.bipush 28), none],
  [some (.iload_n 1), some (.imul), some (.iconst 1), some (.iadd), some (.iaload), some (.ifCond .ne 8), none, none, some (.bipush (-4)), none, some (.goto 16), none, none, some (.aload_n 0), some (.getfield 9), none],
  [none, some (.bipush 28), none, some (.iload_n 1), some (.imul), some (.iconst 1), some (.iadd), some (.iaload), some (.iconst 1), some (.isub), some (.ireturn)]]
theorem q_code191_ok : q_dec prog_14_method_26_code q_code191 := f_all2_ok (by decide +kernel)
def q_code192 : List (List (Option Instr)) := [[some (.bipush 28), none, some (.iload_n 1), some (.imul), some (.bipush 15), none, some (.iadd), some (.istore_n 2), some (.aload_n 0), some (.getfield 9), none, none, some (.iload_n 2), some (.iconst 4), some (.iadd), some (.iaload)],
  [some (.iconst 1), some (.if_icmp .eq 11), none, none, some (.aload_n 0), some (.getfield 50), none, none, some (.iload_n 1), some (.if_icmp .ne 5), none, none, some (.iconst 0), some (.ireturn), some (.aload_n 0), some (.getfield 183)],
  [none, none, some (.iconst 1), some (.iand), some (.iconst 1), some (.if_icmp .ne 8), none, none, some (.bipush 100), none, some (.goto 36), none, none, some (.aload_n 0), some (.getfield 46), none],
  [none, some (.ifCond .lt 23), none, none, some (.aload_n 0), some (.iload_n 1), some (.aload_n 0), some (.getfield 46), none, none, some (.invokevirtual 186), none, none, some (.aload_n 0), some (.getfield 189), none],
  [none, some (.imul), some (.bipush 100), none, some (.idiv), some (.goto 9), none, none, some (.aload_n 0), some (.getfield 9), none, none, some (.iload_n 2), some (.iaload), some (.istore_n 3), some (.aload_n 0)],
  [some (.getfield 183), none, none, some (.iconst 2), some (.iand), some (.iconst 2), some (.if_icmp .ne 7), none, none, some (.iconst 0), some (.goto 11), none, none, some (.aload_n 0), some (.getfield 9), none],
  [none, some (.iload_n 2), some (.iconst 1), some (.iadd), some (.iaload), some (.istore 4), none, some (.aload_n 0), some (.getfield 183), none, none, some (.iconst 4), some (.iand), some (.iconst 4), some (.if_icmp .ne 7), none],
  [none, some (.iconst 0), some (.goto 11), none, none, some (.aload_n 0), some (.getfield 9), none, none, some (.iload_n 2), some (.iconst 2), some (.iadd), some (.iaload), some (.istore 5), none, some (.iload_n 3)],
  [some (.bipush 100), none, some (.iload 4), none, some (.isub), some (.imul), some (.bipush 100), none, some (.iload 5), none, some (.isub), some (.imul), some (.sipush 10000), none, none, some (.idiv)],
  [some (.ireturn)]]
theorem q_code192_ok : q_dec prog_14_method_27_code q_code192 := f_all2_ok (by decide +kernel)
def q_code193 : List (List (Option Instr)) := [[some (.aload_n 0), some (.iload_n 1), some (.iload_n 2), some (.invokevirtual 106), none, none, some (.istore_n 3), some (.iload_n 3), some (.iload_n 3), some (.aload_n 0), some (.getfield 183), none, none, some (.bipush 8), none, some (.iand)],
  [some (.bipush 8), none, some (.if_icmp .ne 7), none, none, some (.iconst 0), some (.goto 17), none, none, some (.aload_n 0), some (.getfield 9), none, none, some (.bipush 28), none, some (.iload_n 1)],
  [some (.imul), some (.bipush 15), none, some (.iadd), some (.iconst 3), some (.iadd), some (.iaload), some (.imul), some (.bipush 100), none, some (.idiv), some (.isub), some (.ireturn)]]
theorem q_code193_ok : q_dec prog_14_method_28_code q_code193 := f_all2_ok (by decide +kernel)
def q_code194 : List (List (Option Instr)) := [[some (.aload_n 0), some (.getfield 9), none, none, some (.bipush 28), none, some (.iload_n 1), some (.imul), some (.bipush 9), none, some (.iadd), some (.iload_n 2), some (.iadd), some (.iaload), some (.iload_n 3), some (.imul)],
  [some (.bipush 100), none, some (.idiv), some (.ireturn)]]
theorem q_code194_ok : q_dec prog_14_method_29_code q_code194 := f_all2_ok (by decide +kernel)
def q_code195 : List (List (Option Instr)) := [[some (.aload_n 0), some (.iload_n 1), some (.invokevirtual 175), none, none, some (.ifCond .eq 13), none, none, some (.iload_n 3), some (.i2l), some (.lconst 0), some (.lconst 1), some (.invokestatic 83), none, none, some (.ifCond .ne 5)],
  [none, none, some (.iconst (-1)), some (.ireturn), some (.aload_n 0), some (.iload_n 1), some (.invokevirtual 99), none, none, some (.ifCond .eq 6), none, none, some (.bipush (-3)), none, some (.ireturn), some (.iload_n 2)],
  [some (.i2l), some (.lconst 0), some (.aload_n 0), some (.iload_n 1), some (.invokevirtual 103), none, none, some (.iconst 1), some (.isub), some (.i2l), some (.invokestatic 83), none, none, some (.ifCond .ne 5), none, none],
  [some (.iconst (-1)), some (.ireturn), some (.iload_n 3), some (.ifCond .ne 12), none, none, some (.aload_n 0), some (.iload_n 1), some (.iload_n 2), some (.invokevirtual 192), none, none, some (.goto 14), none, none, some (.aload_n 0)],
  [some (.iload_n 1), some (.iload_n 2), some (.aload_n 0), some (.iload_n 1), some (.invokevirtual 195), none, none, some (.invokevirtual 198), none, none, some (.ireturn)]]
theorem q_code195_ok : q_dec prog_14_method_30_code q_code195 := f_all2_ok (by decide +kernel)
def q_code196 : List (List (Option Instr)) := [[some (.aload_n 0), some (.iload_n 1), some (.invokevirtual 175), none, none, some (.ifCond .eq 48), none, none, some (.iload_n 2), some (.i2l), some (.lconst 0), some (.ldc2_w 202), none, none, some (.invokestatic 83), none],
  [none, some (.ifCond .eq 36), none, none, some (.iload_n 3), some (.i2l), some (.lconst 0), some (.iload_n 2), some (.ifCond .ne 9), none, none, some (.ldc2_w 204), none, none, some (.goto 17), none],
  [none, some (.iload_n 2), some (.iconst 3), some (.if_icmp .ne 9), none, none, some (.ldc2_w 206), none, none, some (.goto 6), none, none, some (.ldc2_w 208), none, none, some (.invokestatic 83)],
  [none, none, some (.ifCond .ne 5), none, none, some (.iconst (-1)), some (.ireturn), some (.aload_n 0), some (.iload_n 1), some (.invokevirtual 99), none, none, some (.ifCond .eq 6), none, none, some (.bipush (-3))],
  [none, some (.ireturn), some (.aload_n 0), some (.getfield 9), none, none, some (.bipush 28), none, some (.iload_n 1), some (.imul), some (.bipush 15), none, some (.iadd), some (.iload_n 2), some (.iadd), some (.iaload)],
  [some (.istore 4), none, some (.aload_n 0), some (.getfield 9), none, none, some (.bipush 28), none, some (.iload_n 1), some (.imul), some (.bipush 15), none, some (.iadd), some (.iload_n 2), some (.iadd), some (.iload_n 3)],
  [some (.iastore), some (.iload 4), none, some (.ireturn)]]
theorem q_code196_ok : q_dec prog_14_method_31_code q_code196 := f_all2_ok (by decide +kernel)
def q_code197 : List (List (Option Instr)) := [[some (.aload_n 0), some (.iload_n 1), some (.invokevirtual 175), none, none, some (.ifCond .ne 5), none, none, some (.iconst (-1)), some (.ireturn), some (.aload_n 0), some (.iload_n 1), some (.invokevirtual 99), none, none, some (.ifCond .eq 6)],
  [none, none, some (.bipush (-3)), none, some (.ireturn), some (.aload_n 0), some (.getfield 9), none, none, some (.bipush 28), none, some (.iload_n 1), some (.imul), some (.bipush 19), none, some (.iadd)],
  [some (.iaload), some (.iconst 1), some (.if_icmp .ne 7), none, none, some (.iconst 1), some (.goto 4), none, none, some (.iconst 0), some (.istore_n 3), some (.aload_n 0), some (.getfield 9), none, none, some (.bipush 28)],
  [none, some (.iload_n 1), some (.imul), some (.bipush 19), none, some (.iadd), some (.iload_n 2), some (.ifCond .eq 7), none, none, some (.iconst 1), some (.goto 4), none, none, some (.iconst 0), some (.iastore)],
  [some (.iload_n 3), some (.iload_n 2), some (.if_icmp .ne 7), none, none, some (.iconst 0), some (.goto 4), none, none, some (.iconst 1), some (.ireturn)]]
theorem q_code197_ok : q_dec prog_14_method_32_code q_code197 := f_all2_ok (by decide +kernel)
def q_code198 : List (List (Option Instr)) := [[some (.aload_n 0), some (.iload_n 1), some (.iconst 0), some (.iload_n 3), some (.invokevirtual 198), none, none, some (.istore 4), none, some (.iload_n 2), some (.iload 4), none, some (.if_icmp .le 25), none, none, some (.iload_n 2)],
  [some (.iload 4), none, some (.isub), some (.bipush 10), none, some (.if_icmp .le 8), none, none, some (.bipush (-20)), none, some (.goto 10), none, none, some (.bipush (-2)), none, some (.iload_n 2)],
  [some (.iload 4), none, some (.isub), some (.imul), some (.ireturn), some (.aload_n 0), some (.iload_n 1), some (.invokevirtual 103), none, none, some (.iconst 1), some (.isub), some (.istore 5), none, some (.iload 5), none],
  [some (.ifCond .le 94), none, none, some (.aload_n 0), some (.iload_n 1), some (.iload 5), none, some (.iload_n 3), some (.invokevirtual 198), none, none, some (.istore 6), none, some (.aload_n 0), some (.iload_n 1), some (.iload 5)],
  [none, some (.iconst 1), some (.isub), some (.iload_n 3), some (.invokevirtual 198), none, none, some (.istore 7), none, some (.iload_n 2), some (.iload 6), none, some (.if_icmp .lt 60), none, none, some (.iload_n 2)],
  [some (.iload 7), none, some (.if_icmp .le 6), none, none, some (.goto 51), none, none, some (.aload_n 0), some (.iload_n 1), some (.iload 5), none, some (.invokevirtual 192), none, none, some (.istore 8)],
  [none, some (.iload 7), none, some (.iload 6), none, some (.if_icmp .ne 8), none, none, some (.iload 8), none, some (.goto 29), none, none, some (.iload 8), none, some (.iload 8)],
  [none, some (.aload_n 0), some (.iload_n 1), some (.iload 5), none, some (.iconst 1), some (.isub), some (.invokevirtual 192), none, none, some (.isub), some (.iload_n 2), some (.iload 6), none, some (.isub), some (.imul)],
  [some (.iload 7), none, some (.iload 6), none, some (.isub), some (.idiv), some (.isub), some (.ireturn), some (.iinc 5 (-1)), none, none, some (.goto (-93)), none, none, some (.iconst 0), some (.ireturn)]]
theorem q_code198_ok : q_dec prog_14_method_33_code q_code198 := f_all2_ok (by decide +kernel)
def q_code199 : List (List (Option Instr)) := [[some (.iconst 0), some (.istore 4), none, some (.iconst 0), some (.istore 5), none, some (.iload 5), none, some (.aload_n 0), some (.iload_n 1), some (.invokevirtual 103), none, none, some (.if_icmp .ge 60), none, none],
  [some (.iload 4), none, some (.aload_n 0), some (.getfield 9), none, none, some (.bipush 28), none, some (.iload_n 1), some (.imul), some (.bipush 11), none, some (.iadd), some (.iload 5), none, some (.iadd)],
  [some (.iaload), some (.iload_n 2), some (.if_icmp .ne 29), none, none, some (.aload_n 0), some (.aload_n 0), some (.iload_n 1), some (.iload 5), none, some (.invokevirtual 106), none, none, some (.iload_n 3), some (.aload_n 0), some (.aload_n 0)],
  [some (.iload_n 1), some (.iload 5), none, some (.invokevirtual 106), none, none, some (.invokevirtual 195), none, none, some (.invokevirtual 210), none, none, some (.goto 4), none, none, some (.iconst 0)],
  [some (.iadd), some (.istore 4), none, some (.iinc 5 1), none, none, some (.goto (-64)), none, none, some (.iload 4), none, some (.ireturn)]]
theorem q_code199_ok : q_dec prog_14_method_34_code q_code199 := f_all2_ok (by decide +kernel)
def q_code200 : List (List (Option Instr)) := [[some (.aload_n 0), some (.getfield 9), none, none, some (.bipush 28), none, some (.iload_n 1), some (.imul), some (.bipush 20), none, some (.iadd), some (.iload_n 2), some (.iadd), some (.iaload), some (.iconst 1), some (.if_icmp .ne 20)],
  [none, none, some (.aload_n 0), some (.getfield 53), none, none, some (.bipush 8), none, some (.iload_n 1), some (.imul), some (.iload_n 2), some (.iadd), some (.if_icmp .eq 7), none, none, some (.iconst 1)],
  [some (.goto 4), none, none, some (.iconst 0), some (.ireturn)]]
theorem q_code200_ok : q_dec prog_14_method_35_code q_code200 := f_all2_ok (by decide +kernel)
def q_code201 : List (List (Option Instr)) := [[some (.aload_n 0), some (.iload_n 1), some (.invokevirtual 99), none, none, some (.ifCond .ne 15), none, none, some (.aload_n 0), some (.iload_n 1), some (.iload_n 2), some (.aload_n 0), some (.iload_n 1), some (.invokevirtual 195), none, none],
  [some (.invokevirtual 210), none, none, some (.ireturn), some (.iconst 0), some (.istore_n 3), some (.iconst 0), some (.istore 4), none, some (.iload 4), none, some (.aload_n 0), some (.getfield 9), none, none, some (.bipush 28)],
  [none, some (.iload_n 1), some (.imul), some (.bipush 19), none, some (.iadd), some (.iaload), some (.if_icmp .ge 44), none, none, some (.aload_n 0), some (.iload_n 1), some (.iload 4), none, some (.iload_n 2), some (.invokevirtual 213)],
  [none, none, some (.istore 5), none, some (.iload_n 3), some (.aload_n 0), some (.iload_n 1), some (.iload 4), none, some (.invokevirtual 216), none, none, some (.ifCond .eq 13), none, none, some (.iload 5)],
  [none, some (.iconst (-1)), some (.if_icmp .ge 7), none, none, some (.iconst (-1)), some (.goto 5), none, none, some (.iload 5), none, some (.iadd), some (.istore_n 3), some (.iinc 4 1), none, none],
  [some (.goto (-55)), none, none, some (.iload_n 3), some (.ireturn)]]
theorem q_code201_ok : q_dec prog_14_method_36_code q_code201 := f_all2_ok (by decide +kernel)
def q_code202 : List (List (Option Instr)) := [[some (.aload_n 0), some (.iload_n 1), some (.invokevirtual 99), none, none, some (.iconst 3), some (.if_icmp .ne 15), none, none, some (.aload_n 0), some (.aload_n 0), some (.iload_n 1), some (.iconst 0), some (.invokevirtual 106), none, none],
  [some (.iload_n 2), some (.invokevirtual 220), none, none, some (.ireturn), some (.aload_n 0), some (.iload_n 1), some (.invokevirtual 99), none, none, some (.iconst 2), some (.if_icmp .ne 41), none, none, some (.iconst 0), some (.istore_n 3)],
  [some (.iconst 0), some (.istore 4), none, some (.iload 4), none, some (.aload_n 0), some (.iload_n 1), some (.invokevirtual 103), none, none, some (.if_icmp .ge 24), none, none, some (.iload_n 3), some (.aload_n 0), some (.aload_n 0)],
  [some (.iload_n 1), some (.iload 4), none, some (.invokevirtual 106), none, none, some (.iload_n 2), some (.invokevirtual 220), none, none, some (.iadd), some (.istore_n 3), some (.iinc 4 1), none, none, some (.goto (-28))],
  [none, none, some (.iload_n 3), some (.ireturn), some (.bipush 99), none, some (.istore_n 3), some (.iload_n 3), some (.ifCond .le 19), none, none, some (.aload_n 0), some (.iload_n 1), some (.iload_n 3), some (.invokevirtual 223), none],
  [none, some (.iload_n 2), some (.if_icmp .ge 9), none, none, some (.iinc 3 (-1)), none, none, some (.goto (-17)), none, none, some (.iload_n 3), some (.ireturn)]]
theorem q_code202_ok : q_dec prog_14_method_37_code q_code202 := f_all2_ok (by decide +kernel)
def q_code203 : List (List (Option Instr)) := [[some (.iconst 0), some (.istore_n 2), some (.iload_n 2), some (.sipush 1000), none, none, some (.if_icmp .ge 16), none, none, some (.aload_n 0), some (.getfield 56), none, none, some (.iload_n 2), some (.iconst 0), some (.iastore)],
  [some (.iinc 2 1), none, none, some (.goto (-17)), none, none, some (.aload_n 0), some (.iload_n 1), some (.invokevirtual 226), none, none, some (.return_)]]
theorem q_code203_ok : q_dec prog_14_method_38_code q_code203 := f_all2_ok (by decide +kernel)
def q_code204 : List (List (Option Instr)) := [[some (.aload_n 0), some (.iload_n 1), some (.invokevirtual 99), none, none, some (.iconst 3), some (.if_icmp .eq 12), none, none, some (.aload_n 0), some (.iload_n 1), some (.invokevirtual 99), none, none, some (.iconst 2), some (.if_icmp .ne 31)],
  [none, none, some (.iconst 0), some (.istore_n 2), some (.iload_n 2), some (.aload_n 0), some (.iload_n 1), some (.invokevirtual 103), none, none, some (.if_icmp .ge 19), none, none, some (.aload_n 0), some (.aload_n 0), some (.iload_n 1)],
  [some (.iload_n 2), some (.invokevirtual 106), none, none, some (.invokevirtual 226), none, none, some (.iinc 2 1), none, none, some (.goto (-22)), none, none, some (.return_), some (.iconst 0), some (.istore_n 2)],
  [some (.iload_n 2), some (.bipush 100), none, some (.if_icmp .ge 21), none, none, some (.aload_n 0), some (.getfield 59), none, none, some (.iload_n 2), some (.aload_n 0), some (.iload_n 1), some (.iload_n 2), some (.invokevirtual 223), none],
  [none, some (.iastore), some (.iinc 2 1), none, none, some (.goto (-21)), none, none, some (.aload_n 0), some (.invokevirtual 229), none, none, some (.return_)]]
theorem q_code204_ok : q_dec prog_14_method_39_code q_code204 := f_all2_ok (by decide +kernel)
def q_code205 : List (List (Option Instr)) := [[some (.bipush 99), none, some (.istore_n 1), some (.iconst 0), some (.istore_n 2), some (.iload_n 2), some (.sipush 1000), none, none, some (.if_icmp .ge 39), none, none, some (.iload_n 1), some (.ifCond .le 19), none, none],
  [some (.aload_n 0), some (.getfield 59), none, none, some (.iload_n 1), some (.iaload), some (.iload_n 2), some (.if_icmp .ge 9), none, none, some (.iinc 1 (-1)), none, none, some (.goto (-17)), none, none],
  [some (.aload_n 0), some (.getfield 56), none, none, some (.iload_n 2), some (.dup2), some (.iaload), some (.iload_n 1), some (.iadd), some (.iastore), some (.iinc 2 1), none, none, some (.goto (-40)), none, none],
  [some (.return_)]]
theorem q_code205_ok : q_dec prog_14_method_40_code q_code205 := f_all2_ok (by decide +kernel)
def q_code206 : List (List (Option Instr)) := [[some (.aload_n 0), some (.aload_n 0), some (.iload_n 1), some (.invokevirtual 175), none, none, some (.ifCond .eq 19), none, none, some (.iload_n 2), some (.i2l), some (.lconst 0), some (.ldc2_w 232), none, none, some (.invokestatic 83)],
  [none, none, some (.ifCond .eq 7), none, none, some (.iconst 0), some (.goto 4), none, none, some (.iconst 1), some (.putfield 80), none, none, some (.aload_n 0), some (.getfield 80), none],
  [none, some (.iconst 1), some (.if_icmp .ne 5), none, none, some (.lconst 0), some (.lreturn), some (.aload_n 0), some (.iload_n 1), some (.invokevirtual 99), none, none, some (.iconst 3), some (.if_icmp .ne 12), none, none],
  [some (.aload_n 0), some (.iload_n 1), some (.iconst 0), some (.invokevirtual 106), none, none, some (.goto 4), none, none, some (.iload_n 1), some (.istore_n 3), some (.aload_n 0), some (.iload_n 3), some (.invokevirtual 99), none, none],
  [some (.iconst 2), some (.if_icmp .eq 11), none, none, some (.aload_n 0), some (.iload_n 3), some (.iload_n 2), some (.invokevirtual 223), none, none, some (.i2l), some (.lreturn), some (.aload_n 0), some (.iload_n 3), some (.invokevirtual 234), none],
  [none, some (.sipush 999), none, none, some (.istore 4), none, some (.iload 4), none, some (.ifCond .lt 20), none, none, some (.aload_n 0), some (.getfield 56), none, none, some (.iload 4)],
  [none, some (.iaload), some (.iload_n 2), some (.if_icmp .ge 9), none, none, some (.iinc 4 (-1)), none, none, some (.goto (-19)), none, none, some (.iload 4), none, some (.i2l), some (.lreturn)]]
theorem q_code206_ok : q_dec prog_14_method_41_code q_code206 := f_all2_ok (by decide +kernel)
def q_code207 : List (List (Option Instr)) := [[some (.aload_n 0), some (.iload_n 1), some (.invokevirtual 175), none, none, some (.ifCond .eq 26), none, none, some (.iload_n 2), some (.i2l), some (.ldc2_w 237), none, none, some (.ldc2_w 232), none, none],
  [some (.invokestatic 83), none, none, some (.ifCond .eq 12), none, none, some (.aload_n 0), some (.iload_n 1), some (.iload_n 2), some (.invokevirtual 220), none, none, some (.goto 4), none, none, some (.iconst (-1))],
  [some (.ireturn)]]
theorem q_code207_ok : q_dec prog_14_method_42_code q_code207 := f_all2_ok (by decide +kernel)
def q_code208 : List (List (Option Instr)) := [[some (.iconst 0), some (.istore_n 1), some (.iconst 1), some (.istore_n 2), some (.iload_n 2), some (.sipush 500), none, none, some (.if_icmp .gt 30), none, none, some (.iload_n 2), some (.aload_n 0), some (.getfield 56), none, none],
  [some (.iload_n 2), some (.iaload), some (.imul), some (.iload_n 1), some (.aload_n 0), some (.getfield 56), none, none, some (.iload_n 1), some (.iaload), some (.imul), some (.if_icmp .le 5), none, none, some (.iload_n 2), some (.istore_n 1)],
  [some (.iinc 2 1), none, none, some (.goto (-31)), none, none, some (.iload_n 1), some (.ireturn)]]
theorem q_code208_ok : q_dec prog_14_method_43_code q_code208 := f_all2_ok (by decide +kernel)
def q_code209 : List (List (Option Instr)) := [[some (.aload_n 0), some (.iload_n 1), some (.invokevirtual 234), none, none, some (.aload_n 0), some (.invokevirtual 239), none, none, some (.istore_n 2), some (.iload_n 2), some (.aload_n 0), some (.getfield 56), none, none, some (.iload_n 2)],
  [some (.iaload), some (.imul), some (.ireturn)]]
theorem q_code209_ok : q_dec prog_14_method_44_code q_code209 := f_all2_ok (by decide +kernel)
def q_code210 : List (List (Option Instr)) := [[some (.aload_n 0), some (.iload_n 1), some (.invokevirtual 175), none, none, some (.ifCond .eq 15), none, none, some (.iload_n 2), some (.i2l), some (.lconst 0), some (.ldc2_w 242), none, none, some (.invokestatic 83), none],
  [none, some (.ifCond .ne 5), none, none, some (.iconst (-1)), some (.ireturn), some (.aload_n 0), some (.iload_n 1), some (.invokevirtual 234), none, none, some (.aload_n 0), some (.invokevirtual 239), none, none, some (.istore_n 3)],
  [some (.iload_n 2), some (.ifCond .ne 14), none, none, some (.iload_n 3), some (.aload_n 0), some (.getfield 56), none, none, some (.iload_n 3), some (.iaload), some (.imul), some (.goto 18), none, none, some (.iload_n 2)],
  [some (.iconst 1), some (.if_icmp .ne 7), none, none, some (.iload_n 3), some (.goto 9), none, none, some (.aload_n 0), some (.getfield 56), none, none, some (.iload_n 3), some (.iaload), some (.ireturn)]]
theorem q_code210_ok : q_dec prog_14_method_45_code q_code210 := f_all2_ok (by decide +kernel)
def q_code211 : List (List (Option Instr)) := [[some (.iload_n 1), some (.sipush 500), none, none, some (.if_icmp .le 7), none, none, some (.iconst 0), some (.goto 11), none, none, some (.iload_n 1), some (.aload_n 0), some (.getfield 56), none, none],
  [some (.iload_n 1), some (.iaload), some (.imul), some (.ireturn)]]
theorem q_code211_ok : q_dec prog_14_method_46_code q_code211 := f_all2_ok (by decide +kernel)
def q_code212 : List (List (Option Instr)) := [[some (.aload_n 0), some (.iload_n 1), some (.invokevirtual 175), none, none, some (.ifCond .eq 8), none, none, some (.iload_n 2), some (.iconst (-1)), some (.if_icmp .ge 5), none, none, some (.iconst (-1)), some (.ireturn), some (.aload_n 0)],
  [some (.iload_n 1), some (.invokevirtual 234), none, none, some (.iconst 0), some (.istore_n 3), some (.iconst 1), some (.istore 4), none, some (.iload 4), none, some (.sipush 500), none, none, some (.if_icmp .ge 93), none],
  [none, some (.aload_n 0), some (.iload 4), none, some (.invokevirtual 244), none, none, some (.aload_n 0), some (.iload 4), none, some (.iconst 1), some (.isub), some (.invokevirtual 244), none, none, some (.if_icmp .gt 6)],
  [none, none, some (.goto 67), none, none, some (.iload 4), none, some (.iconst 1), some (.iadd), some (.istore 5), none, some (.iload 5), none, some (.sipush 500), none, none],
  [some (.if_icmp .gt 24), none, none, some (.aload_n 0), some (.iload 5), none, some (.invokevirtual 244), none, none, some (.aload_n 0), some (.iload 4), none, some (.invokevirtual 244), none, none, some (.if_icmp .ne 9)],
  [none, none, some (.iinc 5 1), none, none, some (.goto (-26)), none, none, some (.aload_n 0), some (.iload 5), none, some (.invokevirtual 244), none, none, some (.aload_n 0), some (.iload 4)],
  [none, some (.invokevirtual 244), none, none, some (.if_icmp .lt 6), none, none, some (.goto 14), none, none, some (.iload_n 3), some (.iload_n 2), some (.if_icmp .ne 6), none, none, some (.iload 4)],
  [none, some (.ireturn), some (.iinc 3 1), none, none, some (.iinc 4 1), none, none, some (.goto (-95)), none, none, some (.iload_n 2), some (.iconst (-1)), some (.if_icmp .ne 7), none, none],
  [some (.iload_n 3), some (.goto 5), none, none, some (.bipush (-4)), none, some (.ireturn)]]
theorem q_code212_ok : q_dec prog_14_method_47_code q_code212 := f_all2_ok (by decide +kernel)
def q_code213 : List (List (Option Instr)) := [[some (.aload_n 0), some (.iload_n 1), some (.invokevirtual 175), none, none, some (.ifCond .eq 27), none, none, some (.iload_n 2), some (.i2l), some (.lconst 0), some (.ldc2_w 247), none, none, some (.invokestatic 83), none],
  [none, some (.ifCond .eq 15), none, none, some (.iload_n 3), some (.i2l), some (.lconst 0), some (.ldc2_w 242), none, none, some (.invokestatic 83), none, none, some (.ifCond .ne 5), none, none],
  [some (.iconst (-1)), some (.ireturn), some (.aload_n 0), some (.iload_n 1), some (.invokevirtual 99), none, none, some (.iconst 1), some (.if_icmp .eq 6), none, none, some (.bipush (-3)), none, some (.ireturn), some (.iconst (-1)), some (.istore 4)],
  [none, some (.iconst 0), some (.istore 5), none, some (.iconst 0), some (.istore 6), none, some (.iconst 0), some (.istore 7), none, some (.iload 7), none, some (.aload_n 0), some (.iload_n 1), some (.invokevirtual 103), none],
  [none, some (.if_icmp .ge 83), none, none, some (.aload_n 0), some (.iload_n 1), some (.iload 7), none, some (.invokevirtual 106), none, none, some (.istore 8), none, some (.aload_n 0), some (.iload 8), none],
  [some (.iload_n 2), some (.aload_n 0), some (.iload 8), none, some (.invokevirtual 195), none, none, some (.invokevirtual 210), none, none, some (.istore 9), none, some (.iload 6), none, some (.iload_n 2), some (.aload_n 0)],
  [some (.iload 8), none, some (.iconst 0), some (.aload_n 0), some (.iload 8), none, some (.invokevirtual 195), none, none, some (.invokevirtual 198), none, none, some (.if_icmp .le 7), none, none, some (.iconst 1)],
  [some (.goto 4), none, none, some (.iconst 0), some (.iadd), some (.istore 6), none, some (.iload 4), none, some (.ifCond .lt 13), none, none, some (.iload 9), none, some (.iload 5), none],
  [some (.if_icmp .lt 6), none, none, some (.goto 11), none, none, some (.iload 8), none, some (.istore 4), none, some (.iload 9), none, some (.istore 5), none, some (.iinc 7 1), none],
  [none, some (.goto (-87)), none, none, some (.iconst 0), some (.istore 7), none, some (.iconst 0), some (.istore 8), none, some (.iload 8), none, some (.aload_n 0), some (.getfield 9), none, none],
  [some (.bipush 28), none, some (.iload_n 1), some (.imul), some (.bipush 19), none, some (.iadd), some (.iaload), some (.if_icmp .ge 41), none, none, some (.iload 7), none, some (.aload_n 0), some (.iload_n 1), some (.iload 8)],
  [none, some (.invokevirtual 216), none, none, some (.ifCond .eq 19), none, none, some (.aload_n 0), some (.iload_n 1), some (.iload 8), none, some (.iload_n 2), some (.invokevirtual 213), none, none, some (.iconst (-1))],
  [some (.if_icmp .ge 7), none, none, some (.iconst 1), some (.goto 4), none, none, some (.iconst 0), some (.iadd), some (.istore 7), none, some (.iinc 8 1), none, none, some (.goto (-52)), none],
  [none, some (.iload_n 3), some (.ifCond .ne 8), none, none, some (.iload 4), none, some (.goto 15), none, none, some (.iload_n 3), some (.iconst 1), some (.if_icmp .ne 8), none, none, some (.iload 7)],
  [none, some (.goto 5), none, none, some (.iload 6), none, some (.ireturn)]]
theorem q_code213_ok : q_dec prog_14_method_48_code q_code213 := f_all2_ok (by decide +kernel)
def q_code214 : List (List (Option Instr)) := [[some (.aload_n 0), some (.iload_n 1), some (.invokevirtual 175), none, none, some (.ifCond .eq 36), none, none, some (.iload_n 2), some (.i2l), some (.lconst 0), some (.lconst 1), some (.invokestatic 83), none, none, some (.ifCond .eq 26)],
  [none, none, some (.iload_n 3), some (.i2l), some (.iload_n 2), some (.i2l), some (.iload_n 2), some (.ifCond .ne 9), none, none, some (.ldc2_w 249), none, none, some (.goto 6), none, none],
  [some (.ldc2_w 206), none, none, some (.invokestatic 83), none, none, some (.ifCond .ne 5), none, none, some (.iconst (-1)), some (.ireturn), some (.aload_n 0), some (.iload_n 1), some (.invokevirtual 99), none, none],
  [some (.iconst 3), some (.if_icmp .eq 6), none, none, some (.bipush (-3)), none, some (.ireturn), some (.bipush 28), none, some (.iload_n 1), some (.imul), some (.iconst 4), some (.iadd), some (.istore 4), none, some (.aload_n 0)],
  [some (.getfield 9), none, none, some (.iload 4), none, some (.iload_n 2), some (.iadd), some (.iaload), some (.istore 5), none, some (.aload_n 0), some (.getfield 9), none, none, some (.iload 4), none],
  [some (.iload_n 2), some (.iadd), some (.iload_n 3), some (.iastore), some (.aload_n 0), some (.getfield 9), none, none, some (.iload 4), none, some (.iconst 2), some (.iadd), some (.iconst 1), some (.iastore), some (.aload_n 0), some (.getfield 9)],
  [none, none, some (.iload 4), none, some (.iconst 3), some (.iadd), some (.iconst 0), some (.iastore), some (.iload 5), none, some (.ireturn)]]
theorem q_code214_ok : q_dec prog_14_method_49_code q_code214 := f_all2_ok (by decide +kernel)
def q_code215 : List (List (Option Instr)) := [[some (.aload_n 0), some (.aload_n 0), some (.getfield 251), none, none, some (.invokevirtual 244), none, none, some (.istore_n 2), some (.aload_n 0), some (.getfield 254), none, none, some (.ifCond .eq 20), none, none],
  [some (.iload_n 2), some (.aload_n 0), some (.getfield 258), none, none, some (.if_icmp .ge 12), none, none, some (.aload_n 0), some (.aload_n 0), some (.getfield 261), none, none, some (.ineg), some (.putfield 261), none],
  [none, some (.aload_n 0), some (.iconst 1), some (.putfield 254), none, none, some (.aload_n 0), some (.iload_n 2), some (.putfield 258), none, none, some (.aload_n 0), some (.dup), some (.getfield 251), none, none],
  [some (.iload_n 1), some (.aload_n 0), some (.getfield 261), none, none, some (.imul), some (.iadd), some (.putfield 251), none, none, some (.aload_n 0), some (.getfield 251), none, none, some (.ifCond .lt 14), none],
  [none, some (.aload_n 0), some (.getfield 251), none, none, some (.sipush 500), none, none, some (.if_icmp .gt 4), none, none, some (.return_), some (.aload_n 0), some (.aload_n 0), some (.getfield 251), none],
  [none, some (.ifCond .ge 7), none, none, some (.iconst 0), some (.goto 6), none, none, some (.sipush 500), none, none, some (.putfield 251), none, none, some (.aload_n 0), some (.aload_n 0)],
  [some (.getfield 261), none, none, some (.ineg), some (.putfield 261), none, none, some (.return_)]]
theorem q_code215_ok : q_dec prog_14_method_50_code q_code215 := f_all2_ok (by decide +kernel)
def q_code216 : List (List (Option Instr)) := [[some (.aload_n 0), some (.iload_n 1), some (.invokevirtual 175), none, none, some (.ifCond .eq 15), none, none, some (.iload_n 2), some (.i2l), some (.lconst 1), some (.ldc2_w 204), none, none, some (.invokestatic 83), none],
  [none, some (.ifCond .ne 5), none, none, some (.iconst (-1)), some (.ireturn), some (.aload_n 0), some (.iload_n 1), some (.invokevirtual 99), none, none, some (.iconst 3), some (.if_icmp .eq 6), none, none, some (.bipush (-3))],
  [none, some (.ireturn), some (.bipush 28), none, some (.iload_n 1), some (.imul), some (.iconst 4), some (.iadd), some (.istore_n 3), some (.aload_n 0), some (.iload_n 1), some (.invokevirtual 234), none, none, some (.aload_n 0), some (.aload_n 0)],
  [some (.getfield 9), none, none, some (.iload_n 3), some (.iaload), some (.putfield 251), none, none, some (.aload_n 0), some (.aload_n 0), some (.getfield 9), none, none, some (.iload_n 3), some (.iconst 2), some (.iadd)],
  [some (.iaload), some (.putfield 261), none, none, some (.aload_n 0), some (.aload_n 0), some (.getfield 9), none, none, some (.iload_n 3), some (.iconst 3), some (.iadd), some (.iaload), some (.iconst 1), some (.if_icmp .ne 7), none],
  [none, some (.iconst 1), some (.goto 4), none, none, some (.iconst 0), some (.putfield 254), none, none, some (.aload_n 0), some (.aload_n 0), some (.getfield 9), none, none, some (.iload_n 3), some (.iconst 4)],
  [some (.iadd), some (.iaload), some (.putfield 258), none, none, some (.iconst 0), some (.istore 4), none, some (.iload 4), none, some (.iload_n 2), some (.if_icmp .ge 21), none, none, some (.aload_n 0), some (.aload_n 0)],
  [some (.getfield 9), none, none, some (.iload_n 3), some (.iconst 1), some (.iadd), some (.iaload), some (.invokevirtual 264), none, none, some (.iinc 4 1), none, none, some (.goto (-21)), none, none],
  [some (.aload_n 0), some (.getfield 9), none, none, some (.iload_n 3), some (.aload_n 0), some (.getfield 251), none, none, some (.iastore), some (.aload_n 0), some (.getfield 9), none, none, some (.iload_n 3), some (.iconst 2)],
  [some (.iadd), some (.aload_n 0), some (.getfield 261), none, none, some (.iastore), some (.aload_n 0), some (.getfield 9), none, none, some (.iload_n 3), some (.iconst 3), some (.iadd), some (.iconst 1), some (.iastore), some (.aload_n 0)],
  [some (.getfield 9), none, none, some (.iload_n 3), some (.iconst 4), some (.iadd), some (.aload_n 0), some (.getfield 258), none, none, some (.iastore), some (.aload_n 0), some (.getfield 251), none, none, some (.ireturn)]]
theorem q_code216_ok : q_dec prog_14_method_51_code q_code216 := f_all2_ok (by decide +kernel)
def q_code217 : List (List (Option Instr)) := [[some (.aload_n 0), some (.iload_n 1), some (.invokevirtual 175), none, none, some (.ifCond .eq 27), none, none, some (.iload_n 2), some (.i2l), some (.lconst 0), some (.ldc2_w 249), none, none, some (.invokestatic 83), none],
  [none, some (.ifCond .eq 15), none, none, some (.iload_n 3), some (.i2l), some (.lconst 0), some (.ldc2_w 267), none, none, some (.invokestatic 83), none, none, some (.ifCond .ne 5), none, none],
  [some (.iconst (-1)), some (.ireturn), some (.aload_n 0), some (.iload_n 1), some (.invokevirtual 99), none, none, some (.iconst 3), some (.if_icmp .eq 6), none, none, some (.bipush (-3)), none, some (.ireturn), some (.aload_n 0), some (.iload_n 1)],
  [some (.invokevirtual 234), none, none, some (.aload_n 0), some (.getfield 9), none, none, some (.bipush 28), none, some (.iload_n 1), some (.imul), some (.iconst 5), some (.iadd), some (.iaload), some (.istore 4), none],
  [some (.aload_n 0), some (.invokevirtual 239), none, none, some (.istore 5), none, some (.aload_n 0), some (.iload_n 2), some (.putfield 251), none, none, some (.aload_n 0), some (.iconst 1), some (.putfield 261), none, none],
  [some (.aload_n 0), some (.iconst 0), some (.putfield 254), none, none, some (.iconst 0), some (.istore 6), none, some (.iload 6), none, some (.iload_n 3), some (.if_icmp .gt 42), none, none, some (.aload_n 0), some (.getfield 251)],
  [none, none, some (.iload 5), none, some (.isub), some (.iload 4), none, some (.if_icmp .gt 18), none, none, some (.iload 5), none, some (.aload_n 0), some (.getfield 251), none, none],
  [some (.isub), some (.iload 4), none, some (.if_icmp .gt 6), none, none, some (.iload 6), none, some (.ireturn), some (.aload_n 0), some (.iload 4), none, some (.invokevirtual 264), none, none, some (.iinc 6 1)],
  [none, none, some (.goto (-42)), none, none, some (.bipush (-4)), none, some (.ireturn)]]
theorem q_code217_ok : q_dec prog_14_method_52_code q_code217 := f_all2_ok (by decide +kernel)
def q_code218 : List (List (Option Instr)) := [[some (.iload_n 0), some (.ifCond .lt 25), none, none, some (.iload_n 0), some (.bipush 100), none, some (.idiv), some (.bipush 20), none, some (.if_icmp .ge 16), none, none, some (.iload_n 0), some (.bipush 100), none],
  [some (.irem), some (.bipush 12), none, some (.if_icmp .ge 7), none, none, some (.iconst 1), some (.goto 4), none, none, some (.iconst 0), some (.ireturn)]]
theorem q_code218_ok : q_dec prog_14_method_53_code q_code218 := f_all2_ok (by decide +kernel)
def q_code219 : List (List (Option Instr)) := [[some (.aload_n 0), some (.iload_n 1), some (.invokevirtual 175), none, none, some (.ifCond .eq 39), none, none, some (.iload_n 2), some (.invokestatic 269), none, none, some (.ifCond .eq 32), none, none, some (.iload_n 3)],
  [some (.invokestatic 269), none, none, some (.ifCond .eq 25), none, none, some (.iload_n 2), some (.bipush 100), none, some (.idiv), some (.iload_n 3), some (.bipush 100), none, some (.idiv), some (.if_icmp .gt 14), none],
  [none, some (.iload_n 2), some (.bipush 100), none, some (.irem), some (.iload_n 3), some (.bipush 100), none, some (.irem), some (.if_icmp .le 5), none, none, some (.iconst (-1)), some (.ireturn), some (.aload_n 0), some (.iload_n 1)],
  [some (.invokevirtual 99), none, none, some (.ifCond .eq 6), none, none, some (.bipush (-3)), none, some (.ireturn), some (.bipush 28), none, some (.iload_n 1), some (.imul), some (.bipush 20), none, some (.iadd)],
  [some (.istore 4), none, some (.aload_n 0), some (.getfield 9), none, none, some (.iload 4), none, some (.iconst 1), some (.iastore), some (.aload_n 0), some (.getfield 9), none, none, some (.iload 4), none],
  [some (.iconst 1), some (.iadd), some (.iload_n 2), some (.bipush 100), none, some (.idiv), some (.iastore), some (.aload_n 0), some (.getfield 9), none, none, some (.iload 4), none, some (.iconst 2), some (.iadd), some (.iload_n 2)],
  [some (.bipush 100), none, some (.irem), some (.iastore), some (.aload_n 0), some (.getfield 9), none, none, some (.iload 4), none, some (.iconst 3), some (.iadd), some (.iload_n 3), some (.bipush 100), none, some (.idiv)],
  [some (.iastore), some (.aload_n 0), some (.getfield 9), none, none, some (.iload 4), none, some (.iconst 4), some (.iadd), some (.iload_n 3), some (.bipush 100), none, some (.irem), some (.iastore), some (.aload_n 0), some (.getfield 9)],
  [none, none, some (.iload 4), none, some (.iconst 3), some (.iadd), some (.iaload), some (.aload_n 0), some (.getfield 9), none, none, some (.iload 4), none, some (.iconst 1), some (.iadd), some (.iaload)],
  [some (.isub), some (.iconst 1), some (.iadd), some (.aload_n 0), some (.getfield 9), none, none, some (.iload 4), none, some (.iconst 4), some (.iadd), some (.iaload), some (.aload_n 0), some (.getfield 9), none, none],
  [some (.iload 4), none, some (.iconst 2), some (.iadd), some (.iaload), some (.isub), some (.iconst 1), some (.iadd), some (.imul), some (.ireturn)]]
theorem q_code219_ok : q_dec prog_14_method_54_code q_code219 := f_all2_ok (by decide +kernel)
def q_code220 : List (List (Option Instr)) := [[some (.iload_n 1), some (.i2l), some (.lconst 0), some (.ldc2_w 272), none, none, some (.invokestatic 83), none, none, some (.ifCond .eq 40), none, none, some (.iload_n 2), some (.i2l), some (.lconst 0), some (.ldc2_w 274)],
  [none, none, some (.invokestatic 83), none, none, some (.ifCond .eq 28), none, none, some (.iload_n 3), some (.i2l), some (.lconst 0), some (.ldc2_w 276), none, none, some (.invokestatic 83), none],
  [none, some (.ifCond .eq 16), none, none, some (.iload 4), none, some (.i2l), some (.lconst 0), some (.ldc2_w 278), none, none, some (.invokestatic 83), none, none, some (.ifCond .ne 5), none],
  [none, some (.iconst (-1)), some (.ireturn), some (.aload_n 0), some (.getfield 9), none, none, some (.sipush 1120), none, none, some (.iconst 3), some (.iload_n 1), some (.imul), some (.iadd), some (.iconst 2), some (.iadd)],
  [some (.iaload), some (.istore 5), none, some (.aload_n 0), some (.getfield 9), none, none, some (.sipush 1120), none, none, some (.iconst 3), some (.iload_n 1), some (.imul), some (.iadd), some (.iload_n 2), some (.iastore)],
  [some (.aload_n 0), some (.getfield 9), none, none, some (.sipush 1120), none, none, some (.iconst 3), some (.iload_n 1), some (.imul), some (.iadd), some (.iconst 1), some (.iadd), some (.iload_n 3), some (.iastore), some (.aload_n 0)],
  [some (.getfield 9), none, none, some (.sipush 1120), none, none, some (.iconst 3), some (.iload_n 1), some (.imul), some (.iadd), some (.iconst 2), some (.iadd), some (.iload 4), none, some (.iastore), some (.iload 5)],
  [none, some (.ireturn)]]
theorem q_code220_ok : q_dec prog_14_method_55_code q_code220 := f_all2_ok (by decide +kernel)
def q_code221 : List (List (Option Instr)) := [[some (.iload_n 1), some (.i2l), some (.lconst 0), some (.ldc2_w 276), none, none, some (.invokestatic 83), none, none, some (.ifCond .eq 27), none, none, some (.iload_n 2), some (.i2l), some (.lconst 0), some (.ldc2_w 87)],
  [none, none, some (.invokestatic 83), none, none, some (.ifCond .eq 15), none, none, some (.iload_n 3), some (.i2l), some (.lconst 0), some (.ldc2_w 278), none, none, some (.invokestatic 83), none],
  [none, some (.ifCond .ne 5), none, none, some (.iconst (-1)), some (.ireturn), some (.bipush 100), none, some (.aload_n 0), some (.getfield 9), none, none, some (.sipush 1150), none, none, some (.iconst 2)],
  [some (.iload_n 1), some (.imul), some (.iadd), some (.iaload), some (.imul), some (.aload_n 0), some (.getfield 9), none, none, some (.sipush 1150), none, none, some (.iconst 2), some (.iload_n 1), some (.imul), some (.iadd)],
  [some (.iconst 1), some (.iadd), some (.iaload), some (.iadd), some (.istore 4), none, some (.aload_n 0), some (.getfield 9), none, none, some (.sipush 1150), none, none, some (.iconst 2), some (.iload_n 1), some (.imul)],
  [some (.iadd), some (.iload_n 2), some (.iastore), some (.aload_n 0), some (.getfield 9), none, none, some (.sipush 1150), none, none, some (.iconst 2), some (.iload_n 1), some (.imul), some (.iadd), some (.iconst 1), some (.iadd)],
  [some (.iload_n 3), some (.iastore), some (.iload 4), none, some (.ireturn)]]
theorem q_code221_ok : q_dec prog_14_method_56_code q_code221 := f_all2_ok (by decide +kernel)
def q_code222 : List (List (Option Instr)) := [[some (.aload_n 0), some (.getfield 9), none, none, some (.sipush 1150), none, none, some (.iconst 2), some (.iload_n 3), some (.imul), some (.iadd), some (.iaload), some (.istore 4), none, some (.iload 4), none],
  [some (.iconst 2), some (.if_icmp .eq 10), none, none, some (.iload 4), none, some (.bipush 6), none, some (.if_icmp .ne 7), none, none, some (.iconst 0), some (.goto 21), none, none, some (.iload 4)],
  [none, some (.iconst 2), some (.if_icmp .lt 10), none, none, some (.iload 4), none, some (.bipush 7), none, some (.if_icmp .ne 7), none, none, some (.iconst 1), some (.goto 4), none, none],
  [some (.iconst (-1)), some (.istore 5), none, some (.iload 4), none, some (.iconst 4), some (.irem), some (.ifCond .ne 7), none, none, some (.iconst 0), some (.goto 14), none, none, some (.iload 4), none],
  [some (.iconst 4), some (.if_icmp .ge 7), none, none, some (.iconst 1), some (.goto 4), none, none, some (.iconst (-1)), some (.istore 6), none, some (.iconst 0), some (.istore 7), none, some (.iload 7), none],
  [some (.bipush 10), none, some (.if_icmp .ge 119), none, none, some (.aload_n 0), some (.getfield 9), none, none, some (.sipush 1120), none, none, some (.iconst 3), some (.iload 7), none, some (.imul)],
  [some (.iadd), some (.iconst 2), some (.iadd), some (.iaload), some (.istore 8), none, some (.iload 8), none, some (.aload_n 0), some (.getfield 9), none, none, some (.sipush 1150), none, none, some (.iconst 2)],
  [some (.iload_n 3), some (.imul), some (.iadd), some (.iconst 1), some (.iadd), some (.iaload), some (.imul), some (.bipush 10), none, some (.idiv), some (.istore 9), none, some (.iconst 0), some (.istore 10), none, some (.iload 10)],
  [none, some (.iload 9), none, some (.if_icmp .gt 64), none, none, some (.iload 8), none, some (.ifCond .le 59), none, none, some (.aload_n 0), some (.getfield 9), none, none, some (.sipush 1120)],
  [none, none, some (.iconst 3), some (.iload 7), none, some (.imul), some (.iadd), some (.iaload), some (.iload 10), none, some (.iload 5), none, some (.imul), some (.iadd), some (.iload_n 1), some (.if_icmp .ne 30)],
  [none, none, some (.aload_n 0), some (.getfield 9), none, none, some (.sipush 1120), none, none, some (.iconst 3), some (.iload 7), none, some (.imul), some (.iadd), some (.iconst 1), some (.iadd)],
  [some (.iaload), some (.iload 10), none, some (.iload 6), none, some (.imul), some (.iadd), some (.iload_n 2), some (.if_icmp .ne 5), none, none, some (.iconst 1), some (.ireturn), some (.iinc 10 1), none, none],
  [some (.goto (-65)), none, none, some (.iinc 7 1), none, none, some (.goto (-120)), none, none, some (.iconst 0), some (.ireturn)]]
theorem q_code222_ok : q_dec prog_14_method_57_code q_code222 := f_all2_ok (by decide +kernel)
