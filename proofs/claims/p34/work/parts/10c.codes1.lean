def q_code117 : List (List (Option Instr)) := [[some (.aload_n 0), some (.iload_n 1), some (.invokevirtual 83), none, none, some (.ifCond .eq 39), none, none, some (.iload_n 2), some (.invokestatic 216), none, none, some (.ifCond .eq 32), none, none, some (.iload_n 3)],
  [some (.invokestatic 216), none, none, some (.ifCond .eq 25), none, none, some (.iload_n 2), some (.bipush 100), none, some (.idiv), some (.iload_n 3), some (.bipush 100), none, some (.idiv), some (.if_icmp .gt 14), none],
  [none, some (.iload_n 2), some (.bipush 100), none, some (.irem), some (.iload_n 3), some (.bipush 100), none, some (.irem), some (.if_icmp .le 5), none, none, some (.iconst (-1)), some (.ireturn), some (.aload_n 0), some (.iload_n 1)],
  [some (.iconst 0), some (.invokevirtual 118), none, none, some (.ifCond .ne 6), none, none, some (.bipush (-3)), none, some (.ireturn), some (.aload_n 0), some (.getfield 12), none, none, some (.getfield 134), none],
  [none, some (.getfield 219), none, none, some (.iload_n 1), some (.iload_n 2), some (.invokestatic 142), none, none, some (.aload_n 0), some (.getfield 12), none, none, some (.getfield 134), none, none],
  [some (.getfield 222), none, none, some (.iload_n 1), some (.iload_n 3), some (.invokestatic 142), none, none, some (.iload_n 3), some (.bipush 100), none, some (.idiv), some (.iload_n 2), some (.bipush 100), none, some (.idiv)],
  [some (.isub), some (.iconst 1), some (.iadd), some (.iload_n 3), some (.bipush 100), none, some (.irem), some (.iload_n 2), some (.bipush 100), none, some (.irem), some (.isub), some (.iconst 1), some (.iadd), some (.imul), some (.ireturn)]]
theorem q_code117_ok : q_dec prog_1_method_15_code q_code117 := f_chk_ok (B := [[42, 27, 182, 0, 83, 153, 0, 39, 28, 184, 0, 216, 153, 0, 32, 29],
  [184, 0, 216, 153, 0, 25, 28, 16, 100, 108, 29, 16, 100, 108, 163, 0],
  [14, 28, 16, 100, 112, 29, 16, 100, 112, 164, 0, 5, 2, 172, 42, 27],
  [3, 182, 0, 118, 154, 0, 6, 16, 253, 172, 42, 180, 0, 12, 180, 0],
  [134, 180, 0, 219, 27, 28, 184, 0, 142, 42, 180, 0, 12, 180, 0, 134],
  [180, 0, 222, 27, 29, 184, 0, 142, 29, 16, 100, 108, 28, 16, 100, 108],
  [100, 4, 96, 29, 16, 100, 112, 28, 16, 100, 112, 100, 4, 96, 104, 172]]) (by decide +kernel)
def q_code118 : List (List (Option Instr)) := [[some (.iload_n 2), some (.ifCond .lt 23), none, none, some (.iload_n 2), some (.bipush 20), none, some (.if_icmp .ge 17), none, none, some (.iload_n 3), some (.ifCond .lt 13), none, none, some (.iload_n 3), some (.bipush 12)],
  [none, some (.if_icmp .ge 7), none, none, some (.iconst 1), some (.goto 4), none, none, some (.iconst 0), some (.istore 5), none, some (.iload_n 1), some (.ifCond .lt 26), none, none, some (.iload_n 1)],
  [some (.bipush 10), none, some (.if_icmp .ge 20), none, none, some (.iload 5), none, some (.ifCond .eq 15), none, none, some (.iload 4), none, some (.ifCond .lt 10), none, none, some (.iload 4)],
  [none, some (.bipush 30), none, some (.if_icmp .le 5), none, none, some (.iconst (-1)), some (.ireturn), some (.aload_n 0), some (.getfield 12), none, none, some (.getfield 225), none, none, some (.astore 6)],
  [none, some (.aload 6), none, some (.getfield 229), none, none, some (.iload_n 1), some (.invokestatic 96), none, none, some (.istore 7), none, some (.aload 6), none, some (.getfield 234), none],
  [none, some (.iload_n 1), some (.iload_n 2), some (.invokestatic 142), none, none, some (.aload 6), none, some (.getfield 237), none, none, some (.iload_n 1), some (.iload_n 3), some (.invokestatic 142), none, none],
  [some (.aload 6), none, some (.getfield 229), none, none, some (.iload_n 1), some (.iload 4), none, some (.invokestatic 142), none, none, some (.iload 7), none, some (.ireturn)]]
theorem q_code118_ok : q_dec prog_1_method_16_code q_code118 := f_chk_ok (B := [[28, 155, 0, 23, 28, 16, 20, 162, 0, 17, 29, 155, 0, 13, 29, 16],
  [12, 162, 0, 7, 4, 167, 0, 4, 3, 54, 5, 27, 155, 0, 26, 27],
  [16, 10, 162, 0, 20, 21, 5, 153, 0, 15, 21, 4, 155, 0, 10, 21],
  [4, 16, 30, 164, 0, 5, 2, 172, 42, 180, 0, 12, 180, 0, 225, 58],
  [6, 25, 6, 180, 0, 229, 27, 184, 0, 96, 54, 7, 25, 6, 180, 0],
  [234, 27, 28, 184, 0, 142, 25, 6, 180, 0, 237, 27, 29, 184, 0, 142],
  [25, 6, 180, 0, 229, 27, 21, 4, 184, 0, 142, 21, 7, 172]]) (by decide +kernel)
def q_code119 : List (List (Option Instr)) := [[some (.iload_n 1), some (.invokestatic 240), none, none, some (.ifCond .eq 23), none, none, some (.iload_n 2), some (.ifCond .lt 19), none, none, some (.iload_n 2), some (.bipush 7), none, some (.if_icmp .gt 13), none],
  [none, some (.iload_n 3), some (.ifCond .lt 9), none, none, some (.iload_n 3), some (.bipush 30), none, some (.if_icmp .le 5), none, none, some (.iconst (-1)), some (.ireturn), some (.aload_n 0), some (.getfield 12), none],
  [none, some (.getfield 225), none, none, some (.astore 4), none, some (.bipush 100), none, some (.aload 4), none, some (.getfield 243), none, none, some (.iload_n 1), some (.invokestatic 96), none],
  [none, some (.imul), some (.aload 4), none, some (.getfield 246), none, none, some (.iload_n 1), some (.invokestatic 96), none, none, some (.iadd), some (.istore 5), none, some (.aload 4), none],
  [some (.getfield 243), none, none, some (.iload_n 1), some (.iload_n 2), some (.invokestatic 142), none, none, some (.aload 4), none, some (.getfield 246), none, none, some (.iload_n 1), some (.iload_n 3), some (.invokestatic 142)],
  [none, none, some (.iload 5), none, some (.ireturn)]]
theorem q_code119_ok : q_dec prog_1_method_17_code q_code119 := f_chk_ok (B := [[27, 184, 0, 240, 153, 0, 23, 28, 155, 0, 19, 28, 16, 7, 163, 0],
  [13, 29, 155, 0, 9, 29, 16, 30, 164, 0, 5, 2, 172, 42, 180, 0],
  [12, 180, 0, 225, 58, 4, 16, 100, 25, 4, 180, 0, 243, 27, 184, 0],
  [96, 104, 25, 4, 180, 0, 246, 27, 184, 0, 96, 96, 54, 5, 25, 4],
  [180, 0, 243, 27, 28, 184, 0, 142, 25, 4, 180, 0, 246, 27, 29, 184],
  [0, 142, 21, 5, 172]]) (by decide +kernel)
def q_code120 : List (List (Option Instr)) := [[some (.aload_n 0), some (.iload_n 1), some (.invokevirtual 83), none, none, some (.ifCond .eq 10), none, none, some (.iload_n 2), some (.invokestatic 240), none, none, some (.ifCond .ne 5), none, none, some (.iconst (-1))],
  [some (.ireturn), some (.aload_n 0), some (.iload_n 1), some (.iconst 0), some (.invokevirtual 118), none, none, some (.ifCond .ne 6), none, none, some (.bipush (-3)), none, some (.ireturn), some (.aload_n 0), some (.getfield 12), none],
  [none, some (.getfield 225), none, none, some (.iload_n 2), some (.aload_n 0), some (.getfield 67), none, none, some (.invokevirtual 249), none, none, some (.aload_n 0), some (.getfield 12), none, none],
  [some (.getfield 134), none, none, some (.iload_n 1), some (.aload_n 0), some (.getfield 67), none, none, some (.invokevirtual 253), none, none, some (.ireturn)]]
theorem q_code120_ok : q_dec prog_1_method_18_code q_code120 := f_chk_ok (B := [[42, 27, 182, 0, 83, 153, 0, 10, 28, 184, 0, 240, 154, 0, 5, 2],
  [172, 42, 27, 3, 182, 0, 118, 154, 0, 6, 16, 253, 172, 42, 180, 0],
  [12, 180, 0, 225, 28, 42, 180, 0, 67, 182, 0, 249, 42, 180, 0, 12],
  [180, 0, 134, 27, 42, 180, 0, 67, 182, 0, 253, 172]]) (by decide +kernel)
def q_code121 : List (List (Option Instr)) := [[some (.aload_n 0), some (.iload_n 1), some (.invokevirtual 71), none, none, some (.astore_n 2), some (.aload_n 2), some (.iconst (-1)), some (.invokestatic 75), none, none, some (.istore_n 3), some (.iload_n 3), some (.ifCond .ne 7), none, none],
  [some (.aload_n 2), some (.ifnonnull 5), none, none, some (.iload_n 3), some (.ireturn), some (.aload_n 0), some (.getfield 12), none, none, some (.getfield 225), none, none, some (.aload_n 2), some (.invokevirtual 257), none],
  [none, some (.aload_n 2), some (.getfield 261), none, none, some (.ireturn)]]
theorem q_code121_ok : q_dec prog_1_method_19_code q_code121 := f_chk_ok (B := [[42, 27, 182, 0, 71, 77, 44, 2, 184, 0, 75, 62, 29, 154, 0, 7],
  [44, 199, 0, 5, 29, 172, 42, 180, 0, 12, 180, 0, 225, 44, 182, 1],
  [1, 44, 180, 1, 5, 172]]) (by decide +kernel)
def q_code122 : List (List (Option Instr)) := [[some (.iload_n 1), some (.invokestatic 264), none, none, some (.ifCond .eq 10), none, none, some (.iload_n 2), some (.invokestatic 240), none, none, some (.ifCond .ne 5), none, none, some (.iconst (-1)), some (.ireturn)],
  [some (.aload_n 0), some (.getfield 12), none, none, some (.getfield 225), none, none, some (.iload_n 1), some (.bipush 12), none, some (.imul), some (.iload_n 2), some (.iadd), some (.invokevirtual 267), none, none],
  [some (.ireturn)]]
theorem q_code122_ok : q_dec prog_1_method_20_code q_code122 := f_chk_ok (B := [[27, 184, 1, 8, 153, 0, 10, 28, 184, 0, 240, 154, 0, 5, 2, 172],
  [42, 180, 0, 12, 180, 0, 225, 27, 16, 12, 104, 28, 96, 182, 1, 11],
  [172]]) (by decide +kernel)
def q_code123 : List (List (Option Instr)) := [[some (.aload_n 0), some (.iload_n 1), some (.invokevirtual 83), none, none, some (.ifCond .eq 17), none, none, some (.iload_n 2), some (.invokestatic 264), none, none, some (.ifCond .eq 10), none, none, some (.iload_n 3)],
  [some (.invokestatic 240), none, none, some (.ifCond .ne 5), none, none, some (.iconst (-1)), some (.ireturn), some (.aload_n 0), some (.iload_n 1), some (.iload_n 2), some (.iload_n 3), some (.invokevirtual 270), none, none, some (.ireturn)]]
theorem q_code123_ok : q_dec prog_1_method_21_code q_code123 := f_chk_ok (B := [[42, 27, 182, 0, 83, 153, 0, 17, 28, 184, 1, 8, 153, 0, 10, 29],
  [184, 0, 240, 154, 0, 5, 2, 172, 42, 27, 28, 29, 182, 1, 14, 172]]) (by decide +kernel)
def q_code124 : List (List (Option Instr)) := [[some (.aload_n 0), some (.iload_n 1), some (.invokevirtual 83), none, none, some (.ifCond .eq 10), none, none, some (.iload_n 2), some (.invokestatic 264), none, none, some (.ifCond .ne 5), none, none, some (.iconst (-1))],
  [some (.ireturn), some (.iconst 0), some (.istore_n 3), some (.iconst 0), some (.istore 4), none, some (.iload 4), none, some (.bipush 12), none, some (.if_icmp .ge 20), none, none, some (.iload_n 3), some (.aload_n 0), some (.iload_n 1)],
  [some (.iload_n 2), some (.iload 4), none, some (.invokevirtual 270), none, none, some (.iadd), some (.istore_n 3), some (.iinc 4 1), none, none, some (.goto (-21)), none, none, some (.iload_n 3), some (.ireturn)]]
theorem q_code124_ok : q_dec prog_1_method_22_code q_code124 := f_chk_ok (B := [[42, 27, 182, 0, 83, 153, 0, 10, 28, 184, 1, 8, 154, 0, 5, 2],
  [172, 3, 62, 3, 54, 4, 21, 4, 16, 12, 162, 0, 20, 29, 42, 27],
  [28, 21, 4, 182, 1, 14, 96, 62, 132, 4, 1, 167, 255, 235, 29, 172]]) (by decide +kernel)
def q_code125 : List (List (Option Instr)) := [[some (.aload_n 0), some (.iload_n 1), some (.iload_n 2), some (.invokevirtual 274), none, none, some (.istore_n 3), some (.iload_n 3), some (.ifCond .eq 7), none, none, some (.iload_n 3), some (.goto 14), none, none, some (.aload_n 0)],
  [some (.getfield 56), none, none, some (.getfield 277), none, none, some (.iconst 0), some (.invokestatic 96), none, none, some (.ireturn)]]
theorem q_code125_ok : q_dec prog_1_method_23_code q_code125 := f_chk_ok (B := [[42, 27, 28, 182, 1, 18, 62, 29, 153, 0, 7, 29, 167, 0, 14, 42],
  [180, 0, 56, 180, 1, 21, 3, 184, 0, 96, 172]]) (by decide +kernel)
def q_code126 : List (List (Option Instr)) := [[some (.iload_n 3), some (.iconst (-1)), some (.if_icmp .ge 5), none, none, some (.iconst (-1)), some (.ireturn), some (.aload_n 0), some (.iload_n 1), some (.iload_n 2), some (.invokevirtual 274), none, none, some (.istore 4), none, some (.iload 4)],
  [none, some (.ifCond .eq 8), none, none, some (.iload 4), none, some (.goto 11), none, none, some (.aload_n 0), some (.getfield 56), none, none, some (.iload_n 3), some (.invokevirtual 280), none],
  [none, some (.ireturn)]]
theorem q_code126_ok : q_dec prog_1_method_24_code q_code126 := f_chk_ok (B := [[29, 2, 162, 0, 5, 2, 172, 42, 27, 28, 182, 1, 18, 54, 4, 21],
  [4, 153, 0, 8, 21, 4, 167, 0, 11, 42, 180, 0, 56, 29, 182, 1],
  [24, 172]]) (by decide +kernel)
def q_code127 : List (List (Option Instr)) := [[some (.aload_n 0), some (.iload_n 1), some (.invokevirtual 71), none, none, some (.astore_n 3), some (.iload_n 2), some (.ifCond .lt 8), none, none, some (.iload_n 2), some (.iconst 1), some (.if_icmp .le 5), none, none, some (.iconst (-1))],
  [some (.ireturn), some (.aload_n 3), some (.iconst 0), some (.invokestatic 75), none, none, some (.istore 4), none, some (.iload 4), none, some (.ifCond .ne 7), none, none, some (.aload_n 3), some (.ifnonnull 6), none],
  [none, some (.iload 4), none, some (.ireturn), some (.aload_n 0), some (.aload_n 3), some (.invokevirtual 283), none, none, some (.ifCond .ne 6), none, none, some (.bipush (-13)), none, some (.ireturn), some (.aload_n 0)],
  [some (.getfield 42), none, none, some (.aload_n 3), some (.invokevirtual 287), none, none, some (.aload_n 0), some (.getfield 42), none, none, some (.invokevirtual 290), none, none, some (.istore 5), none],
  [some (.iload_n 2), some (.ifCond .ne 13), none, none, some (.aload_n 0), some (.getfield 42), none, none, some (.getfield 167), none, none, some (.goto 5), none, none, some (.iload 5), none],
  [some (.ireturn)]]
theorem q_code127_ok : q_dec prog_1_method_25_code q_code127 := f_chk_ok (B := [[42, 27, 182, 0, 71, 78, 28, 155, 0, 8, 28, 4, 164, 0, 5, 2],
  [172, 45, 3, 184, 0, 75, 54, 4, 21, 4, 154, 0, 7, 45, 199, 0],
  [6, 21, 4, 172, 42, 45, 182, 1, 27, 154, 0, 6, 16, 243, 172, 42],
  [180, 0, 42, 45, 182, 1, 31, 42, 180, 0, 42, 182, 1, 34, 54, 5],
  [28, 154, 0, 13, 42, 180, 0, 42, 180, 0, 167, 167, 0, 5, 21, 5],
  [172]]) (by decide +kernel)
def q_code128 : List (List (Option Instr)) := [[some (.iload_n 1), some (.invokestatic 240), none, none, some (.ifCond .eq 14), none, none, some (.iload_n 2), some (.ifCond .lt 10), none, none, some (.iload_n 2), some (.sipush 2099), none, none, some (.if_icmp .le 5)],
  [none, none, some (.iconst (-1)), some (.ireturn), some (.aload_n 0), some (.getfield 12), none, none, some (.getfield 293), none, none, some (.astore_n 3), some (.bipush 100), none, some (.aload_n 3), some (.getfield 297)],
  [none, none, some (.iload_n 1), some (.invokestatic 96), none, none, some (.imul), some (.aload_n 3), some (.getfield 302), none, none, some (.iload_n 1), some (.invokestatic 96), none, none, some (.iadd)],
  [some (.istore 4), none, some (.aload_n 3), some (.getfield 297), none, none, some (.iload_n 1), some (.iload_n 2), some (.bipush 100), none, some (.idiv), some (.invokestatic 142), none, none, some (.aload_n 3), some (.getfield 302)],
  [none, none, some (.iload_n 1), some (.iload_n 2), some (.bipush 100), none, some (.irem), some (.invokestatic 142), none, none, some (.iload 4), none, some (.ireturn)]]
theorem q_code128_ok : q_dec prog_1_method_26_code q_code128 := f_chk_ok (B := [[27, 184, 0, 240, 153, 0, 14, 28, 155, 0, 10, 28, 17, 8, 51, 164],
  [0, 5, 2, 172, 42, 180, 0, 12, 180, 1, 37, 78, 16, 100, 45, 180],
  [1, 41, 27, 184, 0, 96, 104, 45, 180, 1, 46, 27, 184, 0, 96, 96],
  [54, 4, 45, 180, 1, 41, 27, 28, 16, 100, 108, 184, 0, 142, 45, 180],
  [1, 46, 27, 28, 16, 100, 112, 184, 0, 142, 21, 4, 172]]) (by decide +kernel)
def q_code129 : List (List (Option Instr)) := [[some (.iload_n 1), some (.ifCond .lt 9), none, none, some (.iload_n 1), some (.bipush 30), none, some (.if_icmp .le 5), none, none, some (.iconst (-1)), some (.ireturn), some (.aload_n 0), some (.getfield 12), none, none],
  [some (.getfield 293), none, none, some (.getfield 305), none, none, some (.istore_n 2), some (.aload_n 0), some (.getfield 12), none, none, some (.getfield 293), none, none, some (.iload_n 1), some (.putfield 305)],
  [none, none, some (.iload_n 2), some (.ireturn)]]
theorem q_code129_ok : q_dec prog_1_method_27_code q_code129 := f_chk_ok (B := [[27, 155, 0, 9, 27, 16, 30, 164, 0, 5, 2, 172, 42, 180, 0, 12],
  [180, 1, 37, 180, 1, 49, 61, 42, 180, 0, 12, 180, 1, 37, 27, 181],
  [1, 49, 28, 172]]) (by decide +kernel)
def q_code130 : List (List (Option Instr)) := [[some (.iload_n 1), some (.iconst (-1)), some (.if_icmp .lt 9), none, none, some (.iload_n 1), some (.bipush 12), none, some (.if_icmp .lt 5), none, none, some (.iconst (-1)), some (.ireturn), some (.aload_n 0), some (.getfield 12), none],
  [none, some (.getfield 293), none, none, some (.invokevirtual 308), none, none, some (.iload_n 1), some (.ifCond .ge 16), none, none, some (.aload_n 0), some (.getfield 12), none, none, some (.getfield 293)],
  [none, none, some (.invokevirtual 311), none, none, some (.goto 14), none, none, some (.aload_n 0), some (.getfield 12), none, none, some (.getfield 293), none, none, some (.iload_n 1)],
  [some (.invokevirtual 314), none, none, some (.ireturn)]]
theorem q_code130_ok : q_dec prog_1_method_28_code q_code130 := f_chk_ok (B := [[27, 2, 161, 0, 9, 27, 16, 12, 161, 0, 5, 2, 172, 42, 180, 0],
  [12, 180, 1, 37, 182, 1, 52, 27, 156, 0, 16, 42, 180, 0, 12, 180],
  [1, 37, 182, 1, 55, 167, 0, 14, 42, 180, 0, 12, 180, 1, 37, 27],
  [182, 1, 58, 172]]) (by decide +kernel)
def q_code131 : List (List (Option Instr)) := [[some (.aload_n 0), some (.iload_n 1), some (.invokevirtual 83), none, none, some (.ifCond .eq 13), none, none, some (.iload_n 2), some (.ifCond .lt 9), none, none, some (.iload_n 2), some (.bipush 16), none, some (.if_icmp .lt 5)],
  [none, none, some (.iconst (-1)), some (.ireturn), some (.aload_n 0), some (.iload_n 1), some (.iload_n 2), some (.invokevirtual 317), none, none, some (.ireturn)]]
theorem q_code131_ok : q_dec prog_1_method_29_code q_code131 := f_chk_ok (B := [[42, 27, 182, 0, 83, 153, 0, 13, 28, 155, 0, 9, 28, 16, 16, 161],
  [0, 5, 2, 172, 42, 27, 28, 182, 1, 61, 172]]) (by decide +kernel)
def q_code132 : List (List (Option Instr)) := [[some (.aload_n 0), some (.iload_n 1), some (.invokevirtual 83), none, none, some (.ifCond .eq 12), none, none, some (.iload_n 2), some (.ifCond .lt 8), none, none, some (.iload_n 2), some (.iconst 4), some (.if_icmp .lt 14), none],
  [none, some (.new 149), none, none, some (.dup), some (.ldc_w 320), none, none, some (.invokespecial 153), none, none, some (.athrow), some (.iconst 1), some (.iload_n 2), some (.ishl), some (.istore 4)],
  [none, some (.iload_n 3), some (.ifCond .ne 27), none, none, some (.aload_n 0), some (.iload_n 1), some (.iconst 2), some (.iload 4), none, some (.imul), some (.iconst 1), some (.isub), some (.invokevirtual 317), none, none],
  [some (.i2l), some (.aload_n 0), some (.iload_n 1), some (.iload 4), none, some (.iconst 1), some (.isub), some (.invokevirtual 317), none, none, some (.i2l), some (.lsub), some (.lreturn), some (.lconst 0), some (.lstore 5), none],
  [some (.iconst 0), some (.istore 7), none, some (.iload 7), none, some (.bipush 16), none, some (.if_icmp .ge 59), none, none, some (.iload 7), none, some (.iload 4), none, some (.iand), some (.ifCond .ne 45)],
  [none, none, some (.aload_n 0), some (.iload_n 1), some (.iload 7), none, some (.iload 4), none, some (.ior), some (.invokevirtual 317), none, none, some (.i2l), some (.aload_n 0), some (.iload_n 1), some (.iload 7)],
  [none, some (.invokevirtual 317), none, none, some (.i2l), some (.lsub), some (.lstore 8), none, some (.lload 5), none, some (.lload 8), none, some (.getstatic 322), none, none, some (.iload 7)],
  [none, some (.invokestatic 325), none, none, some (.invokestatic 96), none, none, some (.i2l), some (.lmul), some (.ladd), some (.lstore 5), none, some (.iinc 7 1), none, none, some (.goto (-60))],
  [none, none, some (.lload 5), none, some (.lreturn)]]
theorem q_code132_ok : q_dec prog_1_method_30_code q_code132 := f_chk_ok (B := [[42, 27, 182, 0, 83, 153, 0, 12, 28, 155, 0, 8, 28, 7, 161, 0],
  [14, 187, 0, 149, 89, 19, 1, 64, 183, 0, 153, 191, 4, 28, 120, 54],
  [4, 29, 154, 0, 27, 42, 27, 5, 21, 4, 104, 4, 100, 182, 1, 61],
  [133, 42, 27, 21, 4, 4, 100, 182, 1, 61, 133, 101, 173, 9, 55, 5],
  [3, 54, 7, 21, 7, 16, 16, 162, 0, 59, 21, 7, 21, 4, 126, 154],
  [0, 45, 42, 27, 21, 7, 21, 4, 128, 182, 1, 61, 133, 42, 27, 21],
  [7, 182, 1, 61, 133, 101, 55, 8, 22, 5, 22, 8, 178, 1, 66, 21],
  [7, 184, 1, 69, 184, 0, 96, 133, 105, 97, 55, 5, 132, 7, 1, 167],
  [255, 196, 22, 5, 173]]) (by decide +kernel)
def q_code133 : List (List (Option Instr)) := [[some (.aload_n 0), some (.iload_n 1), some (.invokevirtual 83), none, none, some (.ifCond .ne 5), none, none, some (.iconst (-1)), some (.ireturn), some (.aload_n 0), some (.getfield 42), none, none, some (.iload_n 1), some (.invokevirtual 106)],
  [none, none, some (.aload_n 0), some (.getfield 42), none, none, some (.invokevirtual 330), none, none, some (.ireturn)]]
theorem q_code133_ok : q_dec prog_1_method_31_code q_code133 := f_chk_ok (B := [[42, 27, 182, 0, 83, 154, 0, 5, 2, 172, 42, 180, 0, 42, 27, 182],
  [0, 106, 42, 180, 0, 42, 182, 1, 74, 172]]) (by decide +kernel)
def q_code134 : List (List (Option Instr)) := [[some (.iload_n 3), some (.iconst (-1)), some (.if_icmp .ge 5), none, none, some (.iconst (-1)), some (.ireturn), some (.aload_n 0), some (.iload_n 1), some (.iload_n 2), some (.invokevirtual 333), none, none, some (.istore 4), none, some (.iload 4)],
  [none, some (.ifCond .eq 8), none, none, some (.iload 4), none, some (.goto 11), none, none, some (.aload_n 0), some (.getfield 63), none, none, some (.iload_n 3), some (.invokevirtual 336), none],
  [none, some (.ireturn)]]
theorem q_code134_ok : q_dec prog_1_method_32_code q_code134 := f_chk_ok (B := [[29, 2, 162, 0, 5, 2, 172, 42, 27, 28, 182, 1, 77, 54, 4, 21],
  [4, 153, 0, 8, 21, 4, 167, 0, 11, 42, 180, 0, 63, 29, 182, 1],
  [80, 172]]) (by decide +kernel)
def q_code135 : List (List (Option Instr)) := [[some (.aload_n 0), some (.iload_n 1), some (.iload_n 2), some (.invokevirtual 333), none, none, some (.istore_n 3), some (.iload_n 3), some (.ifCond .eq 7), none, none, some (.iload_n 3), some (.goto 10), none, none, some (.aload_n 0)],
  [some (.getfield 63), none, none, some (.invokevirtual 339), none, none, some (.ireturn)]]
theorem q_code135_ok : q_dec prog_1_method_33_code q_code135 := f_chk_ok (B := [[42, 27, 28, 182, 1, 77, 62, 29, 153, 0, 7, 29, 167, 0, 10, 42],
  [180, 0, 63, 182, 1, 83, 172]]) (by decide +kernel)
def q_code136 : List (List (Option Instr)) := [[some (.aload_n 0), some (.getfield 16), none, none, some (.aload_n 0), some (.getfield 12), none, none, some (.invokevirtual 342), none, none, some (.aload_n 0), some (.iconst 1), some (.putfield 19), none, none],
  [some (.aload_n 0), some (.getfield 12), none, none, some (.getfield 87), none, none, some (.getfield 345), none, none, some (.ireturn)]]
theorem q_code136_ok : q_dec prog_1_method_34_code q_code136 := f_chk_ok (B := [[42, 180, 0, 16, 42, 180, 0, 12, 182, 1, 86, 42, 4, 181, 0, 19],
  [42, 180, 0, 12, 180, 0, 87, 180, 1, 89, 172]]) (by decide +kernel)
def q_code137 : List (List (Option Instr)) := [[some (.aload_n 0), some (.getfield 19), none, none, some (.ifCond .ne 6), none, none, some (.bipush (-3)), none, some (.ireturn), some (.aload_n 0), some (.getfield 12), none, none, some (.aload_n 0), some (.getfield 16)],
  [none, none, some (.invokevirtual 342), none, none, some (.aload_n 0), some (.getfield 12), none, none, some (.getfield 87), none, none, some (.getfield 345), none, none, some (.ireturn)]]
theorem q_code137_ok : q_dec prog_1_method_35_code q_code137 := f_chk_ok (B := [[42, 180, 0, 19, 154, 0, 6, 16, 253, 172, 42, 180, 0, 12, 42, 180],
  [0, 16, 182, 1, 86, 42, 180, 0, 12, 180, 0, 87, 180, 1, 89, 172]]) (by decide +kernel)
def q_code138 : List (List (Option Instr)) := [[some (.iload_n 1), some (.ifCond .lt 9), none, none, some (.iload_n 1), some (.bipush 8), none, some (.if_icmp .le 5), none, none, some (.iconst (-1)), some (.ireturn), some (.iload_n 1), some (.ifCond .ne 14), none, none],
  [some (.aload_n 0), some (.getfield 12), none, none, some (.getfield 87), none, none, some (.getfield 345), none, none, some (.ireturn), some (.iload_n 1), some (.iconst 4), some (.if_icmp .gt 17), none, none],
  [some (.aload_n 0), some (.getfield 12), none, none, some (.getfield 87), none, none, some (.iload_n 1), some (.iconst 1), some (.isub), some (.invokevirtual 346), none, none, some (.ireturn), some (.iload_n 1), some (.iconst 5)],
  [some (.if_icmp .ne 21), none, none, some (.aload_n 0), some (.getfield 12), none, none, some (.getfield 134), none, none, some (.aload_n 0), some (.getfield 12), none, none, some (.getfield 87), none],
  [none, some (.invokevirtual 349), none, none, some (.ireturn), some (.iload_n 1), some (.bipush 6), none, some (.if_icmp .ne 14), none, none, some (.aload_n 0), some (.getfield 12), none, none, some (.getfield 225)],
  [none, none, some (.invokevirtual 353), none, none, some (.ireturn), some (.iload_n 1), some (.bipush 7), none, some (.if_icmp .ne 16), none, none, some (.aload_n 0), some (.getfield 12), none, none],
  [some (.getfield 225), none, none, some (.getfield 356), none, none, some (.goto 13), none, none, some (.aload_n 0), some (.getfield 12), none, none, some (.getfield 293), none, none],
  [some (.getfield 305), none, none, some (.ireturn)]]
theorem q_code138_ok : q_dec prog_1_method_36_code q_code138 := f_chk_ok (B := [[27, 155, 0, 9, 27, 16, 8, 164, 0, 5, 2, 172, 27, 154, 0, 14],
  [42, 180, 0, 12, 180, 0, 87, 180, 1, 89, 172, 27, 7, 163, 0, 17],
  [42, 180, 0, 12, 180, 0, 87, 27, 4, 100, 182, 1, 90, 172, 27, 8],
  [160, 0, 21, 42, 180, 0, 12, 180, 0, 134, 42, 180, 0, 12, 180, 0],
  [87, 182, 1, 93, 172, 27, 16, 6, 160, 0, 14, 42, 180, 0, 12, 180],
  [0, 225, 182, 1, 97, 172, 27, 16, 7, 160, 0, 16, 42, 180, 0, 12],
  [180, 0, 225, 180, 1, 100, 167, 0, 13, 42, 180, 0, 12, 180, 1, 37],
  [180, 1, 49, 172]]) (by decide +kernel)
def q_code139 : List (List (Option Instr)) := [[some (.aload_n 0), some (.iload_n 1), some (.invokevirtual 71), none, none, some (.astore 4), none, some (.aload 4), none, some (.ifnull 25), none, none, some (.iload_n 2), some (.ifCond .lt 21), none, none],
  [some (.iload_n 2), some (.iconst 1), some (.if_icmp .gt 16), none, none, some (.iload_n 2), some (.iconst 1), some (.if_icmp .ne 13), none, none, some (.aload_n 0), some (.iload_n 3), some (.invokevirtual 83), none, none, some (.ifCond .ne 5)],
  [none, none, some (.iconst (-1)), some (.ireturn), some (.iload_n 2), some (.ifCond .ne 11), none, none, some (.aload 4), none, some (.invokevirtual 359), none, none, some (.goto 18), none, none],
  [some (.aload 4), none, some (.aload_n 0), some (.iload_n 3), some (.invokevirtual 362), none, none, some (.aload_n 0), some (.iload_n 3), some (.invokevirtual 365), none, none, some (.invokevirtual 368), none, none, some (.iconst 0)],
  [some (.ireturn)]]
theorem q_code139_ok : q_dec prog_1_method_37_code q_code139 := f_chk_ok (B := [[42, 27, 182, 0, 71, 58, 4, 25, 4, 198, 0, 25, 28, 155, 0, 21],
  [28, 4, 163, 0, 16, 28, 4, 160, 0, 13, 42, 29, 182, 0, 83, 154],
  [0, 5, 2, 172, 28, 154, 0, 11, 25, 4, 182, 1, 103, 167, 0, 18],
  [25, 4, 42, 29, 182, 1, 106, 42, 29, 182, 1, 109, 182, 1, 112, 3],
  [172]]) (by decide +kernel)
def q_code140 : List (List (Option Instr)) := [[some (.aload_n 0), some (.iload_n 1), some (.invokevirtual 71), none, none, some (.astore 4), none, some (.aload 4), none, some (.ifnull 18), none, none, some (.iload_n 2), some (.ifCond .lt 14), none, none],
  [some (.iload_n 2), some (.iconst 2), some (.if_icmp .gt 9), none, none, some (.iload_n 3), some (.bipush 120), none, some (.if_icmp .le 5), none, none, some (.iconst (-1)), some (.ireturn), some (.iload_n 3), some (.ifCond .ge 6), none],
  [none, some (.bipush (-14)), none, some (.ireturn), some (.aload 4), none, some (.iload_n 2), some (.iload_n 3), some (.invokevirtual 371), none, none, some (.iconst 0), some (.ireturn)]]
theorem q_code140_ok : q_dec prog_1_method_38_code q_code140 := f_chk_ok (B := [[42, 27, 182, 0, 71, 58, 4, 25, 4, 198, 0, 18, 28, 155, 0, 14],
  [28, 5, 163, 0, 9, 29, 16, 120, 164, 0, 5, 2, 172, 29, 156, 0],
  [6, 16, 242, 172, 25, 4, 28, 29, 182, 1, 115, 3, 172]]) (by decide +kernel)
def q_code141 : List (List (Option Instr)) := [[some (.aload_n 0), some (.iload_n 1), some (.invokevirtual 71), none, none, some (.astore 4), none, some (.aload 4), none, some (.iconst (-1)), some (.invokestatic 75), none, none, some (.istore 5), none, some (.iload 5)],
  [none, some (.ifCond .ne 8), none, none, some (.aload 4), none, some (.ifnonnull 6), none, none, some (.iload 5), none, some (.ireturn), some (.iload_n 2), some (.ifCond .lt 12), none, none],
  [some (.iload_n 2), some (.aload 4), none, some (.getfield 261), none, none, some (.if_icmp .lt 6), none, none, some (.bipush (-13)), none, some (.ireturn), some (.aload 4), none, some (.getfield 374), none],
  [none, some (.iload_n 2), some (.aload 4), none, some (.iload_n 3), some (.invokevirtual 377), none, none, some (.invokestatic 142), none, none, some (.iconst 0), some (.ireturn)]]
theorem q_code141_ok : q_dec prog_1_method_39_code q_code141 := f_chk_ok (B := [[42, 27, 182, 0, 71, 58, 4, 25, 4, 2, 184, 0, 75, 54, 5, 21],
  [5, 154, 0, 8, 25, 4, 199, 0, 6, 21, 5, 172, 28, 155, 0, 12],
  [28, 25, 4, 180, 1, 5, 161, 0, 6, 16, 243, 172, 25, 4, 180, 1],
  [118, 28, 25, 4, 29, 182, 1, 121, 184, 0, 142, 3, 172]]) (by decide +kernel)
def q_code142 : List (List (Option Instr)) := [[some (.aload_n 0), some (.iload_n 1), some (.invokevirtual 71), none, none, some (.astore_n 3), some (.aload_n 3), some (.ifnonnull 14), none, none, some (.new 149), none, none, some (.dup), some (.ldc_w 380), none],
  [none, some (.invokespecial 153), none, none, some (.athrow), some (.aload_n 3), some (.getfield 382), none, none, some (.ifCond .eq 15), none, none, some (.iload_n 2), some (.ifCond .lt 11), none, none],
  [some (.iload_n 2), some (.aload_n 3), some (.getfield 261), none, none, some (.if_icmp .lt 14), none, none, some (.new 385), none, none, some (.dup), some (.ldc_w 387), none, none, some (.invokespecial 389)],
  [none, none, some (.athrow), some (.aload_n 3), some (.getfield 374), none, none, some (.iload_n 2), some (.invokestatic 96), none, none, some (.i2l), some (.lreturn)]]
theorem q_code142_ok : q_dec prog_1_method_40_code q_code142 := f_chk_ok (B := [[42, 27, 182, 0, 71, 78, 45, 199, 0, 14, 187, 0, 149, 89, 19, 1],
  [124, 183, 0, 153, 191, 45, 180, 1, 126, 153, 0, 15, 28, 155, 0, 11],
  [28, 45, 180, 1, 5, 161, 0, 14, 187, 1, 129, 89, 19, 1, 131, 183],
  [1, 133, 191, 45, 180, 1, 118, 28, 184, 0, 96, 133, 173]]) (by decide +kernel)
def q_code143 : List (List (Option Instr)) := [[some (.aload_n 0), some (.iload_n 1), some (.invokevirtual 71), none, none, some (.astore 6), none, some (.aload_n 0), some (.iload_n 3), some (.invokevirtual 71), none, none, some (.astore 7), none, some (.aload 6), none],
  [some (.ifnull 8), none, none, some (.aload 7), none, some (.ifnonnull 5), none, none, some (.iconst (-1)), some (.ireturn), some (.aload 6), none, some (.invokevirtual 390), none, none, some (.ifCond .ne 11)],
  [none, none, some (.aload 7), none, some (.invokevirtual 390), none, none, some (.ifCond .eq 6), none, none, some (.bipush (-11)), none, some (.ireturn), some (.aload 6), none, some (.getfield 382)],
  [none, none, some (.ifCond .eq 24), none, none, some (.aload 7), none, some (.getfield 382), none, none, some (.ifCond .eq 16), none, none, some (.aload 6), none, some (.getfield 394)],
  [none, none, some (.aload 7), none, some (.getfield 394), none, none, some (.if_icmp .eq 6), none, none, some (.bipush (-12)), none, some (.ireturn), some (.aload 6), none, some (.iload_n 2)],
  [some (.iload 5), none, some (.invokevirtual 397), none, none, some (.ifCond .eq 15), none, none, some (.aload 7), none, some (.iload 4), none, some (.iload 5), none, some (.invokevirtual 397), none],
  [none, some (.ifCond .ne 6), none, none, some (.bipush (-13)), none, some (.ireturn), some (.aload 6), none, some (.getfield 374), none, none, some (.iload_n 2), some (.aload 7), none, some (.getfield 374)],
  [none, none, some (.iload 4), none, some (.iload 5), none, some (.invokestatic 400), none, none, some (.iload 5), none, some (.ireturn)]]
theorem q_code143_ok : q_dec prog_1_method_41_code q_code143 := f_chk_ok (B := [[42, 27, 182, 0, 71, 58, 6, 42, 29, 182, 0, 71, 58, 7, 25, 6],
  [198, 0, 8, 25, 7, 199, 0, 5, 2, 172, 25, 6, 182, 1, 134, 154],
  [0, 11, 25, 7, 182, 1, 134, 153, 0, 6, 16, 245, 172, 25, 6, 180],
  [1, 126, 153, 0, 24, 25, 7, 180, 1, 126, 153, 0, 16, 25, 6, 180],
  [1, 138, 25, 7, 180, 1, 138, 159, 0, 6, 16, 244, 172, 25, 6, 28],
  [21, 5, 182, 1, 141, 153, 0, 15, 25, 7, 21, 4, 21, 5, 182, 1],
  [141, 154, 0, 6, 16, 243, 172, 25, 6, 180, 1, 118, 28, 25, 7, 180],
  [1, 118, 21, 4, 21, 5, 184, 1, 144, 21, 5, 172]]) (by decide +kernel)
def q_code144 : List (List (Option Instr)) := [[some (.aload_n 0), some (.iload_n 1), some (.invokevirtual 71), none, none, some (.astore_n 2), some (.aload_n 2), some (.invokestatic 406), none, none, some (.istore_n 3), some (.iload_n 3), some (.ifCond .ne 7), none, none, some (.aload_n 2)],
  [some (.ifnonnull 7), none, none, some (.iload_n 3), some (.goto 7), none, none, some (.aload_n 2), some (.getfield 410), none, none, some (.ireturn)]]
theorem q_code144_ok : q_dec prog_1_method_42_code q_code144 := f_chk_ok (B := [[42, 27, 182, 0, 71, 77, 44, 184, 1, 150, 62, 29, 154, 0, 7, 44],
  [199, 0, 7, 29, 167, 0, 7, 44, 180, 1, 154, 172]]) (by decide +kernel)
def q_code145 : List (List (Option Instr)) := [[some (.aload_n 0), some (.iload_n 1), some (.invokevirtual 71), none, none, some (.astore_n 2), some (.aload_n 2), some (.invokestatic 406), none, none, some (.istore_n 3), some (.iload_n 3), some (.ifCond .ne 7), none, none, some (.aload_n 2)],
  [some (.ifnonnull 7), none, none, some (.iload_n 3), some (.goto 7), none, none, some (.aload_n 2), some (.getfield 413), none, none, some (.ireturn)]]
theorem q_code145_ok : q_dec prog_1_method_43_code q_code145 := f_chk_ok (B := [[42, 27, 182, 0, 71, 77, 44, 184, 1, 150, 62, 29, 154, 0, 7, 44],
  [199, 0, 7, 29, 167, 0, 7, 44, 180, 1, 157, 172]]) (by decide +kernel)
def q_code146 : List (List (Option Instr)) := [[some (.aload_n 0), some (.ifnull 19), none, none, some (.iload_n 1), some (.ifCond .lt 15), none, none, some (.iload_n 1), some (.aload_n 0), some (.arraylength), some (.if_icmp .ge 9), none, none, some (.aload_n 0), some (.iload_n 1)],
  [some (.iaload), some (.goto 4), none, none, some (.iconst 0), some (.ireturn)]]
theorem q_code146_ok : q_dec prog_1_method_44_code q_code146 := f_chk_ok (B := [[42, 198, 0, 19, 27, 155, 0, 15, 27, 42, 190, 162, 0, 9, 42, 27],
  [46, 167, 0, 4, 3, 172]]) (by decide +kernel)
def q_code147 : List (List (Option Instr)) := [[some (.aload_n 0), some (.ifnull 17), none, none, some (.iload_n 1), some (.ifCond .lt 13), none, none, some (.iload_n 1), some (.aload_n 0), some (.arraylength), some (.if_icmp .ge 7), none, none, some (.aload_n 0), some (.iload_n 1)],
  [some (.iload_n 2), some (.iastore), some (.return_)]]
theorem q_code147_ok : q_dec prog_1_method_45_code q_code147 := f_chk_ok (B := [[42, 198, 0, 17, 27, 155, 0, 13, 27, 42, 190, 162, 0, 7, 42, 27],
  [28, 79, 177]]) (by decide +kernel)
def q_code148 : List (List (Option Instr)) := [[some (.aload_n 0), some (.ifnull 23), none, none, some (.aload_n 1), some (.ifnull 19), none, none, some (.aload_n 0), some (.arraylength), some (.aload_n 1), some (.arraylength), some (.if_icmp .gt 12), none, none, some (.aload_n 0)],
  [some (.iconst 0), some (.aload_n 1), some (.iconst 0), some (.aload_n 0), some (.arraylength), some (.invokestatic 400), none, none, some (.return_)]]
theorem q_code148_ok : q_dec prog_1_method_46_code q_code148 := f_chk_ok (B := [[42, 198, 0, 23, 43, 198, 0, 19, 42, 190, 43, 190, 163, 0, 12, 42],
  [3, 43, 3, 42, 190, 184, 1, 144, 177]]) (by decide +kernel)
def q_code149 : List (List (Option Instr)) := [[some (.iload_n 1), some (.ifCond .lt 21), none, none, some (.iload_n 1), some (.aload_n 0), some (.getfield 12), none, none, some (.getfield 87), none, none, some (.getfield 345), none, none, some (.if_icmp .ge 7)],
  [none, none, some (.iconst 1), some (.goto 4), none, none, some (.iconst 0), some (.ireturn)]]
theorem q_code149_ok : q_dec prog_1_method_47_code q_code149 := f_chk_ok (B := [[27, 155, 0, 21, 27, 42, 180, 0, 12, 180, 0, 87, 180, 1, 89, 162],
  [0, 7, 4, 167, 0, 4, 3, 172]]) (by decide +kernel)
def q_code150 : List (List (Option Instr)) := [[some (.aload_n 0), some (.getfield 12), none, none, some (.getfield 87), none, none, some (.getfield 91), none, none, some (.iload_n 1), some (.invokestatic 96), none, none, some (.iload_n 2), some (.if_icmp .ne 7)],
  [none, none, some (.iconst 1), some (.goto 4), none, none, some (.iconst 0), some (.ireturn)]]
theorem q_code150_ok : q_dec prog_1_method_48_code q_code150 := f_chk_ok (B := [[42, 180, 0, 12, 180, 0, 87, 180, 0, 91, 27, 184, 0, 96, 28, 160],
  [0, 7, 4, 167, 0, 4, 3, 172]]) (by decide +kernel)
def q_code151 : List (List (Option Instr)) := [[some (.iload_n 0), some (.ifCond .lt 13), none, none, some (.iload_n 0), some (.bipush 12), none, some (.if_icmp .ge 7), none, none, some (.iconst 1), some (.goto 4), none, none, some (.iconst 0), some (.ireturn)]]
theorem q_code151_ok : q_dec prog_1_method_49_code q_code151 := f_chk_ok (B := [[26, 155, 0, 13, 26, 16, 12, 162, 0, 7, 4, 167, 0, 4, 3, 172]]) (by decide +kernel)
def q_code152 : List (List (Option Instr)) := [[some (.iload_n 0), some (.ifCond .lt 13), none, none, some (.iload_n 0), some (.bipush 10), none, some (.if_icmp .ge 7), none, none, some (.iconst 1), some (.goto 4), none, none, some (.iconst 0), some (.ireturn)]]
theorem q_code152_ok : q_dec prog_1_method_50_code q_code152 := f_chk_ok (B := [[26, 155, 0, 13, 26, 16, 10, 162, 0, 7, 4, 167, 0, 4, 3, 172]]) (by decide +kernel)
def q_code153 : List (List (Option Instr)) := [[some (.iload_n 0), some (.ifCond .lt 25), none, none, some (.iload_n 0), some (.bipush 100), none, some (.idiv), some (.bipush 20), none, some (.if_icmp .ge 16), none, none, some (.iload_n 0), some (.bipush 100), none],
  [some (.irem), some (.bipush 12), none, some (.if_icmp .ge 7), none, none, some (.iconst 1), some (.goto 4), none, none, some (.iconst 0), some (.ireturn)]]
theorem q_code153_ok : q_dec prog_1_method_51_code q_code153 := f_chk_ok (B := [[26, 155, 0, 25, 26, 16, 100, 108, 16, 20, 162, 0, 16, 26, 16, 100],
  [112, 16, 12, 162, 0, 7, 4, 167, 0, 4, 3, 172]]) (by decide +kernel)
def q_code154 : List (List (Option Instr)) := [[some (.iload_n 1), some (.ifCond .lt 21), none, none, some (.iload_n 1), some (.aload_n 0), some (.getfield 25), none, none, some (.arraylength), some (.if_icmp .ge 12), none, none, some (.aload_n 0), some (.getfield 25), none],
  [none, some (.iload_n 1), some (.aaload), some (.goto 4), none, none, some (.aconst_null), some (.areturn)]]
theorem q_code154_ok : q_dec prog_1_method_52_code q_code154 := f_chk_ok (B := [[27, 155, 0, 21, 27, 42, 180, 0, 25, 190, 162, 0, 12, 42, 180, 0],
  [25, 27, 50, 167, 0, 4, 1, 176]]) (by decide +kernel)
def q_code155 : List (List (Option Instr)) := [[some (.iload_n 1), some (.ifCond .lt 19), none, none, some (.iload_n 1), some (.aload_n 0), some (.getfield 12), none, none, some (.getfield 416), none, none, some (.arraylength), some (.if_icmp .ge 7), none, none],
  [some (.iconst 1), some (.goto 4), none, none, some (.iconst 0), some (.istore_n 2), some (.iload_n 2), some (.ifCond .eq 24), none, none, some (.aload_n 0), some (.iload_n 1), some (.iconst 3), some (.invokevirtual 118), none, none],
  [some (.ifCond .eq 15), none, none, some (.aload_n 0), some (.getfield 12), none, none, some (.getfield 416), none, none, some (.iload_n 1), some (.aaload), some (.goto 4), none, none, some (.aconst_null)],
  [some (.areturn)]]
theorem q_code155_ok : q_dec prog_1_method_53_code q_code155 := f_chk_ok (B := [[27, 155, 0, 19, 27, 42, 180, 0, 12, 180, 1, 160, 190, 162, 0, 7],
  [4, 167, 0, 4, 3, 61, 28, 153, 0, 24, 42, 27, 6, 182, 0, 118],
  [153, 0, 15, 42, 180, 0, 12, 180, 1, 160, 27, 50, 167, 0, 4, 1],
  [176]]) (by decide +kernel)
def q_code156 : List (List (Option Instr)) := [[some (.aload_n 0), some (.ifnonnull 5), none, none, some (.iconst (-1)), some (.ireturn), some (.aload_n 0), some (.invokevirtual 390), none, none, some (.ifCond .eq 6), none, none, some (.bipush (-11)), none, some (.ireturn)],
  [some (.aload_n 0), some (.getfield 382), none, none, some (.ifCond .eq 20), none, none, some (.iload_n 1), some (.iconst (-1)), some (.if_icmp .eq 11), none, none, some (.iload_n 1), some (.aload_n 0), some (.getfield 394), none],
  [none, some (.if_icmp .ne 7), none, none, some (.iconst 0), some (.goto 5), none, none, some (.bipush (-12)), none, some (.ireturn)]]
theorem q_code156_ok : q_dec prog_1_method_54_code q_code156 := f_chk_ok (B := [[42, 199, 0, 5, 2, 172, 42, 182, 1, 134, 153, 0, 6, 16, 245, 172],
  [42, 180, 1, 126, 153, 0, 20, 27, 2, 159, 0, 11, 27, 42, 180, 1],
  [138, 160, 0, 7, 3, 167, 0, 5, 16, 244, 172]]) (by decide +kernel)
def q_code157 : List (List (Option Instr)) := [[some (.aload_n 0), some (.ifnonnull 5), none, none, some (.iconst (-1)), some (.ireturn), some (.aload_n 0), some (.invokevirtual 390), none, none, some (.ifCond .eq 6), none, none, some (.bipush (-11)), none, some (.ireturn)],
  [some (.aload_n 0), some (.getfield 420), none, none, some (.ifCond .eq 7), none, none, some (.iconst 0), some (.goto 5), none, none, some (.bipush (-12)), none, some (.ireturn)]]
theorem q_code157_ok : q_dec prog_1_method_55_code q_code157 := f_chk_ok (B := [[42, 199, 0, 5, 2, 172, 42, 182, 1, 134, 153, 0, 6, 16, 245, 172],
  [42, 180, 1, 164, 153, 0, 7, 3, 167, 0, 5, 16, 244, 172]]) (by decide +kernel)
def q_code158 : List (List (Option Instr)) := [[some (.aload_n 0), some (.getfield 42), none, none, some (.iload_n 1), some (.invokevirtual 106), none, none, some (.aload_n 0), some (.getfield 42), none, none, some (.invokevirtual 423), none, none, some (.aload_n 0)],
  [some (.getfield 42), none, none, some (.iload_n 2), some (.iload_n 2), some (.invokevirtual 426), none, none, some (.aload_n 0), some (.getfield 42), none, none, some (.iload_n 2), some (.invokevirtual 173), none, none],
  [some (.ireturn)]]
theorem q_code158_ok : q_dec prog_1_method_56_code q_code158 := f_chk_ok (B := [[42, 180, 0, 42, 27, 182, 0, 106, 42, 180, 0, 42, 182, 1, 167, 42],
  [180, 0, 42, 28, 28, 182, 1, 170, 42, 180, 0, 42, 28, 182, 0, 173],
  [172]]) (by decide +kernel)
def q_code159 : List (List (Option Instr)) := [[some (.aload_n 0), some (.getfield 12), none, none, some (.getfield 225), none, none, some (.iload_n 3), some (.aload_n 0), some (.getfield 67), none, none, some (.invokevirtual 249), none, none, some (.aload_n 0)],
  [some (.getfield 42), none, none, some (.iload_n 1), some (.invokevirtual 106), none, none, some (.aload_n 0), some (.getfield 42), none, none, some (.aload_n 0), some (.getfield 67), none, none, some (.aload_n 0)],
  [some (.getfield 12), none, none, some (.getfield 225), none, none, some (.iload_n 2), some (.bipush 12), none, some (.imul), some (.iload_n 3), some (.iadd), some (.invokevirtual 267), none, none, some (.invokevirtual 429)],
  [none, none, some (.aload_n 0), some (.getfield 42), none, none, some (.invokevirtual 164), none, none, some (.aload_n 0), some (.getfield 42), none, none, some (.getfield 167), none, none],
  [some (.ireturn)]]
theorem q_code159_ok : q_dec prog_1_method_57_code q_code159 := f_chk_ok (B := [[42, 180, 0, 12, 180, 0, 225, 29, 42, 180, 0, 67, 182, 0, 249, 42],
  [180, 0, 42, 27, 182, 0, 106, 42, 180, 0, 42, 42, 180, 0, 67, 42],
  [180, 0, 12, 180, 0, 225, 28, 16, 12, 104, 29, 96, 182, 1, 11, 182],
  [1, 173, 42, 180, 0, 42, 182, 0, 164, 42, 180, 0, 42, 180, 0, 167],
  [172]]) (by decide +kernel)
def q_code160 : List (List (Option Instr)) := [[some (.aload_n 0), some (.getfield 42), none, none, some (.iload_n 1), some (.invokevirtual 106), none, none, some (.aload_n 0), some (.getfield 42), none, none, some (.iload_n 2), some (.invokevirtual 433), none, none],
  [some (.aload_n 0), some (.getfield 42), none, none, some (.invokevirtual 164), none, none, some (.aload_n 0), some (.getfield 42), none, none, some (.getfield 167), none, none, some (.ireturn)]]
theorem q_code160_ok : q_dec prog_1_method_58_code q_code160 := f_chk_ok (B := [[42, 180, 0, 42, 27, 182, 0, 106, 42, 180, 0, 42, 28, 182, 1, 177],
  [42, 180, 0, 42, 182, 0, 164, 42, 180, 0, 42, 180, 0, 167, 172]]) (by decide +kernel)
def q_code161 : List (List (Option Instr)) := [[some (.aload_n 0), some (.iload_n 1), some (.invokevirtual 71), none, none, some (.astore_n 3), some (.iload_n 2), some (.ifCond .lt 10), none, none, some (.iload_n 2), some (.ldc_w 436), none, none, some (.if_icmp .le 5), none],
  [none, some (.iconst (-1)), some (.ireturn), some (.aload_n 3), some (.iconst 1), some (.invokestatic 75), none, none, some (.istore 4), none, some (.iload 4), none, some (.ifCond .ne 7), none, none, some (.aload_n 3)],
  [some (.ifnonnull 6), none, none, some (.iload 4), none, some (.ireturn), some (.aload_n 3), some (.invokestatic 437), none, none, some (.ifCond .ne 6), none, none, some (.bipush (-13)), none, some (.ireturn)],
  [some (.aload_n 0), some (.getfield 56), none, none, some (.aload_n 3), some (.iload_n 2), some (.sipush 10000), none, none, some (.idiv), some (.iload_n 2), some (.sipush 10000), none, none, some (.irem), some (.invokevirtual 440)],
  [none, none, some (.iconst 0), some (.ireturn)]]
theorem q_code161_ok : q_dec prog_1_method_59_code q_code161 := f_chk_ok (B := [[42, 27, 182, 0, 71, 78, 28, 155, 0, 10, 28, 19, 1, 180, 164, 0],
  [5, 2, 172, 45, 4, 184, 0, 75, 54, 4, 21, 4, 154, 0, 7, 45],
  [199, 0, 6, 21, 4, 172, 45, 184, 1, 181, 154, 0, 6, 16, 243, 172],
  [42, 180, 0, 56, 45, 28, 17, 39, 16, 108, 28, 17, 39, 16, 112, 182],
  [1, 184, 3, 172]]) (by decide +kernel)
def q_code162 : List (List (Option Instr)) := [[some (.aload_n 0), some (.getfield 261), none, none, some (.iconst 1), some (.if_icmp .lt 12), none, none, some (.aload_n 0), some (.getfield 261), none, none, some (.bipush 30), none, some (.if_icmp .le 5), none],
  [none, some (.iconst 0), some (.ireturn), some (.iconst 0), some (.istore_n 1), some (.iload_n 1), some (.aload_n 0), some (.getfield 261), none, none, some (.if_icmp .ge 31), none, none, some (.aload_n 0), some (.getfield 374), none],
  [none, some (.iload_n 1), some (.invokestatic 96), none, none, some (.istore_n 2), some (.iload_n 2), some (.ifCond .lt 10), none, none, some (.iload_n 2), some (.sipush 999), none, none, some (.if_icmp .le 5), none],
  [none, some (.iconst 0), some (.ireturn), some (.iinc 1 1), none, none, some (.goto (-33)), none, none, some (.iconst 1), some (.ireturn)]]
theorem q_code162_ok : q_dec prog_1_method_60_code q_code162 := f_chk_ok (B := [[42, 180, 1, 5, 4, 161, 0, 12, 42, 180, 1, 5, 16, 30, 164, 0],
  [5, 3, 172, 3, 60, 27, 42, 180, 1, 5, 162, 0, 31, 42, 180, 1],
  [118, 27, 184, 0, 96, 61, 28, 155, 0, 10, 28, 17, 3, 231, 164, 0],
  [5, 3, 172, 132, 1, 1, 167, 255, 223, 4, 172]]) (by decide +kernel)
def q_code163 : List (List (Option Instr)) := [[some (.aload_n 1), some (.getfield 261), none, none, some (.iconst 2), some (.if_icmp .lt 12), none, none, some (.aload_n 1), some (.getfield 261), none, none, some (.bipush 8), none, some (.if_icmp .le 5), none],
  [none, some (.iconst 0), some (.ireturn), some (.iconst 0), some (.istore_n 2), some (.iload_n 2), some (.aload_n 1), some (.getfield 261), none, none, some (.if_icmp .ge 46), none, none, some (.aload_n 1), some (.getfield 374), none],
  [none, some (.iload_n 2), some (.invokestatic 96), none, none, some (.istore_n 3), some (.aload_n 0), some (.iload_n 3), some (.invokevirtual 83), none, none, some (.ifCond .eq 21), none, none, some (.aload_n 0), some (.iload_n 3)],
  [some (.iconst 0), some (.invokevirtual 118), none, none, some (.ifCond .eq 12), none, none, some (.aload_n 1), some (.iload_n 3), some (.invokevirtual 443), none, none, some (.iload_n 2), some (.if_icmp .ge 5), none, none],
  [some (.iconst 0), some (.ireturn), some (.iinc 2 1), none, none, some (.goto (-48)), none, none, some (.iconst 1), some (.ireturn)]]
theorem q_code163_ok : q_dec prog_1_method_61_code q_code163 := f_chk_ok (B := [[43, 180, 1, 5, 5, 161, 0, 12, 43, 180, 1, 5, 16, 8, 164, 0],
  [5, 3, 172, 3, 61, 28, 43, 180, 1, 5, 162, 0, 46, 43, 180, 1],
  [118, 28, 184, 0, 96, 62, 42, 29, 182, 0, 83, 153, 0, 21, 42, 29],
  [3, 182, 0, 118, 153, 0, 12, 43, 29, 182, 1, 187, 28, 162, 0, 5],
  [3, 172, 132, 2, 1, 167, 255, 208, 4, 172]]) (by decide +kernel)
def q_code164 : List (List (Option Instr)) := [[some (.aload_n 0), some (.iload_n 2), some (.invokevirtual 71), none, none, some (.astore_n 3), some (.aload_n 0), some (.iload_n 1), some (.invokevirtual 83), none, none, some (.ifCond .ne 5), none, none, some (.iconst (-1)), some (.ireturn)],
  [some (.aload_n 3), some (.iconst 0), some (.invokestatic 75), none, none, some (.istore 4), none, some (.iload 4), none, some (.ifCond .ne 7), none, none, some (.aload_n 3), some (.ifnonnull 6), none, none],
  [some (.iload 4), none, some (.ireturn), some (.aload_n 3), some (.getfield 261), none, none, some (.iconst 2), some (.irem), some (.ifCond .ne 12), none, none, some (.aload_n 3), some (.getfield 261), none, none],
  [some (.bipush 40), none, some (.if_icmp .le 6), none, none, some (.bipush (-13)), none, some (.ireturn), some (.aload_n 0), some (.getfield 42), none, none, some (.iload_n 1), some (.invokevirtual 106), none, none],
  [some (.aload_n 0), some (.getfield 42), none, none, some (.invokevirtual 423), none, none, some (.aload_n 0), some (.getfield 63), none, none, some (.aload_n 0), some (.getfield 42), none, none, some (.aload_n 3)],
  [some (.invokevirtual 446), none, none, some (.iconst 0), some (.ireturn)]]
theorem q_code164_ok : q_dec prog_1_method_62_code q_code164 := f_chk_ok (B := [[42, 28, 182, 0, 71, 78, 42, 27, 182, 0, 83, 154, 0, 5, 2, 172],
  [45, 3, 184, 0, 75, 54, 4, 21, 4, 154, 0, 7, 45, 199, 0, 6],
  [21, 4, 172, 45, 180, 1, 5, 5, 112, 154, 0, 12, 45, 180, 1, 5],
  [16, 40, 164, 0, 6, 16, 243, 172, 42, 180, 0, 42, 27, 182, 0, 106],
  [42, 180, 0, 42, 182, 1, 167, 42, 180, 0, 63, 42, 180, 0, 42, 45],
  [182, 1, 190, 3, 172]]) (by decide +kernel)
def q_code165 : List (List (Option Instr)) := [[some (.bipush 10), none, some (.iload_n 1), some (.iadd), some (.istore_n 2), some (.aload_n 0), some (.getfield 12), none, none, some (.getfield 87), none, none, some (.getfield 91), none, none, some (.iload_n 1)],
  [some (.invokestatic 96), none, none, some (.istore_n 3), some (.iload_n 3), some (.ifCond .ne 31), none, none, some (.iload_n 2), some (.aload_n 0), some (.getfield 12), none, none, some (.getfield 134), none, none],
  [some (.iload_n 1), some (.aload_n 0), some (.getfield 12), none, none, some (.getfield 87), none, none, some (.getfield 100), none, none, some (.iload_n 1), some (.invokestatic 96), none, none, some (.invokevirtual 450)],
  [none, none, some (.iadd), some (.ireturn), some (.iload_n 3), some (.iconst 3), some (.if_icmp .ne 27), none, none, some (.aload_n 0), some (.iload_n 1), some (.invokevirtual 191), none, none, some (.astore 4), none],
  [some (.aload 4), none, some (.ifnonnull 7), none, none, some (.iload_n 2), some (.goto 10), none, none, some (.iload_n 2), some (.aload 4), none, some (.getfield 198), none, none, some (.iadd)],
  [some (.ireturn), some (.aload_n 0), some (.getfield 42), none, none, some (.iload_n 1), some (.invokevirtual 106), none, none, some (.iload_n 2), some (.bipush 10), none, some (.aload_n 0), some (.getfield 42), none, none],
  [some (.getfield 110), none, none, some (.imul), some (.iadd), some (.istore 4), none, some (.iload_n 3), some (.iconst 2), some (.if_icmp .ne 10), none, none, some (.iconst 2), some (.iload 4), none, some (.imul)],
  [some (.goto 5), none, none, some (.iload 4), none, some (.ireturn)]]
theorem q_code165_ok : q_dec prog_1_method_63_code q_code165 := f_chk_ok (B := [[16, 10, 27, 96, 61, 42, 180, 0, 12, 180, 0, 87, 180, 0, 91, 27],
  [184, 0, 96, 62, 29, 154, 0, 31, 28, 42, 180, 0, 12, 180, 0, 134],
  [27, 42, 180, 0, 12, 180, 0, 87, 180, 0, 100, 27, 184, 0, 96, 182],
  [1, 194, 96, 172, 29, 6, 160, 0, 27, 42, 27, 182, 0, 191, 58, 4],
  [25, 4, 199, 0, 7, 28, 167, 0, 10, 28, 25, 4, 180, 0, 198, 96],
  [172, 42, 180, 0, 42, 27, 182, 0, 106, 28, 16, 10, 42, 180, 0, 42],
  [180, 0, 110, 104, 96, 54, 4, 29, 5, 160, 0, 10, 5, 21, 4, 104],
  [167, 0, 5, 21, 4, 172]]) (by decide +kernel)
def q_code166 : List (List (Option Instr)) := [[some (.aload_n 0), some (.iload_n 1), some (.iconst 0), some (.invokevirtual 160), none, none, some (.istore_n 2), some (.aload_n 0), some (.iload_n 1), some (.iconst 3), some (.invokevirtual 118), none, none, some (.ifCond .ne 7), none, none],
  [some (.iload_n 2), some (.ifCond .ne 6), none, none, some (.bipush (-15)), none, some (.ireturn), some (.aload_n 0), some (.iload_n 1), some (.iconst 2), some (.invokevirtual 118), none, none, some (.ifCond .eq 11), none, none],
  [some (.sipush 1000), none, none, some (.iload_n 2), some (.iadd), some (.goto 4), none, none, some (.iload_n 2), some (.ireturn)]]
theorem q_code166_ok : q_dec prog_1_method_64_code q_code166 := f_chk_ok (B := [[42, 27, 3, 182, 0, 160, 61, 42, 27, 6, 182, 0, 118, 154, 0, 7],
  [28, 154, 0, 6, 16, 241, 172, 42, 27, 5, 182, 0, 118, 153, 0, 11],
  [17, 3, 232, 28, 96, 167, 0, 4, 28, 172]]) (by decide +kernel)
def q_code167 : List (List (Option Instr)) := [[some (.aload_n 0), some (.invokespecial 1), none, none, some (.aload_n 0), some (.sipush 1330), none, none, some (.newarray .int), none, some (.putfield 9), none, none, some (.aload_n 0), some (.sipush 1330), none],
  [none, some (.newarray .int), none, some (.putfield 13), none, none, some (.aload_n 0), some (.bipush 8), none, some (.newarray .int), none, some (.putfield 16), none, none, some (.aload_n 0), some (.bipush 8)],
  [none, some (.newarray .int), none, some (.putfield 19), none, none, some (.aload_n 0), some (.bipush 8), none, some (.newarray .int), none, some (.putfield 22), none, none, some (.aload_n 0), some (.sipush 960)],
  [none, none, some (.newarray .int), none, some (.putfield 25), none, none, some (.aload_n 0), some (.bipush 8), none, some (.newarray .int), none, some (.putfield 28), none, none, some (.aload_n 0)],
  [some (.bipush 8), none, some (.newarray .int), none, some (.putfield 31), none, none, some (.aload_n 0), some (.bipush 8), none, some (.newarray .int), none, some (.putfield 34), none, none, some (.aload_n 0)],
  [some (.bipush 48), none, some (.newarray .int), none, some (.putfield 37), none, none, some (.aload_n 0), some (.bipush 48), none, some (.newarray .int), none, some (.putfield 40), none, none, some (.aload_n 0)],
  [some (.sipush 1330), none, none, some (.newarray .int), none, some (.putfield 43), none, none, some (.aload_n 0), some (.iconst (-1)), some (.putfield 46), none, none, some (.aload_n 0), some (.iconst (-1)), some (.putfield 50)],
  [none, none, some (.aload_n 0), some (.iconst (-1)), some (.putfield 53), none, none, some (.aload_n 0), some (.sipush 1000), none, none, some (.newarray .int), none, some (.putfield 56), none, none],
  [some (.aload_n 0), some (.bipush 100), none, some (.newarray .int), none, some (.putfield 59), none, none, some (.aload_n 0), some (.sipush 1024), none, none, some (.newarray .int), none, some (.putfield 62), none],
  [none, some (.aload_n 0), some (.sipush 1024), none, none, some (.newarray .int), none, some (.putfield 65), none, none, some (.aload_n 0), some (.sipush 800), none, none, some (.newarray .int), none],
  [some (.putfield 68), none, none, some (.aload_n 0), some (.sipush 403), none, none, some (.newarray .int), none, some (.putfield 71), none, none, some (.aload_n 0), some (.sipush 403), none, none],
  [some (.newarray .int), none, some (.putfield 74), none, none, some (.aload_n 0), some (.sipush 11737), none, none, some (.newarray .int), none, some (.putfield 77), none, none, some (.return_)]]
theorem q_code167_ok : q_dec prog_14_method_1_code q_code167 := f_chk_ok (B := [[42, 183, 0, 1, 42, 17, 5, 50, 188, 10, 181, 0, 9, 42, 17, 5],
  [50, 188, 10, 181, 0, 13, 42, 16, 8, 188, 10, 181, 0, 16, 42, 16],
  [8, 188, 10, 181, 0, 19, 42, 16, 8, 188, 10, 181, 0, 22, 42, 17],
  [3, 192, 188, 10, 181, 0, 25, 42, 16, 8, 188, 10, 181, 0, 28, 42],
  [16, 8, 188, 10, 181, 0, 31, 42, 16, 8, 188, 10, 181, 0, 34, 42],
  [16, 48, 188, 10, 181, 0, 37, 42, 16, 48, 188, 10, 181, 0, 40, 42],
  [17, 5, 50, 188, 10, 181, 0, 43, 42, 2, 181, 0, 46, 42, 2, 181],
  [0, 50, 42, 2, 181, 0, 53, 42, 17, 3, 232, 188, 10, 181, 0, 56],
  [42, 16, 100, 188, 10, 181, 0, 59, 42, 17, 4, 0, 188, 10, 181, 0],
  [62, 42, 17, 4, 0, 188, 10, 181, 0, 65, 42, 17, 3, 32, 188, 10],
  [181, 0, 68, 42, 17, 1, 147, 188, 10, 181, 0, 71, 42, 17, 1, 147],
  [188, 10, 181, 0, 74, 42, 17, 45, 217, 188, 10, 181, 0, 77, 177]]) (by decide +kernel)
def q_code168 : List (List (Option Instr)) := [[some (.lload_n 0), some (.lload_n 2), some (.lcmp), some (.ifCond .lt 14), none, none, some (.lload_n 0), some (.lload 4), none, some (.lcmp), some (.ifCond .gt 7), none, none, some (.iconst 1), some (.goto 4), none],
  [none, some (.iconst 0), some (.ireturn)]]
theorem q_code168_ok : q_dec prog_14_method_3_code q_code168 := f_chk_ok (B := [[30, 32, 148, 155, 0, 14, 30, 22, 4, 148, 157, 0, 7, 4, 167, 0],
  [4, 3, 172]]) (by decide +kernel)
def q_code169 : List (List (Option Instr)) := [[some (.iload_n 1), some (.i2l), some (.lconst 0), some (.aload_n 0), some (.getfield 9), none, none, some (.sipush 1198), none, none, some (.iaload), some (.iconst 1), some (.isub), some (.i2l), some (.invokestatic 83), none],
  [none, some (.ireturn)]]
theorem q_code169_ok : q_dec prog_14_method_4_code q_code169 := f_chk_ok (B := [[27, 133, 9, 42, 180, 0, 9, 17, 4, 174, 46, 4, 100, 133, 184, 0],
  [83, 172]]) (by decide +kernel)
def q_code170 : List (List (Option Instr)) := [[some (.aload_n 0), some (.getfield 9), none, none, some (.bipush 28), none, some (.iload_n 1), some (.imul), some (.iaload), some (.ireturn)]]
theorem q_code170_ok : q_dec prog_14_method_5_code q_code170 := f_chk_ok (B := [[42, 180, 0, 9, 16, 28, 27, 104, 46, 172]]) (by decide +kernel)
def q_code171 : List (List (Option Instr)) := [[some (.aload_n 0), some (.getfield 9), none, none, some (.bipush 28), none, some (.iload_n 1), some (.imul), some (.iconst 2), some (.iadd), some (.iaload), some (.ireturn)]]
theorem q_code171_ok : q_dec prog_14_method_6_code q_code171 := f_chk_ok (B := [[42, 180, 0, 9, 16, 28, 27, 104, 5, 96, 46, 172]]) (by decide +kernel)
def q_code172 : List (List (Option Instr)) := [[some (.aload_n 0), some (.getfield 9), none, none, some (.bipush 28), none, some (.iload_n 1), some (.imul), some (.iconst 3), some (.iadd), some (.iload_n 2), some (.iadd), some (.iaload), some (.ireturn)]]
theorem q_code172_ok : q_dec prog_14_method_7_code q_code172 := f_chk_ok (B := [[42, 180, 0, 9, 16, 28, 27, 104, 6, 96, 28, 96, 46, 172]]) (by decide +kernel)
def q_code173 : List (List (Option Instr)) := [[some (.iload_n 0), some (.i2l), some (.lconst 0), some (.ldc2_w 87), none, none, some (.invokestatic 83), none, none, some (.ireturn)]]
theorem q_code173_ok : q_dec prog_14_method_8_code q_code173 := f_chk_ok (B := [[26, 133, 9, 20, 0, 87, 184, 0, 83, 172]]) (by decide +kernel)
def q_code174 : List (List (Option Instr)) := [[some (.iload_n 0), some (.iload_n 1), some (.if_icmp .ge 7), none, none, some (.iload_n 0), some (.goto 4), none, none, some (.iload_n 1), some (.ireturn)]]
theorem q_code174_ok : q_dec prog_14_method_9_code q_code174 := f_chk_ok (B := [[26, 27, 162, 0, 7, 26, 167, 0, 4, 27, 172]]) (by decide +kernel)
def q_code175 : List (List (Option Instr)) := [[some (.aload_n 0), some (.iconst 0), some (.putfield 89), none, none, some (.aload_n 0), some (.iconst 0), some (.putfield 92), none, none, some (.aload_n 0), some (.iload_n 1), some (.invokevirtual 95), none, none, some (.return_)]]
theorem q_code175_ok : q_dec prog_14_method_10_code q_code175 := f_chk_ok (B := [[42, 3, 181, 0, 89, 42, 3, 181, 0, 92, 42, 27, 182, 0, 95, 177]]) (by decide +kernel)
def q_code176 : List (List (Option Instr)) := [[some (.aload_n 0), some (.iload_n 1), some (.invokevirtual 99), none, none, some (.ifCond .ne 24), none, none, some (.aload_n 0), some (.getfield 37), none, none, some (.aload_n 0), some (.getfield 89), none, none],
  [some (.iload_n 1), some (.iastore), some (.aload_n 0), some (.dup), some (.getfield 89), none, none, some (.iconst 1), some (.iadd), some (.putfield 89), none, none, some (.return_), some (.aload_n 0), some (.iload_n 1), some (.invokevirtual 99)],
  [none, none, some (.iconst 1), some (.if_icmp .ne 115), none, none, some (.iconst 0), some (.istore_n 2), some (.iload_n 2), some (.aload_n 0), some (.iload_n 1), some (.invokevirtual 103), none, none, some (.if_icmp .ge 34), none],
  [none, some (.aload_n 0), some (.getfield 37), none, none, some (.aload_n 0), some (.getfield 89), none, none, some (.aload_n 0), some (.iload_n 1), some (.iload_n 2), some (.invokevirtual 106), none, none, some (.iastore)],
  [some (.aload_n 0), some (.dup), some (.getfield 89), none, none, some (.iconst 1), some (.iadd), some (.putfield 89), none, none, some (.iinc 2 1), none, none, some (.goto (-37)), none, none],
  [some (.iconst 0), some (.istore_n 2), some (.iload_n 2), some (.aload_n 0), some (.getfield 9), none, none, some (.bipush 28), none, some (.iload_n 1), some (.imul), some (.bipush 19), none, some (.iadd), some (.iaload), some (.if_icmp .ge 54)],
  [none, none, some (.aload_n 0), some (.getfield 9), none, none, some (.bipush 28), none, some (.iload_n 1), some (.imul), some (.bipush 20), none, some (.iadd), some (.iload_n 2), some (.iadd), some (.iaload)],
  [some (.ifCond .ne 6), none, none, some (.goto 28), none, none, some (.aload_n 0), some (.getfield 40), none, none, some (.aload_n 0), some (.getfield 92), none, none, some (.bipush 8), none],
  [some (.iload_n 1), some (.imul), some (.iload_n 2), some (.iadd), some (.iastore), some (.aload_n 0), some (.dup), some (.getfield 92), none, none, some (.iconst 1), some (.iadd), some (.putfield 92), none, none, some (.iinc 2 1)],
  [none, none, some (.goto (-64)), none, none, some (.return_), some (.iconst 0), some (.istore_n 2), some (.iload_n 2), some (.aload_n 0), some (.iload_n 1), some (.invokevirtual 103), none, none, some (.if_icmp .ge 19), none],
  [none, some (.aload_n 0), some (.aload_n 0), some (.iload_n 1), some (.iload_n 2), some (.invokevirtual 106), none, none, some (.invokevirtual 95), none, none, some (.iinc 2 1), none, none, some (.goto (-22)), none],
  [none, some (.return_)]]
theorem q_code176_ok : q_dec prog_14_method_11_code q_code176 := f_chk_ok (B := [[42, 27, 182, 0, 99, 154, 0, 24, 42, 180, 0, 37, 42, 180, 0, 89],
  [27, 79, 42, 89, 180, 0, 89, 4, 96, 181, 0, 89, 177, 42, 27, 182],
  [0, 99, 4, 160, 0, 115, 3, 61, 28, 42, 27, 182, 0, 103, 162, 0],
  [34, 42, 180, 0, 37, 42, 180, 0, 89, 42, 27, 28, 182, 0, 106, 79],
  [42, 89, 180, 0, 89, 4, 96, 181, 0, 89, 132, 2, 1, 167, 255, 219],
  [3, 61, 28, 42, 180, 0, 9, 16, 28, 27, 104, 16, 19, 96, 46, 162],
  [0, 54, 42, 180, 0, 9, 16, 28, 27, 104, 16, 20, 96, 28, 96, 46],
  [154, 0, 6, 167, 0, 28, 42, 180, 0, 40, 42, 180, 0, 92, 16, 8],
  [27, 104, 28, 96, 79, 42, 89, 180, 0, 92, 4, 96, 181, 0, 92, 132],
  [2, 1, 167, 255, 192, 177, 3, 61, 28, 42, 27, 182, 0, 103, 162, 0],
  [19, 42, 42, 27, 28, 182, 0, 106, 182, 0, 95, 132, 2, 1, 167, 255],
  [234, 177]]) (by decide +kernel)
def q_code177 : List (List (Option Instr)) := [[some (.aload_n 0), some (.getfield 110), none, none, some (.aload_n 0), some (.getfield 113), none, none, some (.if_icmp .ge 20), none, none, some (.aload_n 0), some (.getfield 25), none, none, some (.aload_n 0)],
  [some (.getfield 116), none, none, some (.aload_n 0), some (.getfield 110), none, none, some (.iadd), some (.iaload), some (.goto 6), none, none, some (.sipush (-1000)), none, none, some (.ireturn)]]
theorem q_code177_ok : q_dec prog_14_method_12_code q_code177 := f_chk_ok (B := [[42, 180, 0, 110, 42, 180, 0, 113, 162, 0, 20, 42, 180, 0, 25, 42],
  [180, 0, 116, 42, 180, 0, 110, 96, 46, 167, 0, 6, 17, 252, 24, 172]]) (by decide +kernel)
def q_code178 : List (List (Option Instr)) := [[some (.aload_n 0), some (.invokevirtual 119), none, none, some (.iload_n 1), some (.if_icmp .eq 5), none, none, some (.iconst 0), some (.ireturn), some (.aload_n 0), some (.dup), some (.getfield 110), none, none, some (.iconst 1)],
  [some (.iadd), some (.putfield 110), none, none, some (.iconst 1), some (.ireturn)]]
theorem q_code178_ok : q_dec prog_14_method_13_code q_code178 := f_chk_ok (B := [[42, 182, 0, 119, 27, 159, 0, 5, 3, 172, 42, 89, 180, 0, 110, 4],
  [96, 181, 0, 110, 4, 172]]) (by decide +kernel)
def q_code179 : List (List (Option Instr)) := [[some (.aload_n 0), some (.invokevirtual 119), none, none, some (.i2l), some (.ldc2_w 123), none, none, some (.ldc2_w 125), none, none, some (.invokestatic 83), none, none, some (.ifCond .ne 5), none],
  [none, some (.iconst 0), some (.ireturn), some (.aload_n 0), some (.aload_n 0), some (.invokevirtual 119), none, none, some (.bipush 48), none, some (.isub), some (.putfield 127), none, none, some (.aload_n 0), some (.dup)],
  [some (.getfield 110), none, none, some (.iconst 1), some (.iadd), some (.putfield 110), none, none, some (.aload_n 0), some (.getfield 127), none, none, some (.ifCond .le 49), none, none, some (.aload_n 0)],
  [some (.invokevirtual 119), none, none, some (.i2l), some (.ldc2_w 123), none, none, some (.ldc2_w 125), none, none, some (.invokestatic 83), none, none, some (.ifCond .eq 32), none, none],
  [some (.aload_n 0), some (.bipush 10), none, some (.aload_n 0), some (.getfield 127), none, none, some (.imul), some (.aload_n 0), some (.invokevirtual 119), none, none, some (.iadd), some (.bipush 48), none, some (.isub)],
  [some (.putfield 127), none, none, some (.aload_n 0), some (.dup), some (.getfield 110), none, none, some (.iconst 1), some (.iadd), some (.putfield 110), none, none, some (.iconst 1), some (.ireturn)]]
theorem q_code179_ok : q_dec prog_14_method_14_code q_code179 := f_chk_ok (B := [[42, 182, 0, 119, 133, 20, 0, 123, 20, 0, 125, 184, 0, 83, 154, 0],
  [5, 3, 172, 42, 42, 182, 0, 119, 16, 48, 100, 181, 0, 127, 42, 89],
  [180, 0, 110, 4, 96, 181, 0, 110, 42, 180, 0, 127, 158, 0, 49, 42],
  [182, 0, 119, 133, 20, 0, 123, 20, 0, 125, 184, 0, 83, 153, 0, 32],
  [42, 16, 10, 42, 180, 0, 127, 104, 42, 182, 0, 119, 96, 16, 48, 100],
  [181, 0, 127, 42, 89, 180, 0, 110, 4, 96, 181, 0, 110, 4, 172]]) (by decide +kernel)
def q_code180 : List (List (Option Instr)) := [[some (.aload_n 0), some (.invokevirtual 130), none, none, some (.ifCond .ne 5), none, none, some (.iconst 0), some (.ireturn), some (.aload_n 0), some (.bipush 32), none, some (.invokevirtual 134), none, none, some (.ifCond .eq 12)],
  [none, none, some (.aload_n 0), some (.invokevirtual 130), none, none, some (.ifCond .ne (-13)), none, none, some (.iconst 0), some (.ireturn), some (.iconst 1), some (.ireturn)]]
theorem q_code180_ok : q_dec prog_14_method_15_code q_code180 := f_chk_ok (B := [[42, 182, 0, 130, 154, 0, 5, 3, 172, 42, 16, 32, 182, 0, 134, 153],
  [0, 12, 42, 182, 0, 130, 154, 255, 243, 3, 172, 4, 172]]) (by decide +kernel)
def q_code181 : List (List (Option Instr)) := [[some (.aload_n 0), some (.invokevirtual 130), none, none, some (.ifCond .eq 23), none, none, some (.aload_n 0), some (.bipush 47), none, some (.invokevirtual 134), none, none, some (.ifCond .eq 14), none, none],
  [some (.aload_n 0), some (.invokevirtual 130), none, none, some (.ifCond .eq 7), none, none, some (.iconst 1), some (.goto 4), none, none, some (.iconst 0), some (.ireturn)]]
theorem q_code181_ok : q_dec prog_14_method_16_code q_code181 := f_chk_ok (B := [[42, 182, 0, 130, 153, 0, 23, 42, 16, 47, 182, 0, 134, 153, 0, 14],
  [42, 182, 0, 130, 153, 0, 7, 4, 167, 0, 4, 3, 172]]) (by decide +kernel)
def q_code182 : List (List (Option Instr)) := [[some (.aload_n 0), some (.bipush 91), none, some (.invokevirtual 134), none, none, some (.ifCond .eq 27), none, none, some (.aload_n 0), some (.invokevirtual 138), none, none, some (.ifCond .eq 16), none, none],
  [some (.aload_n 0), some (.bipush 93), none, some (.invokevirtual 134), none, none, some (.ifCond .eq 7), none, none, some (.iconst 1), some (.goto 11), none, none, some (.iconst 0), some (.goto 7), none],
  [none, some (.aload_n 0), some (.invokevirtual 130), none, none, some (.ireturn)]]
theorem q_code182_ok : q_dec prog_14_method_17_code q_code182 := f_chk_ok (B := [[42, 16, 91, 182, 0, 134, 153, 0, 27, 42, 182, 0, 138, 153, 0, 16],
  [42, 16, 93, 182, 0, 134, 153, 0, 7, 4, 167, 0, 11, 3, 167, 0],
  [7, 42, 182, 0, 130, 172]]) (by decide +kernel)
def q_code183 : List (List (Option Instr)) := [[some (.aload_n 0), some (.invokevirtual 119), none, none, some (.istore_n 1), some (.iload_n 1), some (.bipush 99), none, some (.if_icmp .eq 23), none, none, some (.iload_n 1), some (.bipush 114), none, some (.if_icmp .eq 17), none],
  [none, some (.iload_n 1), some (.bipush 102), none, some (.if_icmp .eq 11), none, none, some (.iload_n 1), some (.bipush 98), none, some (.if_icmp .eq 5), none, none, some (.iconst 0), some (.ireturn), some (.aload_n 0)],
  [some (.dup), some (.getfield 110), none, none, some (.iconst 1), some (.iadd), some (.putfield 110), none, none, some (.iload_n 1), some (.bipush 99), none, some (.if_icmp .ne 30), none, none, some (.aload_n 0)],
  [some (.invokevirtual 141), none, none, some (.ifCond .ne 5), none, none, some (.iconst 0), some (.ireturn), some (.aload_n 0), some (.bipush 32), none, some (.invokevirtual 134), none, none, some (.ifCond .eq 70), none],
  [none, some (.aload_n 0), some (.invokevirtual 141), none, none, some (.ifCond .ne (-13)), none, none, some (.iconst 0), some (.ireturn), some (.iload_n 1), some (.bipush 114), none, some (.if_icmp .ne 30), none, none],
  [some (.aload_n 0), some (.invokevirtual 144), none, none, some (.ifCond .ne 5), none, none, some (.iconst 0), some (.ireturn), some (.aload_n 0), some (.bipush 32), none, some (.invokevirtual 134), none, none, some (.ifCond .eq 37)],
  [none, none, some (.aload_n 0), some (.invokevirtual 144), none, none, some (.ifCond .ne (-13)), none, none, some (.iconst 0), some (.ireturn), some (.iload_n 1), some (.bipush 102), none, some (.if_icmp .ne 13), none],
  [none, some (.aload_n 0), some (.invokevirtual 138), none, none, some (.ifCond .ne 15), none, none, some (.goto 10), none, none, some (.aload_n 0), some (.invokevirtual 130), none, none, some (.ifCond .ne 5)],
  [none, none, some (.iconst 0), some (.ireturn), some (.aload_n 0), some (.bipush 59), none, some (.invokevirtual 134), none, none, some (.ireturn)]]
theorem q_code183_ok : q_dec prog_14_method_18_code q_code183 := f_chk_ok (B := [[42, 182, 0, 119, 60, 27, 16, 99, 159, 0, 23, 27, 16, 114, 159, 0],
  [17, 27, 16, 102, 159, 0, 11, 27, 16, 98, 159, 0, 5, 3, 172, 42],
  [89, 180, 0, 110, 4, 96, 181, 0, 110, 27, 16, 99, 160, 0, 30, 42],
  [182, 0, 141, 154, 0, 5, 3, 172, 42, 16, 32, 182, 0, 134, 153, 0],
  [70, 42, 182, 0, 141, 154, 255, 243, 3, 172, 27, 16, 114, 160, 0, 30],
  [42, 182, 0, 144, 154, 0, 5, 3, 172, 42, 16, 32, 182, 0, 134, 153],
  [0, 37, 42, 182, 0, 144, 154, 255, 243, 3, 172, 27, 16, 102, 160, 0],
  [13, 42, 182, 0, 138, 154, 0, 15, 167, 0, 10, 42, 182, 0, 130, 154],
  [0, 5, 3, 172, 42, 16, 59, 182, 0, 134, 172]]) (by decide +kernel)
def q_code184 : List (List (Option Instr)) := [[some (.iconst 0), some (.istore_n 2), some (.iconst 1), some (.istore_n 3), some (.aload_n 0), some (.dup), some (.getfield 110), none, none, some (.iconst 1), some (.iadd), some (.putfield 110), none, none, some (.iload_n 3), some (.ifCond .eq 13)],
  [none, none, some (.iload_n 2), some (.bipush 6), none, some (.if_icmp .ge 7), none, none, some (.iconst 1), some (.goto 4), none, none, some (.iconst 0), some (.istore_n 3), some (.aload_n 0), some (.invokevirtual 130)],
  [none, none, some (.istore 4), none, some (.aload_n 0), some (.getfield 127), none, none, some (.istore 5), none, some (.aload_n 0), some (.dup), some (.getfield 110), none, none, some (.iconst 1)],
  [some (.iadd), some (.putfield 110), none, none, some (.aload_n 0), some (.invokevirtual 130), none, none, some (.istore 4), none, some (.iload_n 3), some (.ifCond .ne 6), none, none, some (.goto 39), none],
  [none, some (.aload_n 0), some (.getfield 9), none, none, some (.bipush 28), none, some (.iload_n 1), some (.imul), some (.iconst 3), some (.iadd), some (.iload_n 2), some (.iadd), some (.iload 5), none, some (.iastore)],
  [some (.aload_n 0), some (.getfield 9), none, none, some (.bipush 28), none, some (.iload_n 1), some (.imul), some (.bipush 9), none, some (.iadd), some (.iload_n 2), some (.iadd), some (.aload_n 0), some (.getfield 127), none],
  [none, some (.iastore), some (.iinc 2 1), none, none, some (.aload_n 0), some (.invokevirtual 119), none, none, some (.bipush 32), none, some (.if_icmp .eq (-103)), none, none, some (.aload_n 0), some (.getfield 9)],
  [none, none, some (.bipush 28), none, some (.iload_n 1), some (.imul), some (.iconst 2), some (.iadd), some (.iload_n 2), some (.iastore), some (.iload_n 3), some (.ifCond .eq 56), none, none, some (.iload_n 2), some (.iconst 1)],
  [some (.if_icmp .le 51), none, none, some (.aload_n 0), some (.iload_n 1), some (.iconst 0), some (.invokevirtual 106), none, none, some (.ifCond .ne 42), none, none, some (.aload_n 0), some (.getfield 9), none, none],
  [some (.bipush 28), none, some (.iload_n 1), some (.imul), some (.bipush 8), none, some (.iadd), some (.iload_n 2), some (.iadd), some (.iaload), some (.ifCond .ne 25), none, none, some (.aload_n 0), some (.getfield 9), none],
  [none, some (.bipush 28), none, some (.iload_n 1), some (.imul), some (.iconst 2), some (.iadd), some (.iload_n 2), some (.iadd), some (.iaload), some (.bipush 60), none, some (.if_icmp .gt 7), none, none, some (.iconst 1)],
  [some (.goto 4), none, none, some (.iconst 0), some (.istore_n 3), some (.iconst 1), some (.istore 4), none, some (.iload 4), none, some (.iload_n 2), some (.if_icmp .ge 71), none, none, some (.iload_n 3), some (.ifCond .eq 59)],
  [none, none, some (.aload_n 0), some (.iload_n 1), some (.iload 4), none, some (.invokevirtual 106), none, none, some (.aload_n 0), some (.iload_n 1), some (.iload 4), none, some (.iconst 1), some (.isub), some (.invokevirtual 106)],
  [none, none, some (.if_icmp .le 40), none, none, some (.aload_n 0), some (.getfield 9), none, none, some (.bipush 28), none, some (.iload_n 1), some (.imul), some (.bipush 9), none, some (.iadd)],
  [some (.iload 4), none, some (.iadd), some (.iaload), some (.aload_n 0), some (.getfield 9), none, none, some (.bipush 28), none, some (.iload_n 1), some (.imul), some (.bipush 8), none, some (.iadd), some (.iload 4)],
  [none, some (.iadd), some (.iaload), some (.if_icmp .ge 7), none, none, some (.iconst 1), some (.goto 4), none, none, some (.iconst 0), some (.istore_n 3), some (.iinc 4 1), none, none, some (.goto (-71))],
  [none, none, some (.iload_n 3), some (.ireturn)]]
theorem q_code184_ok : q_dec prog_14_method_19_code q_code184 := f_chk_ok (B := [[3, 61, 4, 62, 42, 89, 180, 0, 110, 4, 96, 181, 0, 110, 29, 153],
  [0, 13, 28, 16, 6, 162, 0, 7, 4, 167, 0, 4, 3, 62, 42, 182],
  [0, 130, 54, 4, 42, 180, 0, 127, 54, 5, 42, 89, 180, 0, 110, 4],
  [96, 181, 0, 110, 42, 182, 0, 130, 54, 4, 29, 154, 0, 6, 167, 0],
  [39, 42, 180, 0, 9, 16, 28, 27, 104, 6, 96, 28, 96, 21, 5, 79],
  [42, 180, 0, 9, 16, 28, 27, 104, 16, 9, 96, 28, 96, 42, 180, 0],
  [127, 79, 132, 2, 1, 42, 182, 0, 119, 16, 32, 159, 255, 153, 42, 180],
  [0, 9, 16, 28, 27, 104, 5, 96, 28, 79, 29, 153, 0, 56, 28, 4],
  [164, 0, 51, 42, 27, 3, 182, 0, 106, 154, 0, 42, 42, 180, 0, 9],
  [16, 28, 27, 104, 16, 8, 96, 28, 96, 46, 154, 0, 25, 42, 180, 0],
  [9, 16, 28, 27, 104, 5, 96, 28, 96, 46, 16, 60, 163, 0, 7, 4],
  [167, 0, 4, 3, 62, 4, 54, 4, 21, 4, 28, 162, 0, 71, 29, 153],
  [0, 59, 42, 27, 21, 4, 182, 0, 106, 42, 27, 21, 4, 4, 100, 182],
  [0, 106, 164, 0, 40, 42, 180, 0, 9, 16, 28, 27, 104, 16, 9, 96],
  [21, 4, 96, 46, 42, 180, 0, 9, 16, 28, 27, 104, 16, 8, 96, 21],
  [4, 96, 46, 162, 0, 7, 4, 167, 0, 4, 3, 62, 132, 4, 1, 167],
  [255, 185, 29, 172]]) (by decide +kernel)
def q_code185 : List (List (Option Instr)) := [[some (.iload_n 1), some (.iload_n 2), some (.if_icmp .ge 34), none, none, some (.iload_n 3), some (.aload_n 0), some (.iload_n 1), some (.invokevirtual 99), none, none, some (.ishr), some (.iconst 1), some (.iand), some (.iconst 1), some (.if_icmp .ne 21)],
  [none, none, some (.aload_n 0), some (.getfield 9), none, none, some (.bipush 28), none, some (.iload_n 1), some (.imul), some (.iconst 1), some (.iadd), some (.iaload), some (.ifCond .ne 7), none, none],
  [some (.iconst 1), some (.goto 4), none, none, some (.iconst 0), some (.ireturn)]]
theorem q_code185_ok : q_dec prog_14_method_20_code q_code185 := f_chk_ok (B := [[27, 28, 162, 0, 34, 29, 42, 27, 182, 0, 99, 122, 4, 126, 4, 160],
  [0, 21, 42, 180, 0, 9, 16, 28, 27, 104, 4, 96, 46, 154, 0, 7],
  [4, 167, 0, 4, 3, 172]]) (by decide +kernel)
def q_code186 : List (List (Option Instr)) := [[some (.iconst 0), some (.istore_n 2), some (.iconst 0), some (.istore_n 3), some (.iconst 1), some (.istore 4), none, some (.aload_n 0), some (.dup), some (.getfield 110), none, none, some (.iconst 1), some (.iadd), some (.putfield 110), none],
  [none, some (.aload_n 0), some (.bipush 91), none, some (.invokevirtual 134), none, none, some (.istore 5), none, some (.iconst 1), some (.istore 6), none, some (.iload 6), none, some (.ifCond .eq 121), none],
  [none, some (.aload_n 0), some (.invokevirtual 130), none, none, some (.istore 7), none, some (.iload 4), none, some (.ifCond .eq 26), none, none, some (.iload_n 2), some (.bipush 8), none, some (.if_icmp .ge 20)],
  [none, none, some (.aload_n 0), some (.aload_n 0), some (.getfield 127), none, none, some (.iload_n 1), some (.iconst 1), some (.invokevirtual 147), none, none, some (.ifCond .eq 7), none, none, some (.iconst 1)],
  [some (.goto 4), none, none, some (.iconst 0), some (.istore 4), none, some (.iload 4), none, some (.ifCond .eq 55), none, none, some (.aload_n 0), some (.getfield 9), none, none, some (.bipush 28)],
  [none, some (.iload_n 1), some (.imul), some (.iconst 3), some (.iadd), some (.iload_n 2), some (.iadd), some (.aload_n 0), some (.getfield 127), none, none, some (.iastore), some (.aload_n 0), some (.getfield 9), none, none],
  [some (.bipush 28), none, some (.iload_n 1), some (.imul), some (.bipush 11), none, some (.iadd), some (.iload_n 2), some (.iadd), some (.iload_n 3), some (.iastore), some (.aload_n 0), some (.getfield 9), none, none, some (.bipush 28)],
  [none, some (.aload_n 0), some (.getfield 127), none, none, some (.imul), some (.iconst 1), some (.iadd), some (.iload_n 1), some (.iconst 1), some (.iadd), some (.iastore), some (.iinc 2 1), none, none, some (.iload 5)],
  [none, some (.ifCond .eq 16), none, none, some (.aload_n 0), some (.bipush 32), none, some (.invokevirtual 134), none, none, some (.ifCond .eq 7), none, none, some (.iconst 1), some (.goto 4), none],
  [none, some (.iconst 0), some (.istore 6), none, some (.goto (-120)), none, none, some (.iload 5), none, some (.ifCond .eq 13), none, none, some (.aload_n 0), some (.dup), some (.getfield 110), none],
  [none, some (.iconst 1), some (.iadd), some (.putfield 110), none, none, some (.iload 4), none, some (.ifCond .eq 27), none, none, some (.aload_n 0), some (.getfield 9), none, none, some (.bipush 28)],
  [none, some (.iload_n 1), some (.imul), some (.bipush 20), none, some (.iadd), some (.iload_n 3), some (.iadd), some (.iload 5), none, some (.ifCond .eq 7), none, none, some (.iconst 1), some (.goto 4), none],
  [none, some (.iconst 0), some (.iastore), some (.iinc 3 1), none, none, some (.aload_n 0), some (.invokevirtual 119), none, none, some (.bipush 32), none, some (.if_icmp .eq (-197)), none, none, some (.aload_n 0)],
  [some (.getfield 9), none, none, some (.bipush 28), none, some (.iload_n 1), some (.imul), some (.iconst 2), some (.iadd), some (.iload_n 2), some (.iastore), some (.aload_n 0), some (.getfield 9), none, none, some (.bipush 28)],
  [none, some (.iload_n 1), some (.imul), some (.bipush 19), none, some (.iadd), some (.iload_n 3), some (.bipush 8), none, some (.invokestatic 151), none, none, some (.iastore), some (.iload 4), none, some (.ireturn)]]
theorem q_code186_ok : q_dec prog_14_method_21_code q_code186 := f_chk_ok (B := [[3, 61, 3, 62, 4, 54, 4, 42, 89, 180, 0, 110, 4, 96, 181, 0],
  [110, 42, 16, 91, 182, 0, 134, 54, 5, 4, 54, 6, 21, 6, 153, 0],
  [121, 42, 182, 0, 130, 54, 7, 21, 4, 153, 0, 26, 28, 16, 8, 162],
  [0, 20, 42, 42, 180, 0, 127, 27, 4, 182, 0, 147, 153, 0, 7, 4],
  [167, 0, 4, 3, 54, 4, 21, 4, 153, 0, 55, 42, 180, 0, 9, 16],
  [28, 27, 104, 6, 96, 28, 96, 42, 180, 0, 127, 79, 42, 180, 0, 9],
  [16, 28, 27, 104, 16, 11, 96, 28, 96, 29, 79, 42, 180, 0, 9, 16],
  [28, 42, 180, 0, 127, 104, 4, 96, 27, 4, 96, 79, 132, 2, 1, 21],
  [5, 153, 0, 16, 42, 16, 32, 182, 0, 134, 153, 0, 7, 4, 167, 0],
  [4, 3, 54, 6, 167, 255, 136, 21, 5, 153, 0, 13, 42, 89, 180, 0],
  [110, 4, 96, 181, 0, 110, 21, 4, 153, 0, 27, 42, 180, 0, 9, 16],
  [28, 27, 104, 16, 20, 96, 29, 96, 21, 5, 153, 0, 7, 4, 167, 0],
  [4, 3, 79, 132, 3, 1, 42, 182, 0, 119, 16, 32, 159, 255, 59, 42],
  [180, 0, 9, 16, 28, 27, 104, 5, 96, 28, 79, 42, 180, 0, 9, 16],
  [28, 27, 104, 16, 19, 96, 29, 16, 8, 184, 0, 151, 79, 21, 4, 172]]) (by decide +kernel)
def q_code187 : List (List (Option Instr)) := [[some (.iconst 0), some (.istore 4), none, some (.iconst 1), some (.istore 5), none, some (.aload_n 0), some (.dup), some (.getfield 110), none, none, some (.iconst 1), some (.iadd), some (.putfield 110), none, none],
  [some (.aload_n 0), some (.invokevirtual 130), none, none, some (.istore 6), none, some (.iload 5), none, some (.ifCond .eq 26), none, none, some (.iload 4), none, some (.iload_n 2), some (.if_icmp .ge 20), none],
  [none, some (.aload_n 0), some (.aload_n 0), some (.getfield 127), none, none, some (.iload_n 1), some (.iload_n 3), some (.invokevirtual 147), none, none, some (.ifCond .eq 7), none, none, some (.iconst 1), some (.goto 4)],
  [none, none, some (.iconst 0), some (.istore 5), none, some (.iload 5), none, some (.ifCond .ne 6), none, none, some (.goto 41), none, none, some (.aload_n 0), some (.getfield 9), none],
  [none, some (.bipush 28), none, some (.iload_n 1), some (.imul), some (.iconst 3), some (.iadd), some (.iload 4), none, some (.iadd), some (.aload_n 0), some (.getfield 127), none, none, some (.iastore), some (.aload_n 0)],
  [some (.getfield 9), none, none, some (.bipush 28), none, some (.aload_n 0), some (.getfield 127), none, none, some (.imul), some (.iconst 1), some (.iadd), some (.iload_n 1), some (.iconst 1), some (.iadd), some (.iastore)],
  [some (.iinc 4 1), none, none, some (.aload_n 0), some (.invokevirtual 119), none, none, some (.bipush 32), none, some (.if_icmp .eq (-99)), none, none, some (.aload_n 0), some (.getfield 9), none, none],
  [some (.bipush 28), none, some (.iload_n 1), some (.imul), some (.iconst 2), some (.iadd), some (.iload 4), none, some (.iastore), some (.iload 5), none, some (.ireturn)]]
theorem q_code187_ok : q_dec prog_14_method_22_code q_code187 := f_chk_ok (B := [[3, 54, 4, 4, 54, 5, 42, 89, 180, 0, 110, 4, 96, 181, 0, 110],
  [42, 182, 0, 130, 54, 6, 21, 5, 153, 0, 26, 21, 4, 28, 162, 0],
  [20, 42, 42, 180, 0, 127, 27, 29, 182, 0, 147, 153, 0, 7, 4, 167],
  [0, 4, 3, 54, 5, 21, 5, 154, 0, 6, 167, 0, 41, 42, 180, 0],
  [9, 16, 28, 27, 104, 6, 96, 21, 4, 96, 42, 180, 0, 127, 79, 42],
  [180, 0, 9, 16, 28, 42, 180, 0, 127, 104, 4, 96, 27, 4, 96, 79],
  [132, 4, 1, 42, 182, 0, 119, 16, 32, 159, 255, 157, 42, 180, 0, 9],
  [16, 28, 27, 104, 5, 96, 21, 4, 79, 21, 5, 172]]) (by decide +kernel)
def q_code188 : List (List (Option Instr)) := [[some (.aload_n 0), some (.getfield 9), none, none, some (.sipush 1198), none, none, some (.iaload), some (.istore_n 1), some (.iload_n 1), some (.bipush 40), none, some (.if_icmp .ne 5), none, none, some (.iconst 0)],
  [some (.ireturn), some (.iconst 0), some (.istore_n 2), some (.iload_n 2), some (.bipush 28), none, some (.if_icmp .ge 21), none, none, some (.aload_n 0), some (.getfield 9), none, none, some (.bipush 28), none, some (.iload_n 1)],
  [some (.imul), some (.iload_n 2), some (.iadd), some (.iconst 0), some (.iastore), some (.iinc 2 1), none, none, some (.goto (-21)), none, none, some (.aload_n 0), some (.invokevirtual 119), none, none, some (.istore_n 2)],
  [some (.iload_n 2), some (.bipush 99), none, some (.if_icmp .ne 7), none, none, some (.iconst 0), some (.goto 24), none, none, some (.iload_n 2), some (.bipush 114), none, some (.if_icmp .ne 7), none, none],
  [some (.iconst 1), some (.goto 14), none, none, some (.iload_n 2), some (.bipush 102), none, some (.if_icmp .ne 7), none, none, some (.iconst 2), some (.goto 4), none, none, some (.iconst 3), some (.istore_n 3)],
  [some (.aload_n 0), some (.getfield 9), none, none, some (.bipush 28), none, some (.iload_n 1), some (.imul), some (.iload_n 3), some (.iastore), some (.iload_n 3), some (.ifCond .ne 11), none, none, some (.aload_n 0), some (.iload_n 1)],
  [some (.invokevirtual 154), none, none, some (.goto 40), none, none, some (.iload_n 3), some (.iconst 1), some (.if_icmp .ne 11), none, none, some (.aload_n 0), some (.iload_n 1), some (.invokevirtual 157), none, none],
  [some (.goto 27), none, none, some (.iload_n 3), some (.iconst 2), some (.if_icmp .ne 14), none, none, some (.aload_n 0), some (.iload_n 1), some (.bipush 6), none, some (.iconst 3), some (.invokevirtual 160), none, none],
  [some (.goto 11), none, none, some (.aload_n 0), some (.iload_n 1), some (.iconst 1), some (.bipush 7), none, some (.invokevirtual 160), none, none, some (.istore 4), none, some (.iload_n 3), some (.ifCond .ne 17), none],
  [none, some (.aload_n 0), some (.getfield 9), none, none, some (.bipush 28), none, some (.iload_n 1), some (.imul), some (.bipush 15), none, some (.iadd), some (.bipush 100), none, some (.iastore), some (.iload_n 3)],
  [some (.iconst 3), some (.if_icmp .ne 28), none, none, some (.aload_n 0), some (.getfield 9), none, none, some (.bipush 28), none, some (.iload_n 1), some (.imul), some (.iconst 5), some (.iadd), some (.iconst 5), some (.iastore)],
  [some (.aload_n 0), some (.getfield 9), none, none, some (.bipush 28), none, some (.iload_n 1), some (.imul), some (.bipush 6), none, some (.iadd), some (.iconst 1), some (.iastore), some (.aload_n 0), some (.dup), some (.getfield 110)],
  [none, none, some (.iconst 1), some (.iadd), some (.putfield 110), none, none, some (.aload_n 0), some (.getfield 9), none, none, some (.sipush 1198), none, none, some (.dup2), some (.iaload)],
  [some (.iconst 1), some (.iadd), some (.iastore), some (.iload 4), none, some (.ireturn)]]
theorem q_code188_ok : q_dec prog_14_method_23_code q_code188 := f_chk_ok (B := [[42, 180, 0, 9, 17, 4, 174, 46, 60, 27, 16, 40, 160, 0, 5, 3],
  [172, 3, 61, 28, 16, 28, 162, 0, 21, 42, 180, 0, 9, 16, 28, 27],
  [104, 28, 96, 3, 79, 132, 2, 1, 167, 255, 235, 42, 182, 0, 119, 61],
  [28, 16, 99, 160, 0, 7, 3, 167, 0, 24, 28, 16, 114, 160, 0, 7],
  [4, 167, 0, 14, 28, 16, 102, 160, 0, 7, 5, 167, 0, 4, 6, 62],
  [42, 180, 0, 9, 16, 28, 27, 104, 29, 79, 29, 154, 0, 11, 42, 27],
  [182, 0, 154, 167, 0, 40, 29, 4, 160, 0, 11, 42, 27, 182, 0, 157],
  [167, 0, 27, 29, 5, 160, 0, 14, 42, 27, 16, 6, 6, 182, 0, 160],
  [167, 0, 11, 42, 27, 4, 16, 7, 182, 0, 160, 54, 4, 29, 154, 0],
  [17, 42, 180, 0, 9, 16, 28, 27, 104, 16, 15, 96, 16, 100, 79, 29],
  [6, 160, 0, 28, 42, 180, 0, 9, 16, 28, 27, 104, 8, 96, 8, 79],
  [42, 180, 0, 9, 16, 28, 27, 104, 16, 6, 96, 4, 79, 42, 89, 180],
  [0, 110, 4, 96, 181, 0, 110, 42, 180, 0, 9, 17, 4, 174, 92, 46],
  [4, 96, 79, 21, 4, 172]]) (by decide +kernel)
def q_code189 : List (List (Option Instr)) := [[some (.iload_n 1), some (.invokestatic 163), none, none, some (.ifCond .ne 7), none, none, some (.iconst (-1)), some (.goto 47), none, none, some (.aload_n 0), some (.getfield 16), none, none, some (.iload_n 1)],
  [some (.iaload), some (.ifCond .ne 8), none, none, some (.bipush (-11)), none, some (.goto 33), none, none, some (.aload_n 0), some (.getfield 16), none, none, some (.iload_n 1), some (.iaload), some (.iconst 2)],
  [some (.if_icmp .ne 17), none, none, some (.iload_n 2), some (.ifCond .lt 18), none, none, some (.aload_n 0), some (.getfield 19), none, none, some (.iload_n 1), some (.iaload), some (.iload_n 2), some (.if_icmp .eq 8), none],
  [none, some (.bipush (-12)), none, some (.goto 4), none, none, some (.iconst 0), some (.ireturn)]]
theorem q_code189_ok : q_dec prog_14_method_24_code q_code189 := f_chk_ok (B := [[27, 184, 0, 163, 154, 0, 7, 2, 167, 0, 47, 42, 180, 0, 16, 27],
  [46, 154, 0, 8, 16, 245, 167, 0, 33, 42, 180, 0, 16, 27, 46, 5],
  [160, 0, 17, 28, 155, 0, 18, 42, 180, 0, 19, 27, 46, 28, 159, 0],
  [8, 16, 244, 167, 0, 4, 3, 172]]) (by decide +kernel)
def q_code190 : List (List (Option Instr)) := [[some (.aload_n 0), some (.iload_n 1), some (.iconst 0), some (.invokevirtual 166), none, none, some (.istore_n 2), some (.iload_n 2), some (.ifCond .eq 5), none, none, some (.iload_n 2), some (.ireturn), some (.aload_n 0), some (.bipush 120), none],
  [some (.iload_n 1), some (.imul), some (.putfield 116), none, none, some (.aload_n 0), some (.aload_n 0), some (.getfield 22), none, none, some (.iload_n 1), some (.iaload), some (.putfield 113), none, none, some (.aload_n 0)],
  [some (.iconst 0), some (.putfield 110), none, none, some (.aload_n 0), some (.invokevirtual 169), none, none, some (.ifCond .ne 12), none, none, some (.sipush (-1000)), none, none, some (.aload_n 0), some (.getfield 110)],
  [none, none, some (.isub), some (.ireturn), some (.aload_n 0), some (.getfield 110), none, none, some (.aload_n 0), some (.getfield 113), none, none, some (.if_icmp .lt (-24)), none, none, some (.iconst 0)],
  [some (.istore_n 3), some (.iload_n 3), some (.sipush 1330), none, none, some (.if_icmp .ge 21), none, none, some (.aload_n 0), some (.getfield 43), none, none, some (.iload_n 3), some (.aload_n 0), some (.getfield 9), none],
  [none, some (.iload_n 3), some (.iaload), some (.iastore), some (.iinc 3 1), none, none, some (.goto (-22)), none, none, some (.aload_n 0), some (.iconst 0), some (.putfield 110), none, none, some (.aload_n 0)],
  [some (.getfield 110), none, none, some (.aload_n 0), some (.getfield 113), none, none, some (.if_icmp .ge 55), none, none, some (.aload_n 0), some (.getfield 110), none, none, some (.istore_n 3), some (.aload_n 0)],
  [some (.invokevirtual 172), none, none, some (.ifCond .eq 6), none, none, some (.goto (-23)), none, none, some (.iconst 0), some (.istore 4), none, some (.iload 4), none, some (.sipush 1330), none],
  [none, some (.if_icmp .ge 23), none, none, some (.aload_n 0), some (.getfield 9), none, none, some (.iload 4), none, some (.aload_n 0), some (.getfield 43), none, none, some (.iload 4), none],
  [some (.iaload), some (.iastore), some (.iinc 4 1), none, none, some (.goto (-25)), none, none, some (.sipush (-2000)), none, none, some (.iload_n 3), some (.isub), some (.ireturn), some (.aload_n 0), some (.getfield 9)],
  [none, none, some (.sipush 1198), none, none, some (.iaload), some (.aload_n 0), some (.getfield 43), none, none, some (.sipush 1198), none, none, some (.iaload), some (.isub), some (.ireturn)]]
theorem q_code190_ok : q_dec prog_14_method_25_code q_code190 := f_chk_ok (B := [[42, 27, 3, 182, 0, 166, 61, 28, 153, 0, 5, 28, 172, 42, 16, 120],
  [27, 104, 181, 0, 116, 42, 42, 180, 0, 22, 27, 46, 181, 0, 113, 42],
  [3, 181, 0, 110, 42, 182, 0, 169, 154, 0, 12, 17, 252, 24, 42, 180],
  [0, 110, 100, 172, 42, 180, 0, 110, 42, 180, 0, 113, 161, 255, 232, 3],
  [62, 29, 17, 5, 50, 162, 0, 21, 42, 180, 0, 43, 29, 42, 180, 0],
  [9, 29, 46, 79, 132, 3, 1, 167, 255, 234, 42, 3, 181, 0, 110, 42],
  [180, 0, 110, 42, 180, 0, 113, 162, 0, 55, 42, 180, 0, 110, 62, 42],
  [182, 0, 172, 153, 0, 6, 167, 255, 233, 3, 54, 4, 21, 4, 17, 5],
  [50, 162, 0, 23, 42, 180, 0, 9, 21, 4, 42, 180, 0, 43, 21, 4],
  [46, 79, 132, 4, 1, 167, 255, 231, 17, 248, 48, 29, 100, 172, 42, 180],
  [0, 9, 17, 4, 174, 46, 42, 180, 0, 43, 17, 4, 174, 46, 100, 172]]) (by decide +kernel)
def q_code191 : List (List (Option Instr)) := [[some (.aload_n 0), some (.iload_n 1), some (.invokevirtual 175), none, none, some (.ifCond .eq 15), none, none, some (.iload_n 2), some (.i2l), some (.lconst 0), some (.ldc2_w 178), none, none, some (.invokestatic 83), none],
  [none, some (.ifCond .ne 5), none, none, some (.iconst (-1)), some (.ireturn), some (.aload_n 0), some (.iload_n 1), some (.invokevirtual 180), none, none, some (.iload_n 2), some (.tableswitch 78 0 3 #[32, 38, 43, 48]), none, none, none],
  [none, none, none, none, none, none, none, none, none, none, none, none, none, none, none, none],
  [none, none, none, none, none, none, none, none, none, none, none, none, some (.aload_n 0), some (.iload_n 1), some (.invokevirtual 99), none],
  [none, some (.ireturn), some (.aload_n 0), some (.getfield 89), none, none, some (.ireturn), some (.aload_n 0), some (.getfield 92), none, none, some (.ireturn), some (.aload_n 0), some (.iload_n 1), some (.invokevirtual 99), none],
  [none, some (.iconst 1), some (.if_icmp .ne 18), none, none, some (.aload_n 0), some (.getfield 9), none, none, some (.bipush 28), none, some (.iload_n 1), some (.imul), some (.bipush 19), none, some (.iadd)],
  [some (.iaload), some (.goto 8), none, none, some (.aload_n 0), some (.iload_n 1), some (.invokevirtual 103), none, none, some (.ireturn), some (.aload_n 0), some (.getfield 9), none, none, some (.bipush 28), none],
  [some (.iload_n 1), some (.imul), some (.iconst 1), some (.iadd), some (.iaload), some (.ifCond .ne 8), none, none, some (.bipush (-4)), none, some (.goto 16), none, none, some (.aload_n 0), some (.getfield 9), none],
  [none, some (.bipush 28), none, some (.iload_n 1), some (.imul), some (.iconst 1), some (.iadd), some (.iaload), some (.iconst 1), some (.isub), some (.ireturn)]]
theorem q_code191_ok : q_dec prog_14_method_26_code q_code191 := f_chk_ok (B := [[42, 27, 182, 0, 175, 153, 0, 15, 28, 133, 9, 20, 0, 178, 184, 0],
  [83, 154, 0, 5, 2, 172, 42, 27, 182, 0, 180, 28, 170, 0, 0, 0],
  [0, 0, 0, 78, 0, 0, 0, 0, 0, 0, 0, 3, 0, 0, 0, 32],
  [0, 0, 0, 38, 0, 0, 0, 43, 0, 0, 0, 48, 42, 27, 182, 0],
  [99, 172, 42, 180, 0, 89, 172, 42, 180, 0, 92, 172, 42, 27, 182, 0],
  [99, 4, 160, 0, 18, 42, 180, 0, 9, 16, 28, 27, 104, 16, 19, 96],
  [46, 167, 0, 8, 42, 27, 182, 0, 103, 172, 42, 180, 0, 9, 16, 28],
  [27, 104, 4, 96, 46, 154, 0, 8, 16, 252, 167, 0, 16, 42, 180, 0],
  [9, 16, 28, 27, 104, 4, 96, 46, 4, 100, 172]]) (by decide +kernel)
def q_code192 : List (List (Option Instr)) := [[some (.bipush 28), none, some (.iload_n 1), some (.imul), some (.bipush 15), none, some (.iadd), some (.istore_n 2), some (.aload_n 0), some (.getfield 9), none, none, some (.iload_n 2), some (.iconst 4), some (.iadd), some (.iaload)],
  [some (.iconst 1), some (.if_icmp .eq 11), none, none, some (.aload_n 0), some (.getfield 50), none, none, some (.iload_n 1), some (.if_icmp .ne 5), none, none, some (.iconst 0), some (.ireturn), some (.aload_n 0), some (.getfield 183)],
  [none, none, some (.iconst 1), some (.iand), some (.iconst 1), some (.if_icmp .ne 8), none, none, some (.bipush 100), none, some (.goto 36), none, none, some (.aload_n 0), some (.getfield 46), none],
  [none, some (.ifCond .lt 23), none, none, some (.aload_n 0), some (.iload_n 1), some (.aload_n 0), some (.getfield 46), none, none, some (.invokevirtual 186), none, none, some (.aload_n 0), some (.getfield 189), none],
  [none, some (.imul), some (.bipush 100), none, some (.idiv), some (.goto 9), none, none, some (.aload_n 0), some (.getfield 9), none, none, some (.iload_n 2), some (.iaload), some (.istore_n 3), some (.aload_n 0)],
  [some (.getfield 183), none, none, some (.iconst 2), some (.iand), some (.iconst 2), some (.if_icmp .ne 7), none, none, some (.iconst 0), some (.goto 11), none, none, some (.aload_n 0), some (.getfield 9), none],
  [none, some (.iload_n 2), some (.iconst 1), some (.iadd), some (.iaload), some (.istore 4), none, some (.aload_n 0), some (.getfield 183), none, none, some (.iconst 4), some (.iand), some (.iconst 4), some (.if_icmp .ne 7), none],
  [none, some (.iconst 0), some (.goto 11), none, none, some (.aload_n 0), some (.getfield 9), none, none, some (.iload_n 2), some (.iconst 2), some (.iadd), some (.iaload), some (.istore 5), none, some (.iload_n 3)],
  [some (.bipush 100), none, some (.iload 4), none, some (.isub), some (.imul), some (.bipush 100), none, some (.iload 5), none, some (.isub), some (.imul), some (.sipush 10000), none, none, some (.idiv)],
  [some (.ireturn)]]
theorem q_code192_ok : q_dec prog_14_method_27_code q_code192 := f_chk_ok (B := [[16, 28, 27, 104, 16, 15, 96, 61, 42, 180, 0, 9, 28, 7, 96, 46],
  [4, 159, 0, 11, 42, 180, 0, 50, 27, 160, 0, 5, 3, 172, 42, 180],
  [0, 183, 4, 126, 4, 160, 0, 8, 16, 100, 167, 0, 36, 42, 180, 0],
  [46, 155, 0, 23, 42, 27, 42, 180, 0, 46, 182, 0, 186, 42, 180, 0],
  [189, 104, 16, 100, 108, 167, 0, 9, 42, 180, 0, 9, 28, 46, 62, 42],
  [180, 0, 183, 5, 126, 5, 160, 0, 7, 3, 167, 0, 11, 42, 180, 0],
  [9, 28, 4, 96, 46, 54, 4, 42, 180, 0, 183, 7, 126, 7, 160, 0],
  [7, 3, 167, 0, 11, 42, 180, 0, 9, 28, 5, 96, 46, 54, 5, 29],
  [16, 100, 21, 4, 100, 104, 16, 100, 21, 5, 100, 104, 17, 39, 16, 108],
  [172]]) (by decide +kernel)
def q_code193 : List (List (Option Instr)) := [[some (.aload_n 0), some (.iload_n 1), some (.iload_n 2), some (.invokevirtual 106), none, none, some (.istore_n 3), some (.iload_n 3), some (.iload_n 3), some (.aload_n 0), some (.getfield 183), none, none, some (.bipush 8), none, some (.iand)],
  [some (.bipush 8), none, some (.if_icmp .ne 7), none, none, some (.iconst 0), some (.goto 17), none, none, some (.aload_n 0), some (.getfield 9), none, none, some (.bipush 28), none, some (.iload_n 1)],
  [some (.imul), some (.bipush 15), none, some (.iadd), some (.iconst 3), some (.iadd), some (.iaload), some (.imul), some (.bipush 100), none, some (.idiv), some (.isub), some (.ireturn)]]
theorem q_code193_ok : q_dec prog_14_method_28_code q_code193 := f_chk_ok (B := [[42, 27, 28, 182, 0, 106, 62, 29, 29, 42, 180, 0, 183, 16, 8, 126],
  [16, 8, 160, 0, 7, 3, 167, 0, 17, 42, 180, 0, 9, 16, 28, 27],
  [104, 16, 15, 96, 6, 96, 46, 104, 16, 100, 108, 100, 172]]) (by decide +kernel)
def q_code194 : List (List (Option Instr)) := [[some (.aload_n 0), some (.getfield 9), none, none, some (.bipush 28), none, some (.iload_n 1), some (.imul), some (.bipush 9), none, some (.iadd), some (.iload_n 2), some (.iadd), some (.iaload), some (.iload_n 3), some (.imul)],
  [some (.bipush 100), none, some (.idiv), some (.ireturn)]]
theorem q_code194_ok : q_dec prog_14_method_29_code q_code194 := f_chk_ok (B := [[42, 180, 0, 9, 16, 28, 27, 104, 16, 9, 96, 28, 96, 46, 29, 104],
  [16, 100, 108, 172]]) (by decide +kernel)
def q_code195 : List (List (Option Instr)) := [[some (.aload_n 0), some (.iload_n 1), some (.invokevirtual 175), none, none, some (.ifCond .eq 13), none, none, some (.iload_n 3), some (.i2l), some (.lconst 0), some (.lconst 1), some (.invokestatic 83), none, none, some (.ifCond .ne 5)],
  [none, none, some (.iconst (-1)), some (.ireturn), some (.aload_n 0), some (.iload_n 1), some (.invokevirtual 99), none, none, some (.ifCond .eq 6), none, none, some (.bipush (-3)), none, some (.ireturn), some (.iload_n 2)],
  [some (.i2l), some (.lconst 0), some (.aload_n 0), some (.iload_n 1), some (.invokevirtual 103), none, none, some (.iconst 1), some (.isub), some (.i2l), some (.invokestatic 83), none, none, some (.ifCond .ne 5), none, none],
  [some (.iconst (-1)), some (.ireturn), some (.iload_n 3), some (.ifCond .ne 12), none, none, some (.aload_n 0), some (.iload_n 1), some (.iload_n 2), some (.invokevirtual 192), none, none, some (.goto 14), none, none, some (.aload_n 0)],
  [some (.iload_n 1), some (.iload_n 2), some (.aload_n 0), some (.iload_n 1), some (.invokevirtual 195), none, none, some (.invokevirtual 198), none, none, some (.ireturn)]]
theorem q_code195_ok : q_dec prog_14_method_30_code q_code195 := f_chk_ok (B := [[42, 27, 182, 0, 175, 153, 0, 13, 29, 133, 9, 10, 184, 0, 83, 154],
  [0, 5, 2, 172, 42, 27, 182, 0, 99, 153, 0, 6, 16, 253, 172, 28],
  [133, 9, 42, 27, 182, 0, 103, 4, 100, 133, 184, 0, 83, 154, 0, 5],
  [2, 172, 29, 154, 0, 12, 42, 27, 28, 182, 0, 192, 167, 0, 14, 42],
  [27, 28, 42, 27, 182, 0, 195, 182, 0, 198, 172]]) (by decide +kernel)
def q_code196 : List (List (Option Instr)) := [[some (.aload_n 0), some (.iload_n 1), some (.invokevirtual 175), none, none, some (.ifCond .eq 48), none, none, some (.iload_n 2), some (.i2l), some (.lconst 0), some (.ldc2_w 202), none, none, some (.invokestatic 83), none],
  [none, some (.ifCond .eq 36), none, none, some (.iload_n 3), some (.i2l), some (.lconst 0), some (.iload_n 2), some (.ifCond .ne 9), none, none, some (.ldc2_w 204), none, none, some (.goto 17), none],
  [none, some (.iload_n 2), some (.iconst 3), some (.if_icmp .ne 9), none, none, some (.ldc2_w 206), none, none, some (.goto 6), none, none, some (.ldc2_w 208), none, none, some (.invokestatic 83)],
  [none, none, some (.ifCond .ne 5), none, none, some (.iconst (-1)), some (.ireturn), some (.aload_n 0), some (.iload_n 1), some (.invokevirtual 99), none, none, some (.ifCond .eq 6), none, none, some (.bipush (-3))],
  [none, some (.ireturn), some (.aload_n 0), some (.getfield 9), none, none, some (.bipush 28), none, some (.iload_n 1), some (.imul), some (.bipush 15), none, some (.iadd), some (.iload_n 2), some (.iadd), some (.iaload)],
  [some (.istore 4), none, some (.aload_n 0), some (.getfield 9), none, none, some (.bipush 28), none, some (.iload_n 1), some (.imul), some (.bipush 15), none, some (.iadd), some (.iload_n 2), some (.iadd), some (.iload_n 3)],
  [some (.iastore), some (.iload 4), none, some (.ireturn)]]
theorem q_code196_ok : q_dec prog_14_method_31_code q_code196 := f_chk_ok (B := [[42, 27, 182, 0, 175, 153, 0, 48, 28, 133, 9, 20, 0, 202, 184, 0],
  [83, 153, 0, 36, 29, 133, 9, 28, 154, 0, 9, 20, 0, 204, 167, 0],
  [17, 28, 6, 160, 0, 9, 20, 0, 206, 167, 0, 6, 20, 0, 208, 184],
  [0, 83, 154, 0, 5, 2, 172, 42, 27, 182, 0, 99, 153, 0, 6, 16],
  [253, 172, 42, 180, 0, 9, 16, 28, 27, 104, 16, 15, 96, 28, 96, 46],
  [54, 4, 42, 180, 0, 9, 16, 28, 27, 104, 16, 15, 96, 28, 96, 29],
  [79, 21, 4, 172]]) (by decide +kernel)
def q_code197 : List (List (Option Instr)) := [[some (.aload_n 0), some (.iload_n 1), some (.invokevirtual 175), none, none, some (.ifCond .ne 5), none, none, some (.iconst (-1)), some (.ireturn), some (.aload_n 0), some (.iload_n 1), some (.invokevirtual 99), none, none, some (.ifCond .eq 6)],
  [none, none, some (.bipush (-3)), none, some (.ireturn), some (.aload_n 0), some (.getfield 9), none, none, some (.bipush 28), none, some (.iload_n 1), some (.imul), some (.bipush 19), none, some (.iadd)],
  [some (.iaload), some (.iconst 1), some (.if_icmp .ne 7), none, none, some (.iconst 1), some (.goto 4), none, none, some (.iconst 0), some (.istore_n 3), some (.aload_n 0), some (.getfield 9), none, none, some (.bipush 28)],
  [none, some (.iload_n 1), some (.imul), some (.bipush 19), none, some (.iadd), some (.iload_n 2), some (.ifCond .eq 7), none, none, some (.iconst 1), some (.goto 4), none, none, some (.iconst 0), some (.iastore)],
  [some (.iload_n 3), some (.iload_n 2), some (.if_icmp .ne 7), none, none, some (.iconst 0), some (.goto 4), none, none, some (.iconst 1), some (.ireturn)]]
theorem q_code197_ok : q_dec prog_14_method_32_code q_code197 := f_chk_ok (B := [[42, 27, 182, 0, 175, 154, 0, 5, 2, 172, 42, 27, 182, 0, 99, 153],
  [0, 6, 16, 253, 172, 42, 180, 0, 9, 16, 28, 27, 104, 16, 19, 96],
  [46, 4, 160, 0, 7, 4, 167, 0, 4, 3, 62, 42, 180, 0, 9, 16],
  [28, 27, 104, 16, 19, 96, 28, 153, 0, 7, 4, 167, 0, 4, 3, 79],
  [29, 28, 160, 0, 7, 3, 167, 0, 4, 4, 172]]) (by decide +kernel)
def q_code198 : List (List (Option Instr)) := [[some (.aload_n 0), some (.iload_n 1), some (.iconst 0), some (.iload_n 3), some (.invokevirtual 198), none, none, some (.istore 4), none, some (.iload_n 2), some (.iload 4), none, some (.if_icmp .le 25), none, none, some (.iload_n 2)],
  [some (.iload 4), none, some (.isub), some (.bipush 10), none, some (.if_icmp .le 8), none, none, some (.bipush (-20)), none, some (.goto 10), none, none, some (.bipush (-2)), none, some (.iload_n 2)],
  [some (.iload 4), none, some (.isub), some (.imul), some (.ireturn), some (.aload_n 0), some (.iload_n 1), some (.invokevirtual 103), none, none, some (.iconst 1), some (.isub), some (.istore 5), none, some (.iload 5), none],
  [some (.ifCond .le 94), none, none, some (.aload_n 0), some (.iload_n 1), some (.iload 5), none, some (.iload_n 3), some (.invokevirtual 198), none, none, some (.istore 6), none, some (.aload_n 0), some (.iload_n 1), some (.iload 5)],
  [none, some (.iconst 1), some (.isub), some (.iload_n 3), some (.invokevirtual 198), none, none, some (.istore 7), none, some (.iload_n 2), some (.iload 6), none, some (.if_icmp .lt 60), none, none, some (.iload_n 2)],
  [some (.iload 7), none, some (.if_icmp .le 6), none, none, some (.goto 51), none, none, some (.aload_n 0), some (.iload_n 1), some (.iload 5), none, some (.invokevirtual 192), none, none, some (.istore 8)],
  [none, some (.iload 7), none, some (.iload 6), none, some (.if_icmp .ne 8), none, none, some (.iload 8), none, some (.goto 29), none, none, some (.iload 8), none, some (.iload 8)],
  [none, some (.aload_n 0), some (.iload_n 1), some (.iload 5), none, some (.iconst 1), some (.isub), some (.invokevirtual 192), none, none, some (.isub), some (.iload_n 2), some (.iload 6), none, some (.isub), some (.imul)],
  [some (.iload 7), none, some (.iload 6), none, some (.isub), some (.idiv), some (.isub), some (.ireturn), some (.iinc 5 (-1)), none, none, some (.goto (-93)), none, none, some (.iconst 0), some (.ireturn)]]
theorem q_code198_ok : q_dec prog_14_method_33_code q_code198 := f_chk_ok (B := [[42, 27, 3, 29, 182, 0, 198, 54, 4, 28, 21, 4, 164, 0, 25, 28],
  [21, 4, 100, 16, 10, 164, 0, 8, 16, 236, 167, 0, 10, 16, 254, 28],
  [21, 4, 100, 104, 172, 42, 27, 182, 0, 103, 4, 100, 54, 5, 21, 5],
  [158, 0, 94, 42, 27, 21, 5, 29, 182, 0, 198, 54, 6, 42, 27, 21],
  [5, 4, 100, 29, 182, 0, 198, 54, 7, 28, 21, 6, 161, 0, 60, 28],
  [21, 7, 164, 0, 6, 167, 0, 51, 42, 27, 21, 5, 182, 0, 192, 54],
  [8, 21, 7, 21, 6, 160, 0, 8, 21, 8, 167, 0, 29, 21, 8, 21],
  [8, 42, 27, 21, 5, 4, 100, 182, 0, 192, 100, 28, 21, 6, 100, 104],
  [21, 7, 21, 6, 100, 108, 100, 172, 132, 5, 255, 167, 255, 163, 3, 172]]) (by decide +kernel)
def q_code199 : List (List (Option Instr)) := [[some (.iconst 0), some (.istore 4), none, some (.iconst 0), some (.istore 5), none, some (.iload 5), none, some (.aload_n 0), some (.iload_n 1), some (.invokevirtual 103), none, none, some (.if_icmp .ge 60), none, none],
  [some (.iload 4), none, some (.aload_n 0), some (.getfield 9), none, none, some (.bipush 28), none, some (.iload_n 1), some (.imul), some (.bipush 11), none, some (.iadd), some (.iload 5), none, some (.iadd)],
  [some (.iaload), some (.iload_n 2), some (.if_icmp .ne 29), none, none, some (.aload_n 0), some (.aload_n 0), some (.iload_n 1), some (.iload 5), none, some (.invokevirtual 106), none, none, some (.iload_n 3), some (.aload_n 0), some (.aload_n 0)],
  [some (.iload_n 1), some (.iload 5), none, some (.invokevirtual 106), none, none, some (.invokevirtual 195), none, none, some (.invokevirtual 210), none, none, some (.goto 4), none, none, some (.iconst 0)],
  [some (.iadd), some (.istore 4), none, some (.iinc 5 1), none, none, some (.goto (-64)), none, none, some (.iload 4), none, some (.ireturn)]]
theorem q_code199_ok : q_dec prog_14_method_34_code q_code199 := f_chk_ok (B := [[3, 54, 4, 3, 54, 5, 21, 5, 42, 27, 182, 0, 103, 162, 0, 60],
  [21, 4, 42, 180, 0, 9, 16, 28, 27, 104, 16, 11, 96, 21, 5, 96],
  [46, 28, 160, 0, 29, 42, 42, 27, 21, 5, 182, 0, 106, 29, 42, 42],
  [27, 21, 5, 182, 0, 106, 182, 0, 195, 182, 0, 210, 167, 0, 4, 3],
  [96, 54, 4, 132, 5, 1, 167, 255, 192, 21, 4, 172]]) (by decide +kernel)
def q_code200 : List (List (Option Instr)) := [[some (.aload_n 0), some (.getfield 9), none, none, some (.bipush 28), none, some (.iload_n 1), some (.imul), some (.bipush 20), none, some (.iadd), some (.iload_n 2), some (.iadd), some (.iaload), some (.iconst 1), some (.if_icmp .ne 20)],
  [none, none, some (.aload_n 0), some (.getfield 53), none, none, some (.bipush 8), none, some (.iload_n 1), some (.imul), some (.iload_n 2), some (.iadd), some (.if_icmp .eq 7), none, none, some (.iconst 1)],
  [some (.goto 4), none, none, some (.iconst 0), some (.ireturn)]]
theorem q_code200_ok : q_dec prog_14_method_35_code q_code200 := f_chk_ok (B := [[42, 180, 0, 9, 16, 28, 27, 104, 16, 20, 96, 28, 96, 46, 4, 160],
  [0, 20, 42, 180, 0, 53, 16, 8, 27, 104, 28, 96, 159, 0, 7, 4],
  [167, 0, 4, 3, 172]]) (by decide +kernel)
def q_code201 : List (List (Option Instr)) := [[some (.aload_n 0), some (.iload_n 1), some (.invokevirtual 99), none, none, some (.ifCond .ne 15), none, none, some (.aload_n 0), some (.iload_n 1), some (.iload_n 2), some (.aload_n 0), some (.iload_n 1), some (.invokevirtual 195), none, none],
  [some (.invokevirtual 210), none, none, some (.ireturn), some (.iconst 0), some (.istore_n 3), some (.iconst 0), some (.istore 4), none, some (.iload 4), none, some (.aload_n 0), some (.getfield 9), none, none, some (.bipush 28)],
  [none, some (.iload_n 1), some (.imul), some (.bipush 19), none, some (.iadd), some (.iaload), some (.if_icmp .ge 44), none, none, some (.aload_n 0), some (.iload_n 1), some (.iload 4), none, some (.iload_n 2), some (.invokevirtual 213)],
  [none, none, some (.istore 5), none, some (.iload_n 3), some (.aload_n 0), some (.iload_n 1), some (.iload 4), none, some (.invokevirtual 216), none, none, some (.ifCond .eq 13), none, none, some (.iload 5)],
  [none, some (.iconst (-1)), some (.if_icmp .ge 7), none, none, some (.iconst (-1)), some (.goto 5), none, none, some (.iload 5), none, some (.iadd), some (.istore_n 3), some (.iinc 4 1), none, none],
  [some (.goto (-55)), none, none, some (.iload_n 3), some (.ireturn)]]
theorem q_code201_ok : q_dec prog_14_method_36_code q_code201 := f_chk_ok (B := [[42, 27, 182, 0, 99, 154, 0, 15, 42, 27, 28, 42, 27, 182, 0, 195],
  [182, 0, 210, 172, 3, 62, 3, 54, 4, 21, 4, 42, 180, 0, 9, 16],
  [28, 27, 104, 16, 19, 96, 46, 162, 0, 44, 42, 27, 21, 4, 28, 182],
  [0, 213, 54, 5, 29, 42, 27, 21, 4, 182, 0, 216, 153, 0, 13, 21],
  [5, 2, 162, 0, 7, 2, 167, 0, 5, 21, 5, 96, 62, 132, 4, 1],
  [167, 255, 201, 29, 172]]) (by decide +kernel)
def q_code202 : List (List (Option Instr)) := [[some (.aload_n 0), some (.iload_n 1), some (.invokevirtual 99), none, none, some (.iconst 3), some (.if_icmp .ne 15), none, none, some (.aload_n 0), some (.aload_n 0), some (.iload_n 1), some (.iconst 0), some (.invokevirtual 106), none, none],
  [some (.iload_n 2), some (.invokevirtual 220), none, none, some (.ireturn), some (.aload_n 0), some (.iload_n 1), some (.invokevirtual 99), none, none, some (.iconst 2), some (.if_icmp .ne 41), none, none, some (.iconst 0), some (.istore_n 3)],
  [some (.iconst 0), some (.istore 4), none, some (.iload 4), none, some (.aload_n 0), some (.iload_n 1), some (.invokevirtual 103), none, none, some (.if_icmp .ge 24), none, none, some (.iload_n 3), some (.aload_n 0), some (.aload_n 0)],
  [some (.iload_n 1), some (.iload 4), none, some (.invokevirtual 106), none, none, some (.iload_n 2), some (.invokevirtual 220), none, none, some (.iadd), some (.istore_n 3), some (.iinc 4 1), none, none, some (.goto (-28))],
  [none, none, some (.iload_n 3), some (.ireturn), some (.bipush 99), none, some (.istore_n 3), some (.iload_n 3), some (.ifCond .le 19), none, none, some (.aload_n 0), some (.iload_n 1), some (.iload_n 3), some (.invokevirtual 223), none],
  [none, some (.iload_n 2), some (.if_icmp .ge 9), none, none, some (.iinc 3 (-1)), none, none, some (.goto (-17)), none, none, some (.iload_n 3), some (.ireturn)]]
theorem q_code202_ok : q_dec prog_14_method_37_code q_code202 := f_chk_ok (B := [[42, 27, 182, 0, 99, 6, 160, 0, 15, 42, 42, 27, 3, 182, 0, 106],
  [28, 182, 0, 220, 172, 42, 27, 182, 0, 99, 5, 160, 0, 41, 3, 62],
  [3, 54, 4, 21, 4, 42, 27, 182, 0, 103, 162, 0, 24, 29, 42, 42],
  [27, 21, 4, 182, 0, 106, 28, 182, 0, 220, 96, 62, 132, 4, 1, 167],
  [255, 228, 29, 172, 16, 99, 62, 29, 158, 0, 19, 42, 27, 29, 182, 0],
  [223, 28, 162, 0, 9, 132, 3, 255, 167, 255, 239, 29, 172]]) (by decide +kernel)
def q_code203 : List (List (Option Instr)) := [[some (.iconst 0), some (.istore_n 2), some (.iload_n 2), some (.sipush 1000), none, none, some (.if_icmp .ge 16), none, none, some (.aload_n 0), some (.getfield 56), none, none, some (.iload_n 2), some (.iconst 0), some (.iastore)],
  [some (.iinc 2 1), none, none, some (.goto (-17)), none, none, some (.aload_n 0), some (.iload_n 1), some (.invokevirtual 226), none, none, some (.return_)]]
theorem q_code203_ok : q_dec prog_14_method_38_code q_code203 := f_chk_ok (B := [[3, 61, 28, 17, 3, 232, 162, 0, 16, 42, 180, 0, 56, 28, 3, 79],
  [132, 2, 1, 167, 255, 239, 42, 27, 182, 0, 226, 177]]) (by decide +kernel)
def q_code204 : List (List (Option Instr)) := [[some (.aload_n 0), some (.iload_n 1), some (.invokevirtual 99), none, none, some (.iconst 3), some (.if_icmp .eq 12), none, none, some (.aload_n 0), some (.iload_n 1), some (.invokevirtual 99), none, none, some (.iconst 2), some (.if_icmp .ne 31)],
  [none, none, some (.iconst 0), some (.istore_n 2), some (.iload_n 2), some (.aload_n 0), some (.iload_n 1), some (.invokevirtual 103), none, none, some (.if_icmp .ge 19), none, none, some (.aload_n 0), some (.aload_n 0), some (.iload_n 1)],
  [some (.iload_n 2), some (.invokevirtual 106), none, none, some (.invokevirtual 226), none, none, some (.iinc 2 1), none, none, some (.goto (-22)), none, none, some (.return_), some (.iconst 0), some (.istore_n 2)],
  [some (.iload_n 2), some (.bipush 100), none, some (.if_icmp .ge 21), none, none, some (.aload_n 0), some (.getfield 59), none, none, some (.iload_n 2), some (.aload_n 0), some (.iload_n 1), some (.iload_n 2), some (.invokevirtual 223), none],
  [none, some (.iastore), some (.iinc 2 1), none, none, some (.goto (-21)), none, none, some (.aload_n 0), some (.invokevirtual 229), none, none, some (.return_)]]
theorem q_code204_ok : q_dec prog_14_method_39_code q_code204 := f_chk_ok (B := [[42, 27, 182, 0, 99, 6, 159, 0, 12, 42, 27, 182, 0, 99, 5, 160],
  [0, 31, 3, 61, 28, 42, 27, 182, 0, 103, 162, 0, 19, 42, 42, 27],
  [28, 182, 0, 106, 182, 0, 226, 132, 2, 1, 167, 255, 234, 177, 3, 61],
  [28, 16, 100, 162, 0, 21, 42, 180, 0, 59, 28, 42, 27, 28, 182, 0],
  [223, 79, 132, 2, 1, 167, 255, 235, 42, 182, 0, 229, 177]]) (by decide +kernel)
def q_code205 : List (List (Option Instr)) := [[some (.bipush 99), none, some (.istore_n 1), some (.iconst 0), some (.istore_n 2), some (.iload_n 2), some (.sipush 1000), none, none, some (.if_icmp .ge 39), none, none, some (.iload_n 1), some (.ifCond .le 19), none, none],
  [some (.aload_n 0), some (.getfield 59), none, none, some (.iload_n 1), some (.iaload), some (.iload_n 2), some (.if_icmp .ge 9), none, none, some (.iinc 1 (-1)), none, none, some (.goto (-17)), none, none],
  [some (.aload_n 0), some (.getfield 56), none, none, some (.iload_n 2), some (.dup2), some (.iaload), some (.iload_n 1), some (.iadd), some (.iastore), some (.iinc 2 1), none, none, some (.goto (-40)), none, none],
  [some (.return_)]]
theorem q_code205_ok : q_dec prog_14_method_40_code q_code205 := f_chk_ok (B := [[16, 99, 60, 3, 61, 28, 17, 3, 232, 162, 0, 39, 27, 158, 0, 19],
  [42, 180, 0, 59, 27, 46, 28, 162, 0, 9, 132, 1, 255, 167, 255, 239],
  [42, 180, 0, 56, 28, 92, 46, 27, 96, 79, 132, 2, 1, 167, 255, 216],
  [177]]) (by decide +kernel)
def q_code206 : List (List (Option Instr)) := [[some (.aload_n 0), some (.aload_n 0), some (.iload_n 1), some (.invokevirtual 175), none, none, some (.ifCond .eq 19), none, none, some (.iload_n 2), some (.i2l), some (.lconst 0), some (.ldc2_w 232), none, none, some (.invokestatic 83)],
  [none, none, some (.ifCond .eq 7), none, none, some (.iconst 0), some (.goto 4), none, none, some (.iconst 1), some (.putfield 80), none, none, some (.aload_n 0), some (.getfield 80), none],
  [none, some (.iconst 1), some (.if_icmp .ne 5), none, none, some (.lconst 0), some (.lreturn), some (.aload_n 0), some (.iload_n 1), some (.invokevirtual 99), none, none, some (.iconst 3), some (.if_icmp .ne 12), none, none],
  [some (.aload_n 0), some (.iload_n 1), some (.iconst 0), some (.invokevirtual 106), none, none, some (.goto 4), none, none, some (.iload_n 1), some (.istore_n 3), some (.aload_n 0), some (.iload_n 3), some (.invokevirtual 99), none, none],
  [some (.iconst 2), some (.if_icmp .eq 11), none, none, some (.aload_n 0), some (.iload_n 3), some (.iload_n 2), some (.invokevirtual 223), none, none, some (.i2l), some (.lreturn), some (.aload_n 0), some (.iload_n 3), some (.invokevirtual 234), none],
  [none, some (.sipush 999), none, none, some (.istore 4), none, some (.iload 4), none, some (.ifCond .lt 20), none, none, some (.aload_n 0), some (.getfield 56), none, none, some (.iload 4)],
  [none, some (.iaload), some (.iload_n 2), some (.if_icmp .ge 9), none, none, some (.iinc 4 (-1)), none, none, some (.goto (-19)), none, none, some (.iload 4), none, some (.i2l), some (.lreturn)]]
theorem q_code206_ok : q_dec prog_14_method_41_code q_code206 := f_chk_ok (B := [[42, 42, 27, 182, 0, 175, 153, 0, 19, 28, 133, 9, 20, 0, 232, 184],
  [0, 83, 153, 0, 7, 3, 167, 0, 4, 4, 181, 0, 80, 42, 180, 0],
  [80, 4, 160, 0, 5, 9, 173, 42, 27, 182, 0, 99, 6, 160, 0, 12],
  [42, 27, 3, 182, 0, 106, 167, 0, 4, 27, 62, 42, 29, 182, 0, 99],
  [5, 159, 0, 11, 42, 29, 28, 182, 0, 223, 133, 173, 42, 29, 182, 0],
  [234, 17, 3, 231, 54, 4, 21, 4, 155, 0, 20, 42, 180, 0, 56, 21],
  [4, 46, 28, 162, 0, 9, 132, 4, 255, 167, 255, 237, 21, 4, 133, 173]]) (by decide +kernel)
def q_code207 : List (List (Option Instr)) := [[some (.aload_n 0), some (.iload_n 1), some (.invokevirtual 175), none, none, some (.ifCond .eq 26), none, none, some (.iload_n 2), some (.i2l), some (.ldc2_w 237), none, none, some (.ldc2_w 232), none, none],
  [some (.invokestatic 83), none, none, some (.ifCond .eq 12), none, none, some (.aload_n 0), some (.iload_n 1), some (.iload_n 2), some (.invokevirtual 220), none, none, some (.goto 4), none, none, some (.iconst (-1))],
  [some (.ireturn)]]
theorem q_code207_ok : q_dec prog_14_method_42_code q_code207 := f_chk_ok (B := [[42, 27, 182, 0, 175, 153, 0, 26, 28, 133, 20, 0, 237, 20, 0, 232],
  [184, 0, 83, 153, 0, 12, 42, 27, 28, 182, 0, 220, 167, 0, 4, 2],
  [172]]) (by decide +kernel)
def q_code208 : List (List (Option Instr)) := [[some (.iconst 0), some (.istore_n 1), some (.iconst 1), some (.istore_n 2), some (.iload_n 2), some (.sipush 500), none, none, some (.if_icmp .gt 30), none, none, some (.iload_n 2), some (.aload_n 0), some (.getfield 56), none, none],
  [some (.iload_n 2), some (.iaload), some (.imul), some (.iload_n 1), some (.aload_n 0), some (.getfield 56), none, none, some (.iload_n 1), some (.iaload), some (.imul), some (.if_icmp .le 5), none, none, some (.iload_n 2), some (.istore_n 1)],
  [some (.iinc 2 1), none, none, some (.goto (-31)), none, none, some (.iload_n 1), some (.ireturn)]]
theorem q_code208_ok : q_dec prog_14_method_43_code q_code208 := f_chk_ok (B := [[3, 60, 4, 61, 28, 17, 1, 244, 163, 0, 30, 28, 42, 180, 0, 56],
  [28, 46, 104, 27, 42, 180, 0, 56, 27, 46, 104, 164, 0, 5, 28, 60],
  [132, 2, 1, 167, 255, 225, 27, 172]]) (by decide +kernel)
def q_code209 : List (List (Option Instr)) := [[some (.aload_n 0), some (.iload_n 1), some (.invokevirtual 234), none, none, some (.aload_n 0), some (.invokevirtual 239), none, none, some (.istore_n 2), some (.iload_n 2), some (.aload_n 0), some (.getfield 56), none, none, some (.iload_n 2)],
  [some (.iaload), some (.imul), some (.ireturn)]]
theorem q_code209_ok : q_dec prog_14_method_44_code q_code209 := f_chk_ok (B := [[42, 27, 182, 0, 234, 42, 182, 0, 239, 61, 28, 42, 180, 0, 56, 28],
  [46, 104, 172]]) (by decide +kernel)
def q_code210 : List (List (Option Instr)) := [[some (.aload_n 0), some (.iload_n 1), some (.invokevirtual 175), none, none, some (.ifCond .eq 15), none, none, some (.iload_n 2), some (.i2l), some (.lconst 0), some (.ldc2_w 242), none, none, some (.invokestatic 83), none],
  [none, some (.ifCond .ne 5), none, none, some (.iconst (-1)), some (.ireturn), some (.aload_n 0), some (.iload_n 1), some (.invokevirtual 234), none, none, some (.aload_n 0), some (.invokevirtual 239), none, none, some (.istore_n 3)],
  [some (.iload_n 2), some (.ifCond .ne 14), none, none, some (.iload_n 3), some (.aload_n 0), some (.getfield 56), none, none, some (.iload_n 3), some (.iaload), some (.imul), some (.goto 18), none, none, some (.iload_n 2)],
  [some (.iconst 1), some (.if_icmp .ne 7), none, none, some (.iload_n 3), some (.goto 9), none, none, some (.aload_n 0), some (.getfield 56), none, none, some (.iload_n 3), some (.iaload), some (.ireturn)]]
theorem q_code210_ok : q_dec prog_14_method_45_code q_code210 := f_chk_ok (B := [[42, 27, 182, 0, 175, 153, 0, 15, 28, 133, 9, 20, 0, 242, 184, 0],
  [83, 154, 0, 5, 2, 172, 42, 27, 182, 0, 234, 42, 182, 0, 239, 62],
  [28, 154, 0, 14, 29, 42, 180, 0, 56, 29, 46, 104, 167, 0, 18, 28],
  [4, 160, 0, 7, 29, 167, 0, 9, 42, 180, 0, 56, 29, 46, 172]]) (by decide +kernel)
def q_code211 : List (List (Option Instr)) := [[some (.iload_n 1), some (.sipush 500), none, none, some (.if_icmp .le 7), none, none, some (.iconst 0), some (.goto 11), none, none, some (.iload_n 1), some (.aload_n 0), some (.getfield 56), none, none],
  [some (.iload_n 1), some (.iaload), some (.imul), some (.ireturn)]]
theorem q_code211_ok : q_dec prog_14_method_46_code q_code211 := f_chk_ok (B := [[27, 17, 1, 244, 164, 0, 7, 3, 167, 0, 11, 27, 42, 180, 0, 56],
  [27, 46, 104, 172]]) (by decide +kernel)
def q_code212 : List (List (Option Instr)) := [[some (.aload_n 0), some (.iload_n 1), some (.invokevirtual 175), none, none, some (.ifCond .eq 8), none, none, some (.iload_n 2), some (.iconst (-1)), some (.if_icmp .ge 5), none, none, some (.iconst (-1)), some (.ireturn), some (.aload_n 0)],
  [some (.iload_n 1), some (.invokevirtual 234), none, none, some (.iconst 0), some (.istore_n 3), some (.iconst 1), some (.istore 4), none, some (.iload 4), none, some (.sipush 500), none, none, some (.if_icmp .ge 93), none],
  [none, some (.aload_n 0), some (.iload 4), none, some (.invokevirtual 244), none, none, some (.aload_n 0), some (.iload 4), none, some (.iconst 1), some (.isub), some (.invokevirtual 244), none, none, some (.if_icmp .gt 6)],
  [none, none, some (.goto 67), none, none, some (.iload 4), none, some (.iconst 1), some (.iadd), some (.istore 5), none, some (.iload 5), none, some (.sipush 500), none, none],
  [some (.if_icmp .gt 24), none, none, some (.aload_n 0), some (.iload 5), none, some (.invokevirtual 244), none, none, some (.aload_n 0), some (.iload 4), none, some (.invokevirtual 244), none, none, some (.if_icmp .ne 9)],
  [none, none, some (.iinc 5 1), none, none, some (.goto (-26)), none, none, some (.aload_n 0), some (.iload 5), none, some (.invokevirtual 244), none, none, some (.aload_n 0), some (.iload 4)],
  [none, some (.invokevirtual 244), none, none, some (.if_icmp .lt 6), none, none, some (.goto 14), none, none, some (.iload_n 3), some (.iload_n 2), some (.if_icmp .ne 6), none, none, some (.iload 4)],
  [none, some (.ireturn), some (.iinc 3 1), none, none, some (.iinc 4 1), none, none, some (.goto (-95)), none, none, some (.iload_n 2), some (.iconst (-1)), some (.if_icmp .ne 7), none, none],
  [some (.iload_n 3), some (.goto 5), none, none, some (.bipush (-4)), none, some (.ireturn)]]
theorem q_code212_ok : q_dec prog_14_method_47_code q_code212 := f_chk_ok (B := [[42, 27, 182, 0, 175, 153, 0, 8, 28, 2, 162, 0, 5, 2, 172, 42],
  [27, 182, 0, 234, 3, 62, 4, 54, 4, 21, 4, 17, 1, 244, 162, 0],
  [93, 42, 21, 4, 182, 0, 244, 42, 21, 4, 4, 100, 182, 0, 244, 163],
  [0, 6, 167, 0, 67, 21, 4, 4, 96, 54, 5, 21, 5, 17, 1, 244],
  [163, 0, 24, 42, 21, 5, 182, 0, 244, 42, 21, 4, 182, 0, 244, 160],
  [0, 9, 132, 5, 1, 167, 255, 230, 42, 21, 5, 182, 0, 244, 42, 21],
  [4, 182, 0, 244, 161, 0, 6, 167, 0, 14, 29, 28, 160, 0, 6, 21],
  [4, 172, 132, 3, 1, 132, 4, 1, 167, 255, 161, 28, 2, 160, 0, 7],
  [29, 167, 0, 5, 16, 252, 172]]) (by decide +kernel)
def q_code213 : List (List (Option Instr)) := [[some (.aload_n 0), some (.iload_n 1), some (.invokevirtual 175), none, none, some (.ifCond .eq 27), none, none, some (.iload_n 2), some (.i2l), some (.lconst 0), some (.ldc2_w 247), none, none, some (.invokestatic 83), none],
  [none, some (.ifCond .eq 15), none, none, some (.iload_n 3), some (.i2l), some (.lconst 0), some (.ldc2_w 242), none, none, some (.invokestatic 83), none, none, some (.ifCond .ne 5), none, none],
  [some (.iconst (-1)), some (.ireturn), some (.aload_n 0), some (.iload_n 1), some (.invokevirtual 99), none, none, some (.iconst 1), some (.if_icmp .eq 6), none, none, some (.bipush (-3)), none, some (.ireturn), some (.iconst (-1)), some (.istore 4)],
  [none, some (.iconst 0), some (.istore 5), none, some (.iconst 0), some (.istore 6), none, some (.iconst 0), some (.istore 7), none, some (.iload 7), none, some (.aload_n 0), some (.iload_n 1), some (.invokevirtual 103), none],
  [none, some (.if_icmp .ge 83), none, none, some (.aload_n 0), some (.iload_n 1), some (.iload 7), none, some (.invokevirtual 106), none, none, some (.istore 8), none, some (.aload_n 0), some (.iload 8), none],
  [some (.iload_n 2), some (.aload_n 0), some (.iload 8), none, some (.invokevirtual 195), none, none, some (.invokevirtual 210), none, none, some (.istore 9), none, some (.iload 6), none, some (.iload_n 2), some (.aload_n 0)],
  [some (.iload 8), none, some (.iconst 0), some (.aload_n 0), some (.iload 8), none, some (.invokevirtual 195), none, none, some (.invokevirtual 198), none, none, some (.if_icmp .le 7), none, none, some (.iconst 1)],
  [some (.goto 4), none, none, some (.iconst 0), some (.iadd), some (.istore 6), none, some (.iload 4), none, some (.ifCond .lt 13), none, none, some (.iload 9), none, some (.iload 5), none],
  [some (.if_icmp .lt 6), none, none, some (.goto 11), none, none, some (.iload 8), none, some (.istore 4), none, some (.iload 9), none, some (.istore 5), none, some (.iinc 7 1), none],
  [none, some (.goto (-87)), none, none, some (.iconst 0), some (.istore 7), none, some (.iconst 0), some (.istore 8), none, some (.iload 8), none, some (.aload_n 0), some (.getfield 9), none, none],
  [some (.bipush 28), none, some (.iload_n 1), some (.imul), some (.bipush 19), none, some (.iadd), some (.iaload), some (.if_icmp .ge 41), none, none, some (.iload 7), none, some (.aload_n 0), some (.iload_n 1), some (.iload 8)],
  [none, some (.invokevirtual 216), none, none, some (.ifCond .eq 19), none, none, some (.aload_n 0), some (.iload_n 1), some (.iload 8), none, some (.iload_n 2), some (.invokevirtual 213), none, none, some (.iconst (-1))],
  [some (.if_icmp .ge 7), none, none, some (.iconst 1), some (.goto 4), none, none, some (.iconst 0), some (.iadd), some (.istore 7), none, some (.iinc 8 1), none, none, some (.goto (-52)), none],
  [none, some (.iload_n 3), some (.ifCond .ne 8), none, none, some (.iload 4), none, some (.goto 15), none, none, some (.iload_n 3), some (.iconst 1), some (.if_icmp .ne 8), none, none, some (.iload 7)],
  [none, some (.goto 5), none, none, some (.iload 6), none, some (.ireturn)]]
theorem q_code213_ok : q_dec prog_14_method_48_code q_code213 := f_chk_ok (B := [[42, 27, 182, 0, 175, 153, 0, 27, 28, 133, 9, 20, 0, 247, 184, 0],
  [83, 153, 0, 15, 29, 133, 9, 20, 0, 242, 184, 0, 83, 154, 0, 5],
  [2, 172, 42, 27, 182, 0, 99, 4, 159, 0, 6, 16, 253, 172, 2, 54],
  [4, 3, 54, 5, 3, 54, 6, 3, 54, 7, 21, 7, 42, 27, 182, 0],
  [103, 162, 0, 83, 42, 27, 21, 7, 182, 0, 106, 54, 8, 42, 21, 8],
  [28, 42, 21, 8, 182, 0, 195, 182, 0, 210, 54, 9, 21, 6, 28, 42],
  [21, 8, 3, 42, 21, 8, 182, 0, 195, 182, 0, 198, 164, 0, 7, 4],
  [167, 0, 4, 3, 96, 54, 6, 21, 4, 155, 0, 13, 21, 9, 21, 5],
  [161, 0, 6, 167, 0, 11, 21, 8, 54, 4, 21, 9, 54, 5, 132, 7],
  [1, 167, 255, 169, 3, 54, 7, 3, 54, 8, 21, 8, 42, 180, 0, 9],
  [16, 28, 27, 104, 16, 19, 96, 46, 162, 0, 41, 21, 7, 42, 27, 21],
  [8, 182, 0, 216, 153, 0, 19, 42, 27, 21, 8, 28, 182, 0, 213, 2],
  [162, 0, 7, 4, 167, 0, 4, 3, 96, 54, 7, 132, 8, 1, 167, 255],
  [204, 29, 154, 0, 8, 21, 4, 167, 0, 15, 29, 4, 160, 0, 8, 21],
  [7, 167, 0, 5, 21, 6, 172]]) (by decide +kernel)
def q_code214 : List (List (Option Instr)) := [[some (.aload_n 0), some (.iload_n 1), some (.invokevirtual 175), none, none, some (.ifCond .eq 36), none, none, some (.iload_n 2), some (.i2l), some (.lconst 0), some (.lconst 1), some (.invokestatic 83), none, none, some (.ifCond .eq 26)],
  [none, none, some (.iload_n 3), some (.i2l), some (.iload_n 2), some (.i2l), some (.iload_n 2), some (.ifCond .ne 9), none, none, some (.ldc2_w 249), none, none, some (.goto 6), none, none],
  [some (.ldc2_w 206), none, none, some (.invokestatic 83), none, none, some (.ifCond .ne 5), none, none, some (.iconst (-1)), some (.ireturn), some (.aload_n 0), some (.iload_n 1), some (.invokevirtual 99), none, none],
  [some (.iconst 3), some (.if_icmp .eq 6), none, none, some (.bipush (-3)), none, some (.ireturn), some (.bipush 28), none, some (.iload_n 1), some (.imul), some (.iconst 4), some (.iadd), some (.istore 4), none, some (.aload_n 0)],
  [some (.getfield 9), none, none, some (.iload 4), none, some (.iload_n 2), some (.iadd), some (.iaload), some (.istore 5), none, some (.aload_n 0), some (.getfield 9), none, none, some (.iload 4), none],
  [some (.iload_n 2), some (.iadd), some (.iload_n 3), some (.iastore), some (.aload_n 0), some (.getfield 9), none, none, some (.iload 4), none, some (.iconst 2), some (.iadd), some (.iconst 1), some (.iastore), some (.aload_n 0), some (.getfield 9)],
  [none, none, some (.iload 4), none, some (.iconst 3), some (.iadd), some (.iconst 0), some (.iastore), some (.iload 5), none, some (.ireturn)]]
theorem q_code214_ok : q_dec prog_14_method_49_code q_code214 := f_chk_ok (B := [[42, 27, 182, 0, 175, 153, 0, 36, 28, 133, 9, 10, 184, 0, 83, 153],
  [0, 26, 29, 133, 28, 133, 28, 154, 0, 9, 20, 0, 249, 167, 0, 6],
  [20, 0, 206, 184, 0, 83, 154, 0, 5, 2, 172, 42, 27, 182, 0, 99],
  [6, 159, 0, 6, 16, 253, 172, 16, 28, 27, 104, 7, 96, 54, 4, 42],
  [180, 0, 9, 21, 4, 28, 96, 46, 54, 5, 42, 180, 0, 9, 21, 4],
  [28, 96, 29, 79, 42, 180, 0, 9, 21, 4, 5, 96, 4, 79, 42, 180],
  [0, 9, 21, 4, 6, 96, 3, 79, 21, 5, 172]]) (by decide +kernel)
def q_code215 : List (List (Option Instr)) := [[some (.aload_n 0), some (.aload_n 0), some (.getfield 251), none, none, some (.invokevirtual 244), none, none, some (.istore_n 2), some (.aload_n 0), some (.getfield 254), none, none, some (.ifCond .eq 20), none, none],
  [some (.iload_n 2), some (.aload_n 0), some (.getfield 258), none, none, some (.if_icmp .ge 12), none, none, some (.aload_n 0), some (.aload_n 0), some (.getfield 261), none, none, some (.ineg), some (.putfield 261), none],
  [none, some (.aload_n 0), some (.iconst 1), some (.putfield 254), none, none, some (.aload_n 0), some (.iload_n 2), some (.putfield 258), none, none, some (.aload_n 0), some (.dup), some (.getfield 251), none, none],
  [some (.iload_n 1), some (.aload_n 0), some (.getfield 261), none, none, some (.imul), some (.iadd), some (.putfield 251), none, none, some (.aload_n 0), some (.getfield 251), none, none, some (.ifCond .lt 14), none],
  [none, some (.aload_n 0), some (.getfield 251), none, none, some (.sipush 500), none, none, some (.if_icmp .gt 4), none, none, some (.return_), some (.aload_n 0), some (.aload_n 0), some (.getfield 251), none],
  [none, some (.ifCond .ge 7), none, none, some (.iconst 0), some (.goto 6), none, none, some (.sipush 500), none, none, some (.putfield 251), none, none, some (.aload_n 0), some (.aload_n 0)],
  [some (.getfield 261), none, none, some (.ineg), some (.putfield 261), none, none, some (.return_)]]
theorem q_code215_ok : q_dec prog_14_method_50_code q_code215 := f_chk_ok (B := [[42, 42, 180, 0, 251, 182, 0, 244, 61, 42, 180, 0, 254, 153, 0, 20],
  [28, 42, 180, 1, 2, 162, 0, 12, 42, 42, 180, 1, 5, 116, 181, 1],
  [5, 42, 4, 181, 0, 254, 42, 28, 181, 1, 2, 42, 89, 180, 0, 251],
  [27, 42, 180, 1, 5, 104, 96, 181, 0, 251, 42, 180, 0, 251, 155, 0],
  [14, 42, 180, 0, 251, 17, 1, 244, 163, 0, 4, 177, 42, 42, 180, 0],
  [251, 156, 0, 7, 3, 167, 0, 6, 17, 1, 244, 181, 0, 251, 42, 42],
  [180, 1, 5, 116, 181, 1, 5, 177]]) (by decide +kernel)
def q_code216 : List (List (Option Instr)) := [[some (.aload_n 0), some (.iload_n 1), some (.invokevirtual 175), none, none, some (.ifCond .eq 15), none, none, some (.iload_n 2), some (.i2l), some (.lconst 1), some (.ldc2_w 204), none, none, some (.invokestatic 83), none],
  [none, some (.ifCond .ne 5), none, none, some (.iconst (-1)), some (.ireturn), some (.aload_n 0), some (.iload_n 1), some (.invokevirtual 99), none, none, some (.iconst 3), some (.if_icmp .eq 6), none, none, some (.bipush (-3))],
  [none, some (.ireturn), some (.bipush 28), none, some (.iload_n 1), some (.imul), some (.iconst 4), some (.iadd), some (.istore_n 3), some (.aload_n 0), some (.iload_n 1), some (.invokevirtual 234), none, none, some (.aload_n 0), some (.aload_n 0)],
  [some (.getfield 9), none, none, some (.iload_n 3), some (.iaload), some (.putfield 251), none, none, some (.aload_n 0), some (.aload_n 0), some (.getfield 9), none, none, some (.iload_n 3), some (.iconst 2), some (.iadd)],
  [some (.iaload), some (.putfield 261), none, none, some (.aload_n 0), some (.aload_n 0), some (.getfield 9), none, none, some (.iload_n 3), some (.iconst 3), some (.iadd), some (.iaload), some (.iconst 1), some (.if_icmp .ne 7), none],
  [none, some (.iconst 1), some (.goto 4), none, none, some (.iconst 0), some (.putfield 254), none, none, some (.aload_n 0), some (.aload_n 0), some (.getfield 9), none, none, some (.iload_n 3), some (.iconst 4)],
  [some (.iadd), some (.iaload), some (.putfield 258), none, none, some (.iconst 0), some (.istore 4), none, some (.iload 4), none, some (.iload_n 2), some (.if_icmp .ge 21), none, none, some (.aload_n 0), some (.aload_n 0)],
  [some (.getfield 9), none, none, some (.iload_n 3), some (.iconst 1), some (.iadd), some (.iaload), some (.invokevirtual 264), none, none, some (.iinc 4 1), none, none, some (.goto (-21)), none, none],
  [some (.aload_n 0), some (.getfield 9), none, none, some (.iload_n 3), some (.aload_n 0), some (.getfield 251), none, none, some (.iastore), some (.aload_n 0), some (.getfield 9), none, none, some (.iload_n 3), some (.iconst 2)],
  [some (.iadd), some (.aload_n 0), some (.getfield 261), none, none, some (.iastore), some (.aload_n 0), some (.getfield 9), none, none, some (.iload_n 3), some (.iconst 3), some (.iadd), some (.iconst 1), some (.iastore), some (.aload_n 0)],
  [some (.getfield 9), none, none, some (.iload_n 3), some (.iconst 4), some (.iadd), some (.aload_n 0), some (.getfield 258), none, none, some (.iastore), some (.aload_n 0), some (.getfield 251), none, none, some (.ireturn)]]
theorem q_code216_ok : q_dec prog_14_method_51_code q_code216 := f_chk_ok (B := [[42, 27, 182, 0, 175, 153, 0, 15, 28, 133, 10, 20, 0, 204, 184, 0],
  [83, 154, 0, 5, 2, 172, 42, 27, 182, 0, 99, 6, 159, 0, 6, 16],
  [253, 172, 16, 28, 27, 104, 7, 96, 62, 42, 27, 182, 0, 234, 42, 42],
  [180, 0, 9, 29, 46, 181, 0, 251, 42, 42, 180, 0, 9, 29, 5, 96],
  [46, 181, 1, 5, 42, 42, 180, 0, 9, 29, 6, 96, 46, 4, 160, 0],
  [7, 4, 167, 0, 4, 3, 181, 0, 254, 42, 42, 180, 0, 9, 29, 7],
  [96, 46, 181, 1, 2, 3, 54, 4, 21, 4, 28, 162, 0, 21, 42, 42],
  [180, 0, 9, 29, 4, 96, 46, 182, 1, 8, 132, 4, 1, 167, 255, 235],
  [42, 180, 0, 9, 29, 42, 180, 0, 251, 79, 42, 180, 0, 9, 29, 5],
  [96, 42, 180, 1, 5, 79, 42, 180, 0, 9, 29, 6, 96, 4, 79, 42],
  [180, 0, 9, 29, 7, 96, 42, 180, 1, 2, 79, 42, 180, 0, 251, 172]]) (by decide +kernel)
def q_code217 : List (List (Option Instr)) := [[some (.aload_n 0), some (.iload_n 1), some (.invokevirtual 175), none, none, some (.ifCond .eq 27), none, none, some (.iload_n 2), some (.i2l), some (.lconst 0), some (.ldc2_w 249), none, none, some (.invokestatic 83), none],
  [none, some (.ifCond .eq 15), none, none, some (.iload_n 3), some (.i2l), some (.lconst 0), some (.ldc2_w 267), none, none, some (.invokestatic 83), none, none, some (.ifCond .ne 5), none, none],
  [some (.iconst (-1)), some (.ireturn), some (.aload_n 0), some (.iload_n 1), some (.invokevirtual 99), none, none, some (.iconst 3), some (.if_icmp .eq 6), none, none, some (.bipush (-3)), none, some (.ireturn), some (.aload_n 0), some (.iload_n 1)],
  [some (.invokevirtual 234), none, none, some (.aload_n 0), some (.getfield 9), none, none, some (.bipush 28), none, some (.iload_n 1), some (.imul), some (.iconst 5), some (.iadd), some (.iaload), some (.istore 4), none],
  [some (.aload_n 0), some (.invokevirtual 239), none, none, some (.istore 5), none, some (.aload_n 0), some (.iload_n 2), some (.putfield 251), none, none, some (.aload_n 0), some (.iconst 1), some (.putfield 261), none, none],
  [some (.aload_n 0), some (.iconst 0), some (.putfield 254), none, none, some (.iconst 0), some (.istore 6), none, some (.iload 6), none, some (.iload_n 3), some (.if_icmp .gt 42), none, none, some (.aload_n 0), some (.getfield 251)],
  [none, none, some (.iload 5), none, some (.isub), some (.iload 4), none, some (.if_icmp .gt 18), none, none, some (.iload 5), none, some (.aload_n 0), some (.getfield 251), none, none],
  [some (.isub), some (.iload 4), none, some (.if_icmp .gt 6), none, none, some (.iload 6), none, some (.ireturn), some (.aload_n 0), some (.iload 4), none, some (.invokevirtual 264), none, none, some (.iinc 6 1)],
  [none, none, some (.goto (-42)), none, none, some (.bipush (-4)), none, some (.ireturn)]]
theorem q_code217_ok : q_dec prog_14_method_52_code q_code217 := f_chk_ok (B := [[42, 27, 182, 0, 175, 153, 0, 27, 28, 133, 9, 20, 0, 249, 184, 0],
  [83, 153, 0, 15, 29, 133, 9, 20, 1, 11, 184, 0, 83, 154, 0, 5],
  [2, 172, 42, 27, 182, 0, 99, 6, 159, 0, 6, 16, 253, 172, 42, 27],
  [182, 0, 234, 42, 180, 0, 9, 16, 28, 27, 104, 8, 96, 46, 54, 4],
  [42, 182, 0, 239, 54, 5, 42, 28, 181, 0, 251, 42, 4, 181, 1, 5],
  [42, 3, 181, 0, 254, 3, 54, 6, 21, 6, 29, 163, 0, 42, 42, 180],
  [0, 251, 21, 5, 100, 21, 4, 163, 0, 18, 21, 5, 42, 180, 0, 251],
  [100, 21, 4, 163, 0, 6, 21, 6, 172, 42, 21, 4, 182, 1, 8, 132],
  [6, 1, 167, 255, 214, 16, 252, 172]]) (by decide +kernel)
def q_code218 : List (List (Option Instr)) := [[some (.iload_n 0), some (.ifCond .lt 25), none, none, some (.iload_n 0), some (.bipush 100), none, some (.idiv), some (.bipush 20), none, some (.if_icmp .ge 16), none, none, some (.iload_n 0), some (.bipush 100), none],
  [some (.irem), some (.bipush 12), none, some (.if_icmp .ge 7), none, none, some (.iconst 1), some (.goto 4), none, none, some (.iconst 0), some (.ireturn)]]
theorem q_code218_ok : q_dec prog_14_method_53_code q_code218 := f_chk_ok (B := [[26, 155, 0, 25, 26, 16, 100, 108, 16, 20, 162, 0, 16, 26, 16, 100],
  [112, 16, 12, 162, 0, 7, 4, 167, 0, 4, 3, 172]]) (by decide +kernel)
def q_code219 : List (List (Option Instr)) := [[some (.aload_n 0), some (.iload_n 1), some (.invokevirtual 175), none, none, some (.ifCond .eq 39), none, none, some (.iload_n 2), some (.invokestatic 269), none, none, some (.ifCond .eq 32), none, none, some (.iload_n 3)],
  [some (.invokestatic 269), none, none, some (.ifCond .eq 25), none, none, some (.iload_n 2), some (.bipush 100), none, some (.idiv), some (.iload_n 3), some (.bipush 100), none, some (.idiv), some (.if_icmp .gt 14), none],
  [none, some (.iload_n 2), some (.bipush 100), none, some (.irem), some (.iload_n 3), some (.bipush 100), none, some (.irem), some (.if_icmp .le 5), none, none, some (.iconst (-1)), some (.ireturn), some (.aload_n 0), some (.iload_n 1)],
  [some (.invokevirtual 99), none, none, some (.ifCond .eq 6), none, none, some (.bipush (-3)), none, some (.ireturn), some (.bipush 28), none, some (.iload_n 1), some (.imul), some (.bipush 20), none, some (.iadd)],
  [some (.istore 4), none, some (.aload_n 0), some (.getfield 9), none, none, some (.iload 4), none, some (.iconst 1), some (.iastore), some (.aload_n 0), some (.getfield 9), none, none, some (.iload 4), none],
  [some (.iconst 1), some (.iadd), some (.iload_n 2), some (.bipush 100), none, some (.idiv), some (.iastore), some (.aload_n 0), some (.getfield 9), none, none, some (.iload 4), none, some (.iconst 2), some (.iadd), some (.iload_n 2)],
  [some (.bipush 100), none, some (.irem), some (.iastore), some (.aload_n 0), some (.getfield 9), none, none, some (.iload 4), none, some (.iconst 3), some (.iadd), some (.iload_n 3), some (.bipush 100), none, some (.idiv)],
  [some (.iastore), some (.aload_n 0), some (.getfield 9), none, none, some (.iload 4), none, some (.iconst 4), some (.iadd), some (.iload_n 3), some (.bipush 100), none, some (.irem), some (.iastore), some (.aload_n 0), some (.getfield 9)],
  [none, none, some (.iload 4), none, some (.iconst 3), some (.iadd), some (.iaload), some (.aload_n 0), some (.getfield 9), none, none, some (.iload 4), none, some (.iconst 1), some (.iadd), some (.iaload)],
  [some (.isub), some (.iconst 1), some (.iadd), some (.aload_n 0), some (.getfield 9), none, none, some (.iload 4), none, some (.iconst 4), some (.iadd), some (.iaload), some (.aload_n 0), some (.getfield 9), none, none],
  [some (.iload 4), none, some (.iconst 2), some (.iadd), some (.iaload), some (.isub), some (.iconst 1), some (.iadd), some (.imul), some (.ireturn)]]
theorem q_code219_ok : q_dec prog_14_method_54_code q_code219 := f_chk_ok (B := [[42, 27, 182, 0, 175, 153, 0, 39, 28, 184, 1, 13, 153, 0, 32, 29],
  [184, 1, 13, 153, 0, 25, 28, 16, 100, 108, 29, 16, 100, 108, 163, 0],
  [14, 28, 16, 100, 112, 29, 16, 100, 112, 164, 0, 5, 2, 172, 42, 27],
  [182, 0, 99, 153, 0, 6, 16, 253, 172, 16, 28, 27, 104, 16, 20, 96],
  [54, 4, 42, 180, 0, 9, 21, 4, 4, 79, 42, 180, 0, 9, 21, 4],
  [4, 96, 28, 16, 100, 108, 79, 42, 180, 0, 9, 21, 4, 5, 96, 28],
  [16, 100, 112, 79, 42, 180, 0, 9, 21, 4, 6, 96, 29, 16, 100, 108],
  [79, 42, 180, 0, 9, 21, 4, 7, 96, 29, 16, 100, 112, 79, 42, 180],
  [0, 9, 21, 4, 6, 96, 46, 42, 180, 0, 9, 21, 4, 4, 96, 46],
  [100, 4, 96, 42, 180, 0, 9, 21, 4, 7, 96, 46, 42, 180, 0, 9],
  [21, 4, 5, 96, 46, 100, 4, 96, 104, 172]]) (by decide +kernel)
def q_code220 : List (List (Option Instr)) := [[some (.iload_n 1), some (.i2l), some (.lconst 0), some (.ldc2_w 272), none, none, some (.invokestatic 83), none, none, some (.ifCond .eq 40), none, none, some (.iload_n 2), some (.i2l), some (.lconst 0), some (.ldc2_w 274)],
  [none, none, some (.invokestatic 83), none, none, some (.ifCond .eq 28), none, none, some (.iload_n 3), some (.i2l), some (.lconst 0), some (.ldc2_w 276), none, none, some (.invokestatic 83), none],
  [none, some (.ifCond .eq 16), none, none, some (.iload 4), none, some (.i2l), some (.lconst 0), some (.ldc2_w 278), none, none, some (.invokestatic 83), none, none, some (.ifCond .ne 5), none],
  [none, some (.iconst (-1)), some (.ireturn), some (.aload_n 0), some (.getfield 9), none, none, some (.sipush 1120), none, none, some (.iconst 3), some (.iload_n 1), some (.imul), some (.iadd), some (.iconst 2), some (.iadd)],
  [some (.iaload), some (.istore 5), none, some (.aload_n 0), some (.getfield 9), none, none, some (.sipush 1120), none, none, some (.iconst 3), some (.iload_n 1), some (.imul), some (.iadd), some (.iload_n 2), some (.iastore)],
  [some (.aload_n 0), some (.getfield 9), none, none, some (.sipush 1120), none, none, some (.iconst 3), some (.iload_n 1), some (.imul), some (.iadd), some (.iconst 1), some (.iadd), some (.iload_n 3), some (.iastore), some (.aload_n 0)],
  [some (.getfield 9), none, none, some (.sipush 1120), none, none, some (.iconst 3), some (.iload_n 1), some (.imul), some (.iadd), some (.iconst 2), some (.iadd), some (.iload 4), none, some (.iastore), some (.iload 5)],
  [none, some (.ireturn)]]
theorem q_code220_ok : q_dec prog_14_method_55_code q_code220 := f_chk_ok (B := [[27, 133, 9, 20, 1, 16, 184, 0, 83, 153, 0, 40, 28, 133, 9, 20],
  [1, 18, 184, 0, 83, 153, 0, 28, 29, 133, 9, 20, 1, 20, 184, 0],
  [83, 153, 0, 16, 21, 4, 133, 9, 20, 1, 22, 184, 0, 83, 154, 0],
  [5, 2, 172, 42, 180, 0, 9, 17, 4, 96, 6, 27, 104, 96, 5, 96],
  [46, 54, 5, 42, 180, 0, 9, 17, 4, 96, 6, 27, 104, 96, 28, 79],
  [42, 180, 0, 9, 17, 4, 96, 6, 27, 104, 96, 4, 96, 29, 79, 42],
  [180, 0, 9, 17, 4, 96, 6, 27, 104, 96, 5, 96, 21, 4, 79, 21],
  [5, 172]]) (by decide +kernel)
def q_code221 : List (List (Option Instr)) := [[some (.iload_n 1), some (.i2l), some (.lconst 0), some (.ldc2_w 276), none, none, some (.invokestatic 83), none, none, some (.ifCond .eq 27), none, none, some (.iload_n 2), some (.i2l), some (.lconst 0), some (.ldc2_w 87)],
  [none, none, some (.invokestatic 83), none, none, some (.ifCond .eq 15), none, none, some (.iload_n 3), some (.i2l), some (.lconst 0), some (.ldc2_w 278), none, none, some (.invokestatic 83), none],
  [none, some (.ifCond .ne 5), none, none, some (.iconst (-1)), some (.ireturn), some (.bipush 100), none, some (.aload_n 0), some (.getfield 9), none, none, some (.sipush 1150), none, none, some (.iconst 2)],
  [some (.iload_n 1), some (.imul), some (.iadd), some (.iaload), some (.imul), some (.aload_n 0), some (.getfield 9), none, none, some (.sipush 1150), none, none, some (.iconst 2), some (.iload_n 1), some (.imul), some (.iadd)],
  [some (.iconst 1), some (.iadd), some (.iaload), some (.iadd), some (.istore 4), none, some (.aload_n 0), some (.getfield 9), none, none, some (.sipush 1150), none, none, some (.iconst 2), some (.iload_n 1), some (.imul)],
  [some (.iadd), some (.iload_n 2), some (.iastore), some (.aload_n 0), some (.getfield 9), none, none, some (.sipush 1150), none, none, some (.iconst 2), some (.iload_n 1), some (.imul), some (.iadd), some (.iconst 1), some (.iadd)],
  [some (.iload_n 3), some (.iastore), some (.iload 4), none, some (.ireturn)]]
theorem q_code221_ok : q_dec prog_14_method_56_code q_code221 := f_chk_ok (B := [[27, 133, 9, 20, 1, 20, 184, 0, 83, 153, 0, 27, 28, 133, 9, 20],
  [0, 87, 184, 0, 83, 153, 0, 15, 29, 133, 9, 20, 1, 22, 184, 0],
  [83, 154, 0, 5, 2, 172, 16, 100, 42, 180, 0, 9, 17, 4, 126, 5],
  [27, 104, 96, 46, 104, 42, 180, 0, 9, 17, 4, 126, 5, 27, 104, 96],
  [4, 96, 46, 96, 54, 4, 42, 180, 0, 9, 17, 4, 126, 5, 27, 104],
  [96, 28, 79, 42, 180, 0, 9, 17, 4, 126, 5, 27, 104, 96, 4, 96],
  [29, 79, 21, 4, 172]]) (by decide +kernel)
def q_code222 : List (List (Option Instr)) := [[some (.aload_n 0), some (.getfield 9), none, none, some (.sipush 1150), none, none, some (.iconst 2), some (.iload_n 3), some (.imul), some (.iadd), some (.iaload), some (.istore 4), none, some (.iload 4), none],
  [some (.iconst 2), some (.if_icmp .eq 10), none, none, some (.iload 4), none, some (.bipush 6), none, some (.if_icmp .ne 7), none, none, some (.iconst 0), some (.goto 21), none, none, some (.iload 4)],
  [none, some (.iconst 2), some (.if_icmp .lt 10), none, none, some (.iload 4), none, some (.bipush 7), none, some (.if_icmp .ne 7), none, none, some (.iconst 1), some (.goto 4), none, none],
  [some (.iconst (-1)), some (.istore 5), none, some (.iload 4), none, some (.iconst 4), some (.irem), some (.ifCond .ne 7), none, none, some (.iconst 0), some (.goto 14), none, none, some (.iload 4), none],
  [some (.iconst 4), some (.if_icmp .ge 7), none, none, some (.iconst 1), some (.goto 4), none, none, some (.iconst (-1)), some (.istore 6), none, some (.iconst 0), some (.istore 7), none, some (.iload 7), none],
  [some (.bipush 10), none, some (.if_icmp .ge 119), none, none, some (.aload_n 0), some (.getfield 9), none, none, some (.sipush 1120), none, none, some (.iconst 3), some (.iload 7), none, some (.imul)],
  [some (.iadd), some (.iconst 2), some (.iadd), some (.iaload), some (.istore 8), none, some (.iload 8), none, some (.aload_n 0), some (.getfield 9), none, none, some (.sipush 1150), none, none, some (.iconst 2)],
  [some (.iload_n 3), some (.imul), some (.iadd), some (.iconst 1), some (.iadd), some (.iaload), some (.imul), some (.bipush 10), none, some (.idiv), some (.istore 9), none, some (.iconst 0), some (.istore 10), none, some (.iload 10)],
  [none, some (.iload 9), none, some (.if_icmp .gt 64), none, none, some (.iload 8), none, some (.ifCond .le 59), none, none, some (.aload_n 0), some (.getfield 9), none, none, some (.sipush 1120)],
  [none, none, some (.iconst 3), some (.iload 7), none, some (.imul), some (.iadd), some (.iaload), some (.iload 10), none, some (.iload 5), none, some (.imul), some (.iadd), some (.iload_n 1), some (.if_icmp .ne 30)],
  [none, none, some (.aload_n 0), some (.getfield 9), none, none, some (.sipush 1120), none, none, some (.iconst 3), some (.iload 7), none, some (.imul), some (.iadd), some (.iconst 1), some (.iadd)],
  [some (.iaload), some (.iload 10), none, some (.iload 6), none, some (.imul), some (.iadd), some (.iload_n 2), some (.if_icmp .ne 5), none, none, some (.iconst 1), some (.ireturn), some (.iinc 10 1), none, none],
  [some (.goto (-65)), none, none, some (.iinc 7 1), none, none, some (.goto (-120)), none, none, some (.iconst 0), some (.ireturn)]]
theorem q_code222_ok : q_dec prog_14_method_57_code q_code222 := f_chk_ok (B := [[42, 180, 0, 9, 17, 4, 126, 5, 29, 104, 96, 46, 54, 4, 21, 4],
  [5, 159, 0, 10, 21, 4, 16, 6, 160, 0, 7, 3, 167, 0, 21, 21],
  [4, 5, 161, 0, 10, 21, 4, 16, 7, 160, 0, 7, 4, 167, 0, 4],
  [2, 54, 5, 21, 4, 7, 112, 154, 0, 7, 3, 167, 0, 14, 21, 4],
  [7, 162, 0, 7, 4, 167, 0, 4, 2, 54, 6, 3, 54, 7, 21, 7],
  [16, 10, 162, 0, 119, 42, 180, 0, 9, 17, 4, 96, 6, 21, 7, 104],
  [96, 5, 96, 46, 54, 8, 21, 8, 42, 180, 0, 9, 17, 4, 126, 5],
  [29, 104, 96, 4, 96, 46, 104, 16, 10, 108, 54, 9, 3, 54, 10, 21],
  [10, 21, 9, 163, 0, 64, 21, 8, 158, 0, 59, 42, 180, 0, 9, 17],
  [4, 96, 6, 21, 7, 104, 96, 46, 21, 10, 21, 5, 104, 96, 27, 160],
  [0, 30, 42, 180, 0, 9, 17, 4, 96, 6, 21, 7, 104, 96, 4, 96],
  [46, 21, 10, 21, 6, 104, 96, 28, 160, 0, 5, 4, 172, 132, 10, 1],
  [167, 255, 191, 132, 7, 1, 167, 255, 136, 3, 172]]) (by decide +kernel)
