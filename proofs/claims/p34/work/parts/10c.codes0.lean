def q_code0 : List (List (Option Instr)) := [[some (.aload_n 0), some (.invokespecial 3), none, none, some (.aload_n 0), some (.iconst 0), some (.putfield 9), none, none, some (.aload_n 0), some (.iconst 0), some (.putfield 15), none, none, some (.aload_n 0), some (.iconst 0)],
  [some (.putfield 18), none, none, some (.aload_n 0), some (.iconst 0), some (.putfield 21), none, none, some (.aload_n 0), some (.iconst 0), some (.putfield 24), none, none, some (.aload_n 0), some (.iconst 0), some (.putfield 27)],
  [none, none, some (.aload_n 0), some (.iconst 0), some (.putfield 30), none, none, some (.aload_n 0), some (.bipush 7), none, some (.newarray .int), none, some (.putfield 34), none, none, some (.aload_n 0)],
  [some (.bipush 40), none, some (.newarray .int), none, some (.putfield 38), none, none, some (.aload_n 0), some (.bipush 40), none, some (.newarray .int), none, some (.putfield 41), none, none, some (.aload_n 0)],
  [some (.bipush 40), none, some (.newarray .int), none, some (.putfield 44), none, none, some (.aload_n 0), some (.sipush 160), none, none, some (.newarray .int), none, some (.putfield 47), none, none],
  [some (.aload_n 0), some (.bipush 40), none, some (.newarray .int), none, some (.putfield 50), none, none, some (.aload_n 0), some (.sipush 240), none, none, some (.newarray .int), none, some (.putfield 53), none],
  [none, some (.aload_n 0), some (.sipush 240), none, none, some (.newarray .int), none, some (.putfield 56), none, none, some (.aload_n 0), some (.sipush 4040), none, none, some (.newarray .int), none],
  [some (.putfield 59), none, none, some (.aload_n 0), some (.bipush 100), none, some (.newarray .int), none, some (.putfield 62), none, none, some (.aload_n 0), some (.sipush 1000), none, none, some (.newarray .int)],
  [none, some (.putfield 65), none, none, some (.aload_n 0), some (.aload_n 1), some (.putfield 68), none, none, some (.return_)]]
theorem q_code0_ok : q_dec prog_2_method_1_code q_code0 := f_chk_ok (B := [[42, 183, 0, 3, 42, 3, 181, 0, 9, 42, 3, 181, 0, 15, 42, 3],
  [181, 0, 18, 42, 3, 181, 0, 21, 42, 3, 181, 0, 24, 42, 3, 181],
  [0, 27, 42, 3, 181, 0, 30, 42, 16, 7, 188, 10, 181, 0, 34, 42],
  [16, 40, 188, 10, 181, 0, 38, 42, 16, 40, 188, 10, 181, 0, 41, 42],
  [16, 40, 188, 10, 181, 0, 44, 42, 17, 0, 160, 188, 10, 181, 0, 47],
  [42, 16, 40, 188, 10, 181, 0, 50, 42, 17, 0, 240, 188, 10, 181, 0],
  [53, 42, 17, 0, 240, 188, 10, 181, 0, 56, 42, 17, 15, 200, 188, 10],
  [181, 0, 59, 42, 16, 100, 188, 10, 181, 0, 62, 42, 17, 3, 232, 188],
  [10, 181, 0, 65, 42, 43, 181, 0, 68, 177]]) (by decide +kernel)
def q_code1 : List (List (Option Instr)) := [[some (.aload_n 0), some (.getfield 68), none, none, some (.getfield 72), none, none, some (.astore_n 2), some (.aload_n 0), some (.invokevirtual 78), none, none, some (.aload_n 2), some (.getfield 81), none, none],
  [some (.iload_n 1), some (.invokestatic 86), none, none, some (.iconst 3), some (.if_icmp .ne 7), none, none, some (.iconst 1), some (.goto 4), none, none, some (.iconst 0), some (.istore_n 3), some (.iload_n 3), some (.ifCond .eq 17)],
  [none, none, some (.aload_n 2), some (.getfield 90), none, none, some (.iload_n 1), some (.bipush 8), none, some (.imul), some (.invokestatic 86), none, none, some (.goto 4), none, none],
  [some (.iload_n 1), some (.istore 4), none, some (.aload_n 0), some (.aload_n 2), some (.getfield 81), none, none, some (.iload 4), none, some (.invokestatic 86), none, none, some (.iconst 2), some (.if_icmp .ne 7), none],
  [none, some (.iconst 1), some (.goto 4), none, none, some (.iconst 0), some (.putfield 30), none, none, some (.aload_n 0), some (.getfield 30), none, none, some (.ifCond .ne 10), none, none],
  [some (.aload_n 0), some (.iload 4), none, some (.invokevirtual 93), none, none, some (.return_), some (.aload_n 2), some (.getfield 97), none, none, some (.iload 4), none, some (.invokestatic 86), none, none],
  [some (.istore 5), none, some (.iconst 0), some (.istore 6), none, some (.iload 6), none, some (.iload 5), none, some (.if_icmp .ge 28), none, none, some (.aload_n 0), some (.aload_n 2), some (.getfield 90), none],
  [none, some (.iload 4), none, some (.bipush 8), none, some (.imul), some (.iload 6), none, some (.iadd), some (.invokestatic 86), none, none, some (.invokevirtual 93), none, none, some (.iinc 6 1)],
  [none, none, some (.goto (-29)), none, none, some (.return_)]]
theorem q_code1_ok : q_dec prog_2_method_2_code q_code1 := f_chk_ok (B := [[42, 180, 0, 68, 180, 0, 72, 77, 42, 182, 0, 78, 44, 180, 0, 81],
  [27, 184, 0, 86, 6, 160, 0, 7, 4, 167, 0, 4, 3, 62, 29, 153],
  [0, 17, 44, 180, 0, 90, 27, 16, 8, 104, 184, 0, 86, 167, 0, 4],
  [27, 54, 4, 42, 44, 180, 0, 81, 21, 4, 184, 0, 86, 5, 160, 0],
  [7, 4, 167, 0, 4, 3, 181, 0, 30, 42, 180, 0, 30, 154, 0, 10],
  [42, 21, 4, 182, 0, 93, 177, 44, 180, 0, 97, 21, 4, 184, 0, 86],
  [54, 5, 3, 54, 6, 21, 6, 21, 5, 162, 0, 28, 42, 44, 180, 0],
  [90, 21, 4, 16, 8, 104, 21, 6, 96, 184, 0, 86, 182, 0, 93, 132],
  [6, 1, 167, 255, 227, 177]]) (by decide +kernel)
def q_code2 : List (List (Option Instr)) := [[some (.aload_n 0), some (.invokevirtual 78), none, none, some (.iconst 0), some (.istore_n 2), some (.iload_n 2), some (.aload_n 1), some (.getfield 100), none, none, some (.if_icmp .ge 22), none, none, some (.aload_n 0), some (.aload_n 1)],
  [some (.getfield 105), none, none, some (.iload_n 2), some (.invokestatic 86), none, none, some (.iload_n 2), some (.invokevirtual 108), none, none, some (.iinc 2 1), none, none, some (.goto (-24)), none],
  [none, some (.return_)]]
theorem q_code2_ok : q_dec prog_2_method_3_code q_code2 := f_chk_ok (B := [[42, 182, 0, 78, 3, 61, 28, 43, 180, 0, 100, 162, 0, 22, 42, 43],
  [180, 0, 105, 28, 184, 0, 86, 28, 182, 0, 108, 132, 2, 1, 167, 255],
  [232, 177]]) (by decide +kernel)
def q_code3 : List (List (Option Instr)) := [[some (.aload_n 0), some (.iconst 0), some (.putfield 9), none, none, some (.aload_n 0), some (.iconst 0), some (.putfield 21), none, none, some (.aload_n 0), some (.iconst 0), some (.putfield 24), none, none, some (.aload_n 0)],
  [some (.getfield 38), none, none, some (.iconst 0), some (.invokestatic 112), none, none, some (.return_)]]
theorem q_code3_ok : q_dec prog_2_method_4_code q_code3 := f_chk_ok (B := [[42, 3, 181, 0, 9, 42, 3, 181, 0, 21, 42, 3, 181, 0, 24, 42],
  [180, 0, 38, 3, 184, 0, 112, 177]]) (by decide +kernel)
def q_code4 : List (List (Option Instr)) := [[some (.aload_n 0), some (.getfield 68), none, none, some (.getfield 72), none, none, some (.astore_n 2), some (.aload_n 2), some (.getfield 81), none, none, some (.iload_n 1), some (.invokestatic 86), none, none],
  [some (.ifCond .ne 25), none, none, some (.aload_n 0), some (.iload_n 1), some (.aload_n 0), some (.getfield 21), none, none, some (.invokevirtual 108), none, none, some (.aload_n 0), some (.dup), some (.getfield 21), none],
  [none, some (.iconst 1), some (.iadd), some (.putfield 21), none, none, some (.goto 102), none, none, some (.aload_n 2), some (.getfield 97), none, none, some (.iload_n 1), some (.invokestatic 86), none],
  [none, some (.istore_n 3), some (.iconst 0), some (.istore 4), none, some (.iload 4), none, some (.iload_n 3), some (.if_icmp .ge 67), none, none, some (.iload_n 1), some (.bipush 8), none, some (.imul), some (.iload 4)],
  [none, some (.iadd), some (.istore 5), none, some (.aload_n 0), some (.getfield 21), none, none, some (.aload_n 2), some (.getfield 118), none, none, some (.iload 5), none, some (.invokestatic 86), none],
  [none, some (.iadd), some (.istore 6), none, some (.aload_n 0), some (.getfield 38), none, none, some (.iload 6), none, some (.aload_n 2), some (.getfield 119), none, none, some (.iload 5), none],
  [some (.invokestatic 86), none, none, some (.invokestatic 120), none, none, some (.aload_n 0), some (.aload_n 2), some (.getfield 90), none, none, some (.iload 5), none, some (.invokestatic 86), none, none],
  [some (.iload 6), none, some (.invokevirtual 108), none, none, some (.iinc 4 1), none, none, some (.goto (-67)), none, none, some (.aload_n 0), some (.dup), some (.getfield 21), none, none],
  [some (.aload_n 2), some (.getfield 124), none, none, some (.iload_n 1), some (.invokestatic 86), none, none, some (.iadd), some (.putfield 21), none, none, some (.aload_n 0), some (.dup), some (.getfield 24), none],
  [none, some (.iconst 1), some (.iadd), some (.putfield 24), none, none, some (.aload_n 0), some (.getfield 34), none, none, some (.aload_n 0), some (.getfield 24), none, none, some (.aload_n 0), some (.getfield 9)],
  [none, none, some (.invokestatic 120), none, none, some (.return_)]]
theorem q_code4_ok : q_dec prog_2_method_5_code q_code4 := f_chk_ok (B := [[42, 180, 0, 68, 180, 0, 72, 77, 44, 180, 0, 81, 27, 184, 0, 86],
  [154, 0, 25, 42, 27, 42, 180, 0, 21, 182, 0, 108, 42, 89, 180, 0],
  [21, 4, 96, 181, 0, 21, 167, 0, 102, 44, 180, 0, 97, 27, 184, 0],
  [86, 62, 3, 54, 4, 21, 4, 29, 162, 0, 67, 27, 16, 8, 104, 21],
  [4, 96, 54, 5, 42, 180, 0, 21, 44, 180, 0, 118, 21, 5, 184, 0],
  [86, 96, 54, 6, 42, 180, 0, 38, 21, 6, 44, 180, 0, 119, 21, 5],
  [184, 0, 86, 184, 0, 120, 42, 44, 180, 0, 90, 21, 5, 184, 0, 86],
  [21, 6, 182, 0, 108, 132, 4, 1, 167, 255, 189, 42, 89, 180, 0, 21],
  [44, 180, 0, 124, 27, 184, 0, 86, 96, 181, 0, 21, 42, 89, 180, 0],
  [24, 4, 96, 181, 0, 24, 42, 180, 0, 34, 42, 180, 0, 24, 42, 180],
  [0, 9, 184, 0, 120, 177]]) (by decide +kernel)
def q_code5 : List (List (Option Instr)) := [[some (.aload_n 0), some (.getfield 44), none, none, some (.aload_n 0), some (.getfield 9), none, none, some (.iload_n 1), some (.invokestatic 120), none, none, some (.aload_n 0), some (.getfield 41), none, none],
  [some (.aload_n 0), some (.getfield 9), none, none, some (.iload_n 2), some (.invokestatic 120), none, none, some (.aload_n 0), some (.getfield 50), none, none, some (.aload_n 0), some (.getfield 9), none, none],
  [some (.aload_n 0), some (.getfield 68), none, none, some (.getfield 127), none, none, some (.getfield 130), none, none, some (.iload_n 1), some (.invokestatic 86), none, none, some (.invokestatic 120), none],
  [none, some (.iconst 0), some (.istore_n 3), some (.iload_n 3), some (.iconst 4), some (.if_icmp .ge 42), none, none, some (.aload_n 0), some (.getfield 47), none, none, some (.aload_n 0), some (.getfield 9), none, none],
  [some (.iconst 4), some (.imul), some (.iload_n 3), some (.iadd), some (.aload_n 0), some (.getfield 68), none, none, some (.getfield 127), none, none, some (.getfield 133), none, none, some (.iload_n 1), some (.iconst 4)],
  [some (.imul), some (.iload_n 3), some (.iadd), some (.invokestatic 86), none, none, some (.invokestatic 120), none, none, some (.iinc 3 1), none, none, some (.goto (-41)), none, none, some (.aload_n 0)],
  [some (.dup), some (.getfield 9), none, none, some (.iconst 1), some (.iadd), some (.putfield 9), none, none, some (.return_)]]
theorem q_code5_ok : q_dec prog_2_method_6_code q_code5 := f_chk_ok (B := [[42, 180, 0, 44, 42, 180, 0, 9, 27, 184, 0, 120, 42, 180, 0, 41],
  [42, 180, 0, 9, 28, 184, 0, 120, 42, 180, 0, 50, 42, 180, 0, 9],
  [42, 180, 0, 68, 180, 0, 127, 180, 0, 130, 27, 184, 0, 86, 184, 0],
  [120, 3, 62, 29, 7, 162, 0, 42, 42, 180, 0, 47, 42, 180, 0, 9],
  [7, 104, 29, 96, 42, 180, 0, 68, 180, 0, 127, 180, 0, 133, 27, 7],
  [104, 29, 96, 184, 0, 86, 184, 0, 120, 132, 3, 1, 167, 255, 215, 42],
  [89, 180, 0, 9, 4, 96, 181, 0, 9, 177]]) (by decide +kernel)
def q_code6 : List (List (Option Instr)) := [[some (.iconst 0), some (.istore_n 1), some (.iconst 0), some (.istore_n 2), some (.iload_n 2), some (.aload_n 0), some (.getfield 21), none, none, some (.if_icmp .ge 20), none, none, some (.iload_n 1), some (.aload_n 0), some (.getfield 38), none],
  [none, some (.iload_n 2), some (.invokestatic 86), none, none, some (.iadd), some (.istore_n 1), some (.iinc 2 1), none, none, some (.goto (-22)), none, none, some (.iload_n 1), some (.ireturn)]]
theorem q_code6_ok : q_dec prog_2_method_7_code q_code6 := f_chk_ok (B := [[3, 60, 3, 61, 28, 42, 180, 0, 21, 162, 0, 20, 27, 42, 180, 0],
  [38, 28, 184, 0, 86, 96, 60, 132, 2, 1, 167, 255, 234, 27, 172]]) (by decide +kernel)
def q_code7 : List (List (Option Instr)) := [[some (.iconst 0), some (.istore_n 2), some (.iload_n 2), some (.aload_n 0), some (.getfield 9), none, none, some (.iconst 4), some (.imul), some (.if_icmp .ge 39), none, none, some (.iload_n 2), some (.iconst 4), some (.irem), some (.istore_n 3)],
  [some (.iload_n 1), some (.iload_n 3), some (.ishr), some (.iconst 1), some (.iand), some (.ifCond .eq 21), none, none, some (.aload_n 0), some (.getfield 47), none, none, some (.iload_n 2), some (.iload_n 3), some (.ifCond .ne 8), none],
  [none, some (.bipush 100), none, some (.goto 4), none, none, some (.iconst 0), some (.invokestatic 120), none, none, some (.iinc 2 1), none, none, some (.goto (-43)), none, none],
  [some (.return_)]]
theorem q_code7_ok : q_dec prog_2_method_8_code q_code7 := f_chk_ok (B := [[3, 61, 28, 42, 180, 0, 9, 7, 104, 162, 0, 39, 28, 7, 112, 62],
  [27, 29, 122, 4, 126, 153, 0, 21, 42, 180, 0, 47, 28, 29, 154, 0],
  [8, 16, 100, 167, 0, 4, 3, 184, 0, 120, 132, 2, 1, 167, 255, 213],
  [177]]) (by decide +kernel)
def q_code8 : List (List (Option Instr)) := [[some (.iconst 0), some (.istore_n 3), some (.iload_n 3), some (.aload_n 0), some (.getfield 9), none, none, some (.if_icmp .ge 45), none, none, some (.aload_n 0), some (.getfield 47), none, none, some (.iload_n 3), some (.iconst 4)],
  [some (.imul), some (.iconst 0), some (.iadd), some (.aload_n 0), some (.getfield 68), none, none, some (.getfield 127), none, none, some (.aload_n 0), some (.getfield 44), none, none, some (.iload_n 3), some (.invokestatic 86)],
  [none, none, some (.aload_n 1), some (.invokevirtual 134), none, none, some (.iload_n 2), some (.imul), some (.bipush 100), none, some (.idiv), some (.invokestatic 120), none, none, some (.iinc 3 1), none],
  [none, some (.goto (-47)), none, none, some (.return_)]]
theorem q_code8_ok : q_dec prog_2_method_9_code q_code8 := f_chk_ok (B := [[3, 62, 29, 42, 180, 0, 9, 162, 0, 45, 42, 180, 0, 47, 29, 7],
  [104, 3, 96, 42, 180, 0, 68, 180, 0, 127, 42, 180, 0, 44, 29, 184],
  [0, 86, 43, 182, 0, 134, 28, 104, 16, 100, 108, 184, 0, 120, 132, 3],
  [1, 167, 255, 209, 177]]) (by decide +kernel)
def q_code9 : List (List (Option Instr)) := [[some (.iload_n 1), some (.iconst 4), some (.imul), some (.istore_n 2), some (.aload_n 0), some (.getfield 47), none, none, some (.iload_n 2), some (.iconst 3), some (.iadd), some (.invokestatic 86), none, none, some (.istore_n 3), some (.aload_n 0)],
  [some (.getfield 47), none, none, some (.iload_n 2), some (.invokestatic 86), none, none, some (.bipush 100), none, some (.aload_n 0), some (.getfield 47), none, none, some (.iload_n 2), some (.iconst 1), some (.iadd)],
  [some (.invokestatic 86), none, none, some (.isub), some (.imul), some (.bipush 100), none, some (.aload_n 0), some (.getfield 47), none, none, some (.iload_n 2), some (.iconst 2), some (.iadd), some (.invokestatic 86), none],
  [none, some (.isub), some (.imul), some (.sipush 10000), none, none, some (.idiv), some (.istore 4), none, some (.aload_n 0), some (.getfield 50), none, none, some (.iload_n 1), some (.invokestatic 86), none],
  [none, some (.ifCond .eq 6), none, none, some (.iconst 0), some (.istore 4), none, some (.iconst 0), some (.istore 5), none, some (.iload 5), none, some (.bipush 6), none, some (.if_icmp .ge 113), none],
  [none, some (.aload_n 0), some (.getfield 68), none, none, some (.getfield 127), none, none, some (.getfield 138), none, none, some (.aload_n 0), some (.getfield 44), none, none, some (.iload_n 1)],
  [some (.invokestatic 86), none, none, some (.bipush 6), none, some (.imul), some (.iload 5), none, some (.iadd), some (.invokestatic 86), none, none, some (.istore 6), none, some (.aload_n 0), some (.getfield 68)],
  [none, none, some (.getfield 127), none, none, some (.getfield 141), none, none, some (.aload_n 0), some (.getfield 44), none, none, some (.iload_n 1), some (.invokestatic 86), none, none],
  [some (.bipush 6), none, some (.imul), some (.iload 5), none, some (.iadd), some (.invokestatic 86), none, none, some (.istore 7), none, some (.aload_n 0), some (.getfield 53), none, none, some (.iload_n 1)],
  [some (.bipush 6), none, some (.imul), some (.iload 5), none, some (.iadd), some (.iload 6), none, some (.iload 6), none, some (.iload_n 3), some (.imul), some (.bipush 100), none, some (.idiv), some (.isub)],
  [some (.invokestatic 120), none, none, some (.aload_n 0), some (.getfield 56), none, none, some (.iload_n 1), some (.bipush 6), none, some (.imul), some (.iload 5), none, some (.iadd), some (.iload 7), none],
  [some (.iload 4), none, some (.imul), some (.bipush 100), none, some (.idiv), some (.invokestatic 120), none, none, some (.iinc 5 1), none, none, some (.goto (-114)), none, none, some (.return_)]]
theorem q_code9_ok : q_dec prog_2_method_10_code q_code9 := f_chk_ok (B := [[27, 7, 104, 61, 42, 180, 0, 47, 28, 6, 96, 184, 0, 86, 62, 42],
  [180, 0, 47, 28, 184, 0, 86, 16, 100, 42, 180, 0, 47, 28, 4, 96],
  [184, 0, 86, 100, 104, 16, 100, 42, 180, 0, 47, 28, 5, 96, 184, 0],
  [86, 100, 104, 17, 39, 16, 108, 54, 4, 42, 180, 0, 50, 27, 184, 0],
  [86, 153, 0, 6, 3, 54, 4, 3, 54, 5, 21, 5, 16, 6, 162, 0],
  [113, 42, 180, 0, 68, 180, 0, 127, 180, 0, 138, 42, 180, 0, 44, 27],
  [184, 0, 86, 16, 6, 104, 21, 5, 96, 184, 0, 86, 54, 6, 42, 180],
  [0, 68, 180, 0, 127, 180, 0, 141, 42, 180, 0, 44, 27, 184, 0, 86],
  [16, 6, 104, 21, 5, 96, 184, 0, 86, 54, 7, 42, 180, 0, 53, 27],
  [16, 6, 104, 21, 5, 96, 21, 6, 21, 6, 29, 104, 16, 100, 108, 100],
  [184, 0, 120, 42, 180, 0, 56, 27, 16, 6, 104, 21, 5, 96, 21, 7],
  [21, 4, 104, 16, 100, 108, 184, 0, 120, 132, 5, 1, 167, 255, 142, 177]]) (by decide +kernel)
def q_code10 : List (List (Option Instr)) := [[some (.aload_n 0), some (.iload_n 1), some (.invokevirtual 144), none, none, some (.iconst 0), some (.istore_n 2), some (.iload_n 2), some (.bipush 100), none, some (.if_icmp .ge 28), none, none, some (.aload_n 0), some (.getfield 59), none],
  [none, some (.iload_n 2), some (.bipush 40), none, some (.imul), some (.iload_n 1), some (.iadd), some (.aload_n 0), some (.iload_n 1), some (.iload_n 2), some (.invokevirtual 147), none, none, some (.invokestatic 120), none, none],
  [some (.iinc 2 1), none, none, some (.goto (-28)), none, none, some (.return_)]]
theorem q_code10_ok : q_dec prog_2_method_11_code q_code10 := f_chk_ok (B := [[42, 27, 182, 0, 144, 3, 61, 28, 16, 100, 162, 0, 28, 42, 180, 0],
  [59, 28, 16, 40, 104, 27, 96, 42, 27, 28, 182, 0, 147, 184, 0, 120],
  [132, 2, 1, 167, 255, 228, 177]]) (by decide +kernel)
def q_code11 : List (List (Option Instr)) := [[some (.iconst 0), some (.istore_n 1), some (.iload_n 1), some (.aload_n 0), some (.getfield 9), none, none, some (.if_icmp .ge 14), none, none, some (.aload_n 0), some (.iload_n 1), some (.invokevirtual 151), none, none, some (.iinc 1 1)],
  [none, none, some (.goto (-16)), none, none, some (.return_)]]
theorem q_code11_ok : q_dec prog_2_method_12_code q_code11 := f_chk_ok (B := [[3, 60, 27, 42, 180, 0, 9, 162, 0, 14, 42, 27, 182, 0, 151, 132],
  [1, 1, 167, 255, 240, 177]]) (by decide +kernel)
def q_code12 : List (List (Option Instr)) := [[some (.iconst 0), some (.istore_n 2), some (.iload_n 2), some (.aload_n 0), some (.getfield 9), none, none, some (.if_icmp .ge 32), none, none, some (.aload_n 0), some (.iload_n 2), some (.invokevirtual 144), none, none, some (.aload_n 0)],
  [some (.getfield 59), none, none, some (.sipush 4000), none, none, some (.iload_n 2), some (.iadd), some (.aload_n 0), some (.iload_n 2), some (.iload_n 1), some (.invokevirtual 147), none, none, some (.invokestatic 120), none],
  [none, some (.iinc 2 1), none, none, some (.goto (-34)), none, none, some (.return_)]]
theorem q_code12_ok : q_dec prog_2_method_13_code q_code12 := f_chk_ok (B := [[3, 61, 28, 42, 180, 0, 9, 162, 0, 32, 42, 28, 182, 0, 144, 42],
  [180, 0, 59, 17, 15, 160, 28, 96, 42, 28, 27, 182, 0, 147, 184, 0],
  [120, 132, 2, 1, 167, 255, 222, 177]]) (by decide +kernel)
def q_code13 : List (List (Option Instr)) := [[some (.iload_n 1), some (.bipush 6), none, some (.imul), some (.istore_n 3), some (.iload_n 2), some (.aload_n 0), some (.getfield 56), none, none, some (.iload_n 3), some (.invokestatic 86), none, none, some (.isub), some (.istore 4)],
  [none, some (.iload 4), none, some (.ifCond .le 14), none, none, some (.iconst 2), some (.iload 4), none, some (.imul), some (.bipush 20), none, some (.invokestatic 154), none, none, some (.ineg)],
  [some (.ireturn), some (.iload_n 3), some (.aload_n 0), some (.getfield 68), none, none, some (.getfield 72), none, none, some (.getfield 124), none, none, some (.aload_n 0), some (.getfield 44), none, none],
  [some (.iload_n 1), some (.invokestatic 86), none, none, some (.invokestatic 86), none, none, some (.iadd), some (.iconst 1), some (.isub), some (.istore 5), none, some (.iload 5), none, some (.iload_n 3), some (.if_icmp .le 45)],
  [none, none, some (.iload_n 2), some (.aload_n 0), some (.getfield 56), none, none, some (.iload 5), none, some (.invokestatic 86), none, none, some (.if_icmp .lt 26), none, none, some (.iload_n 2)],
  [some (.aload_n 0), some (.getfield 56), none, none, some (.iload 5), none, some (.iconst 1), some (.isub), some (.invokestatic 86), none, none, some (.if_icmp .gt 11), none, none, some (.aload_n 0), some (.iload 5)],
  [none, some (.iload_n 2), some (.invokevirtual 159), none, none, some (.ireturn), some (.iinc 5 (-1)), none, none, some (.goto (-45)), none, none, some (.iconst 0), some (.ireturn)]]
theorem q_code13_ok : q_dec prog_2_method_14_code q_code13 := f_chk_ok (B := [[27, 16, 6, 104, 62, 28, 42, 180, 0, 56, 29, 184, 0, 86, 100, 54],
  [4, 21, 4, 158, 0, 14, 5, 21, 4, 104, 16, 20, 184, 0, 154, 116],
  [172, 29, 42, 180, 0, 68, 180, 0, 72, 180, 0, 124, 42, 180, 0, 44],
  [27, 184, 0, 86, 184, 0, 86, 96, 4, 100, 54, 5, 21, 5, 29, 164],
  [0, 45, 28, 42, 180, 0, 56, 21, 5, 184, 0, 86, 161, 0, 26, 28],
  [42, 180, 0, 56, 21, 5, 4, 100, 184, 0, 86, 163, 0, 11, 42, 21],
  [5, 28, 182, 0, 159, 172, 132, 5, 255, 167, 255, 211, 3, 172]]) (by decide +kernel)
def q_code14 : List (List (Option Instr)) := [[some (.aload_n 0), some (.getfield 53), none, none, some (.iload_n 1), some (.invokestatic 86), none, none, some (.istore_n 3), some (.aload_n 0), some (.getfield 56), none, none, some (.iload_n 1), some (.iconst 1), some (.isub)],
  [some (.invokestatic 86), none, none, some (.aload_n 0), some (.getfield 56), none, none, some (.iload_n 1), some (.invokestatic 86), none, none, some (.isub), some (.istore 4), none, some (.iload 4), none],
  [some (.ifCond .ne 5), none, none, some (.iload_n 3), some (.ireturn), some (.iload_n 3), some (.iload_n 3), some (.aload_n 0), some (.getfield 53), none, none, some (.iload_n 1), some (.iconst 1), some (.isub), some (.invokestatic 86), none],
  [none, some (.isub), some (.iload_n 2), some (.aload_n 0), some (.getfield 56), none, none, some (.iload_n 1), some (.invokestatic 86), none, none, some (.isub), some (.imul), some (.iload 4), none, some (.idiv)],
  [some (.isub), some (.ireturn)]]
theorem q_code14_ok : q_dec prog_2_method_15_code q_code14 := f_chk_ok (B := [[42, 180, 0, 53, 27, 184, 0, 86, 62, 42, 180, 0, 56, 27, 4, 100],
  [184, 0, 86, 42, 180, 0, 56, 27, 184, 0, 86, 100, 54, 4, 21, 4],
  [154, 0, 5, 29, 172, 29, 29, 42, 180, 0, 53, 27, 4, 100, 184, 0],
  [86, 100, 28, 42, 180, 0, 56, 27, 184, 0, 86, 100, 104, 21, 4, 108],
  [100, 172]]) (by decide +kernel)
def q_code15 : List (List (Option Instr)) := [[some (.iconst 0), some (.istore_n 3), some (.iconst 0), some (.istore 4), none, some (.aload_n 0), some (.getfield 34), none, none, some (.iload_n 1), some (.iconst 1), some (.iadd), some (.invokestatic 86), none, none, some (.istore 5)],
  [none, some (.aload_n 0), some (.getfield 34), none, none, some (.iload_n 1), some (.invokestatic 86), none, none, some (.istore 6), none, some (.iload 6), none, some (.iload 5), none, some (.if_icmp .ge 93)],
  [none, none, some (.iload 4), none, some (.aload_n 0), some (.getfield 59), none, none, some (.iload_n 2), some (.iload 6), none, some (.iadd), some (.invokestatic 86), none, none, some (.iadd)],
  [some (.istore 4), none, some (.iload 6), none, some (.iconst 1), some (.iadd), some (.iload 5), none, some (.if_icmp .eq 26), none, none, some (.aload_n 0), some (.getfield 41), none, none, some (.iload 6)],
  [none, some (.iconst 1), some (.iadd), some (.invokestatic 86), none, none, some (.aload_n 0), some (.getfield 41), none, none, some (.iload 6), none, some (.invokestatic 86), none, none, some (.if_icmp .eq 39)],
  [none, none, some (.iload_n 3), some (.aload_n 0), some (.getfield 38), none, none, some (.aload_n 0), some (.getfield 41), none, none, some (.iload 6), none, some (.invokestatic 86), none, none],
  [some (.invokestatic 86), none, none, some (.ifCond .eq 12), none, none, some (.iload 4), none, some (.iconst (-1)), some (.invokestatic 162), none, none, some (.goto 5), none, none, some (.iload 4)],
  [none, some (.iadd), some (.istore_n 3), some (.iconst 0), some (.istore 4), none, some (.iinc 6 1), none, none, some (.goto (-94)), none, none, some (.iload_n 3), some (.ireturn)]]
theorem q_code15_ok : q_dec prog_2_method_16_code q_code15 := f_chk_ok (B := [[3, 62, 3, 54, 4, 42, 180, 0, 34, 27, 4, 96, 184, 0, 86, 54],
  [5, 42, 180, 0, 34, 27, 184, 0, 86, 54, 6, 21, 6, 21, 5, 162],
  [0, 93, 21, 4, 42, 180, 0, 59, 28, 21, 6, 96, 184, 0, 86, 96],
  [54, 4, 21, 6, 4, 96, 21, 5, 159, 0, 26, 42, 180, 0, 41, 21],
  [6, 4, 96, 184, 0, 86, 42, 180, 0, 41, 21, 6, 184, 0, 86, 159],
  [0, 39, 29, 42, 180, 0, 38, 42, 180, 0, 41, 21, 6, 184, 0, 86],
  [184, 0, 86, 153, 0, 12, 21, 4, 2, 184, 0, 162, 167, 0, 5, 21],
  [4, 96, 62, 3, 54, 4, 132, 6, 1, 167, 255, 162, 29, 172]]) (by decide +kernel)
def q_code16 : List (List (Option Instr)) := [[some (.aload_n 0), some (.getfield 30), none, none, some (.ifCond .ne 17), none, none, some (.aload_n 0), some (.iload_n 1), some (.invokevirtual 165), none, none, some (.aload_n 0), some (.iconst 0), some (.sipush 4000), none],
  [none, some (.invokevirtual 168), none, none, some (.ireturn), some (.aload_n 0), some (.invokevirtual 171), none, none, some (.aload_n 0), some (.iconst 0), some (.sipush 999), none, none, some (.invokevirtual 174), none],
  [none, some (.sipush 999), none, none, some (.istore_n 2), some (.iload_n 2), some (.ifCond .lt 18), none, none, some (.aload_n 0), some (.iload_n 2), some (.invokevirtual 177), none, none, some (.iload_n 1), some (.if_icmp .ge 9)],
  [none, none, some (.iinc 2 (-1)), none, none, some (.goto (-16)), none, none, some (.iload_n 2), some (.ireturn)]]
theorem q_code16_ok : q_dec prog_2_method_17_code q_code16 := f_chk_ok (B := [[42, 180, 0, 30, 154, 0, 17, 42, 27, 182, 0, 165, 42, 3, 17, 15],
  [160, 182, 0, 168, 172, 42, 182, 0, 171, 42, 3, 17, 3, 231, 182, 0],
  [174, 17, 3, 231, 61, 28, 155, 0, 18, 42, 28, 182, 0, 177, 27, 162],
  [0, 9, 132, 2, 255, 167, 255, 240, 28, 172]]) (by decide +kernel)
def q_code17 : List (List (Option Instr)) := [[some (.aload_n 0), some (.iload_n 1), some (.putfield 27), none, none, some (.aload_n 0), some (.getfield 65), none, none, some (.iconst 0), some (.invokestatic 112), none, none, some (.iconst 0), some (.istore_n 3), some (.iload_n 3)],
  [some (.aload_n 0), some (.getfield 24), none, none, some (.if_icmp .ge 50), none, none, some (.iconst 0), some (.istore 4), none, some (.iload 4), none, some (.bipush 100), none, some (.if_icmp .ge 28), none],
  [none, some (.aload_n 0), some (.getfield 62), none, none, some (.iload 4), none, some (.aload_n 0), some (.iload_n 3), some (.iload 4), none, some (.bipush 40), none, some (.imul), some (.invokevirtual 168), none],
  [none, some (.invokestatic 120), none, none, some (.iinc 4 1), none, none, some (.goto (-29)), none, none, some (.aload_n 0), some (.iload_n 1), some (.iload_n 2), some (.invokevirtual 181), none, none],
  [some (.iinc 3 1), none, none, some (.goto (-52)), none, none, some (.return_)]]
theorem q_code17_ok : q_dec prog_2_method_18_code q_code17 := f_chk_ok (B := [[42, 27, 181, 0, 27, 42, 180, 0, 65, 3, 184, 0, 112, 3, 62, 29],
  [42, 180, 0, 24, 162, 0, 50, 3, 54, 4, 21, 4, 16, 100, 162, 0],
  [28, 42, 180, 0, 62, 21, 4, 42, 29, 21, 4, 16, 40, 104, 182, 0],
  [168, 184, 0, 120, 132, 4, 1, 167, 255, 227, 42, 27, 28, 182, 0, 181],
  [132, 3, 1, 167, 255, 204, 177]]) (by decide +kernel)
def q_code18 : List (List (Option Instr)) := [[some (.iconst 0), some (.istore_n 3), some (.iload_n 2), some (.istore 4), none, some (.iload 4), none, some (.iload_n 1), some (.if_icmp .lt 62), none, none, some (.iload_n 3), some (.iconst 1), some (.iadd), some (.bipush 100), none],
  [some (.if_icmp .ge 24), none, none, some (.aload_n 0), some (.getfield 62), none, none, some (.iload_n 3), some (.iconst 1), some (.iadd), some (.invokestatic 86), none, none, some (.iload 4), none, some (.if_icmp .lt 9)],
  [none, none, some (.iinc 3 1), none, none, some (.goto (-26)), none, none, some (.aload_n 0), some (.getfield 65), none, none, some (.iload 4), none, some (.iload_n 1), some (.isub)],
  [some (.aload_n 0), some (.getfield 65), none, none, some (.iload 4), none, some (.iload_n 1), some (.isub), some (.invokestatic 86), none, none, some (.iload_n 3), some (.iadd), some (.invokestatic 120), none, none],
  [some (.iinc 4 (-1)), none, none, some (.goto (-62)), none, none, some (.return_)]]
theorem q_code18_ok : q_dec prog_2_method_19_code q_code18 := f_chk_ok (B := [[3, 62, 28, 54, 4, 21, 4, 27, 161, 0, 62, 29, 4, 96, 16, 100],
  [162, 0, 24, 42, 180, 0, 62, 29, 4, 96, 184, 0, 86, 21, 4, 161],
  [0, 9, 132, 3, 1, 167, 255, 230, 42, 180, 0, 65, 21, 4, 27, 100],
  [42, 180, 0, 65, 21, 4, 27, 100, 184, 0, 86, 29, 96, 184, 0, 120],
  [132, 4, 255, 167, 255, 194, 177]]) (by decide +kernel)
def q_code19 : List (List (Option Instr)) := [[some (.aload_n 0), some (.getfield 65), none, none, some (.iload_n 1), some (.aload_n 0), some (.getfield 27), none, none, some (.isub), some (.invokestatic 86), none, none, some (.ireturn)]]
theorem q_code19_ok : q_dec prog_2_method_20_code q_code19 := f_chk_ok (B := [[42, 180, 0, 65, 27, 42, 180, 0, 27, 100, 184, 0, 86, 172]]) (by decide +kernel)
def q_code20 : List (List (Option Instr)) := [[some (.iload_n 1), some (.aload_n 0), some (.iload_n 1), some (.invokevirtual 177), none, none, some (.imul), some (.ireturn)]]
theorem q_code20_ok : q_dec prog_2_method_21_code q_code20 := f_chk_ok (B := [[27, 42, 27, 182, 0, 177, 104, 172]]) (by decide +kernel)
def q_code21 : List (List (Option Instr)) := [[some (.aload_n 0), some (.invokevirtual 171), none, none, some (.aload_n 0), some (.iconst 0), some (.sipush 500), none, none, some (.invokevirtual 174), none, none, some (.aload_n 0), some (.invokevirtual 184), none, none],
  [some (.return_)]]
theorem q_code21_ok : q_dec prog_2_method_22_code q_code21 := f_chk_ok (B := [[42, 182, 0, 171, 42, 3, 17, 1, 244, 182, 0, 174, 42, 182, 0, 184],
  [177]]) (by decide +kernel)
def q_code22 : List (List (Option Instr)) := [[some (.aload_n 0), some (.iconst 0), some (.putfield 15), none, none, some (.aload_n 0), some (.iconst 0), some (.putfield 18), none, none, some (.iconst 0), some (.istore_n 1), some (.iload_n 1), some (.sipush 500), none, none],
  [some (.if_icmp .gt 35), none, none, some (.aload_n 0), some (.iload_n 1), some (.invokevirtual 187), none, none, some (.aload_n 0), some (.getfield 15), none, none, some (.if_icmp .le 17), none, none, some (.aload_n 0)],
  [some (.aload_n 0), some (.iload_n 1), some (.invokevirtual 187), none, none, some (.putfield 15), none, none, some (.aload_n 0), some (.iload_n 1), some (.putfield 18), none, none, some (.iinc 1 1), none, none],
  [some (.goto (-36)), none, none, some (.return_)]]
theorem q_code22_ok : q_dec prog_2_method_23_code q_code22 := f_chk_ok (B := [[42, 3, 181, 0, 15, 42, 3, 181, 0, 18, 3, 60, 27, 17, 1, 244],
  [163, 0, 35, 42, 27, 182, 0, 187, 42, 180, 0, 15, 164, 0, 17, 42],
  [42, 27, 182, 0, 187, 181, 0, 15, 42, 27, 181, 0, 18, 132, 1, 1],
  [167, 255, 220, 177]]) (by decide +kernel)
def q_code23 : List (List (Option Instr)) := [[some (.iconst 0), some (.istore_n 2), some (.iconst 0), some (.istore_n 3), some (.iconst 1), some (.istore 4), none, some (.iload 4), none, some (.sipush 500), none, none, some (.if_icmp .ge 98), none, none, some (.iload 4)],
  [none, some (.iconst 1), some (.iadd), some (.istore_n 3), some (.iload_n 3), some (.sipush 500), none, none, some (.if_icmp .gt 23), none, none, some (.aload_n 0), some (.iload_n 3), some (.invokevirtual 187), none, none],
  [some (.aload_n 0), some (.iload 4), none, some (.invokevirtual 187), none, none, some (.if_icmp .ne 9), none, none, some (.iinc 3 1), none, none, some (.goto (-24)), none, none, some (.iload_n 3)],
  [some (.sipush 500), none, none, some (.if_icmp .le 7), none, none, some (.iconst 0), some (.goto 8), none, none, some (.aload_n 0), some (.iload_n 3), some (.invokevirtual 187), none, none, some (.istore 5)],
  [none, some (.aload_n 0), some (.iload 4), none, some (.invokevirtual 187), none, none, some (.aload_n 0), some (.iload 4), none, some (.iconst 1), some (.isub), some (.invokevirtual 187), none, none, some (.if_icmp .le 25)],
  [none, none, some (.aload_n 0), some (.iload 4), none, some (.invokevirtual 187), none, none, some (.iload 5), none, some (.if_icmp .le 14), none, none, some (.iload_n 2), some (.iload_n 1), some (.if_icmp .ne 6)],
  [none, none, some (.iload 4), none, some (.ireturn), some (.iinc 2 1), none, none, some (.iload_n 3), some (.istore 4), none, some (.goto (-100)), none, none, some (.iload_n 1), some (.ifCond .ge 7)],
  [none, none, some (.iload_n 2), some (.goto 5), none, none, some (.bipush (-4)), none, some (.ireturn)]]
theorem q_code23_ok : q_dec prog_2_method_24_code q_code23 := f_chk_ok (B := [[3, 61, 3, 62, 4, 54, 4, 21, 4, 17, 1, 244, 162, 0, 98, 21],
  [4, 4, 96, 62, 29, 17, 1, 244, 163, 0, 23, 42, 29, 182, 0, 187],
  [42, 21, 4, 182, 0, 187, 160, 0, 9, 132, 3, 1, 167, 255, 232, 29],
  [17, 1, 244, 164, 0, 7, 3, 167, 0, 8, 42, 29, 182, 0, 187, 54],
  [5, 42, 21, 4, 182, 0, 187, 42, 21, 4, 4, 100, 182, 0, 187, 164],
  [0, 25, 42, 21, 4, 182, 0, 187, 21, 5, 164, 0, 14, 28, 27, 160],
  [0, 6, 21, 4, 172, 132, 2, 1, 29, 54, 4, 167, 255, 156, 27, 156],
  [0, 7, 28, 167, 0, 5, 16, 252, 172]]) (by decide +kernel)
def q_code24 : List (List (Option Instr)) := [[some (.iconst 0), some (.istore_n 1), some (.iconst 1), some (.istore_n 2), some (.iload_n 2), some (.aload_n 0), some (.getfield 9), none, none, some (.if_icmp .ge 38), none, none, some (.aload_n 0), some (.getfield 59), none, none],
  [some (.sipush 4000), none, none, some (.iload_n 2), some (.iadd), some (.invokestatic 86), none, none, some (.aload_n 0), some (.getfield 59), none, none, some (.sipush 4000), none, none, some (.iload_n 1)],
  [some (.iadd), some (.invokestatic 86), none, none, some (.if_icmp .ge 5), none, none, some (.iload_n 2), some (.istore_n 1), some (.iinc 2 1), none, none, some (.goto (-40)), none, none, some (.aload_n 0)],
  [some (.getfield 44), none, none, some (.iload_n 1), some (.invokestatic 86), none, none, some (.ireturn)]]
theorem q_code24_ok : q_dec prog_2_method_25_code q_code24 := f_chk_ok (B := [[3, 60, 4, 61, 28, 42, 180, 0, 9, 162, 0, 38, 42, 180, 0, 59],
  [17, 15, 160, 28, 96, 184, 0, 86, 42, 180, 0, 59, 17, 15, 160, 27],
  [96, 184, 0, 86, 162, 0, 5, 28, 60, 132, 2, 1, 167, 255, 216, 42],
  [180, 0, 44, 27, 184, 0, 86, 172]]) (by decide +kernel)
def q_code25 : List (List (Option Instr)) := [[some (.iconst 0), some (.istore_n 1), some (.iconst 0), some (.istore_n 2), some (.iload_n 2), some (.aload_n 0), some (.getfield 21), none, none, some (.if_icmp .ge 86), none, none, some (.iconst 0), some (.istore_n 3), some (.iconst 0), some (.istore 4)],
  [none, some (.iload 4), none, some (.aload_n 0), some (.getfield 9), none, none, some (.if_icmp .ge 42), none, none, some (.iload_n 3), some (.aload_n 0), some (.getfield 41), none, none, some (.iload 4)],
  [none, some (.invokestatic 86), none, none, some (.iload_n 2), some (.if_icmp .ne 19), none, none, some (.aload_n 0), some (.getfield 59), none, none, some (.sipush 4000), none, none, some (.iload 4)],
  [none, some (.iadd), some (.invokestatic 86), none, none, some (.goto 4), none, none, some (.iconst 0), some (.iadd), some (.istore_n 3), some (.iinc 4 1), none, none, some (.goto (-45)), none],
  [none, some (.iload_n 1), some (.aload_n 0), some (.getfield 38), none, none, some (.iload_n 2), some (.invokestatic 86), none, none, some (.ifCond .eq 12), none, none, some (.iload_n 3), some (.iconst (-1)), some (.if_icmp .ge 7)],
  [none, none, some (.iconst 1), some (.goto 4), none, none, some (.iconst 0), some (.iadd), some (.istore_n 1), some (.iinc 2 1), none, none, some (.goto (-88)), none, none, some (.iload_n 1)],
  [some (.ireturn)]]
theorem q_code25_ok : q_dec prog_2_method_26_code q_code25 := f_chk_ok (B := [[3, 60, 3, 61, 28, 42, 180, 0, 21, 162, 0, 86, 3, 62, 3, 54],
  [4, 21, 4, 42, 180, 0, 9, 162, 0, 42, 29, 42, 180, 0, 41, 21],
  [4, 184, 0, 86, 28, 160, 0, 19, 42, 180, 0, 59, 17, 15, 160, 21],
  [4, 96, 184, 0, 86, 167, 0, 4, 3, 96, 62, 132, 4, 1, 167, 255],
  [211, 27, 42, 180, 0, 38, 28, 184, 0, 86, 153, 0, 12, 29, 2, 162],
  [0, 7, 4, 167, 0, 4, 3, 96, 60, 132, 2, 1, 167, 255, 168, 27],
  [172]]) (by decide +kernel)
def q_code26 : List (List (Option Instr)) := [[some (.iconst 0), some (.istore_n 2), some (.iconst 0), some (.istore_n 3), some (.iload_n 3), some (.aload_n 0), some (.getfield 9), none, none, some (.if_icmp .ge 32), none, none, some (.iload_n 2), some (.iload_n 1), some (.aload_n 0), some (.getfield 56)],
  [none, none, some (.iload_n 3), some (.bipush 6), none, some (.imul), some (.invokestatic 86), none, none, some (.if_icmp .le 7), none, none, some (.iconst 1), some (.goto 4), none, none],
  [some (.iconst 0), some (.iadd), some (.istore_n 2), some (.iinc 3 1), none, none, some (.goto (-34)), none, none, some (.iload_n 2), some (.ireturn)]]
theorem q_code26_ok : q_dec prog_2_method_27_code q_code26 := f_chk_ok (B := [[3, 61, 3, 62, 29, 42, 180, 0, 9, 162, 0, 32, 28, 27, 42, 180],
  [0, 56, 29, 16, 6, 104, 184, 0, 86, 164, 0, 7, 4, 167, 0, 4],
  [3, 96, 61, 132, 3, 1, 167, 255, 222, 28, 172]]) (by decide +kernel)
def q_code27 : List (List (Option Instr)) := [[some (.aload_n 0), some (.invokevirtual 171), none, none, some (.iconst (-1)), some (.istore_n 1), some (.iconst 0), some (.istore_n 2), some (.iconst 1), some (.aload_n 0), some (.getfield 9), none, none, some (.ishl), some (.iconst 1), some (.isub)],
  [some (.istore_n 3), some (.iconst 2), some (.istore 4), none, some (.iload 4), none, some (.iload_n 3), some (.if_icmp .gt 56), none, none, some (.aload_n 0), some (.iconst 0), some (.putfield 27), none, none, some (.aload_n 0)],
  [some (.getfield 65), none, none, some (.iconst 0), some (.invokestatic 112), none, none, some (.aload_n 0), some (.iload 4), none, some (.invokevirtual 190), none, none, some (.aload_n 0), some (.iload_n 3), some (.iload 4)],
  [none, some (.isub), some (.invokevirtual 190), none, none, some (.aload_n 0), some (.invokevirtual 184), none, none, some (.aload_n 0), some (.getfield 15), none, none, some (.iload_n 1), some (.if_icmp .le 11), none],
  [none, some (.aload_n 0), some (.getfield 15), none, none, some (.istore_n 1), some (.iload 4), none, some (.istore_n 2), some (.iinc 4 2), none, none, some (.goto (-56)), none, none, some (.aload_n 0)],
  [some (.iload_n 1), some (.putfield 15), none, none, some (.iload_n 2), some (.ireturn)]]
theorem q_code27_ok : q_dec prog_2_method_28_code q_code27 := f_chk_ok (B := [[42, 182, 0, 171, 2, 60, 3, 61, 4, 42, 180, 0, 9, 120, 4, 100],
  [62, 5, 54, 4, 21, 4, 29, 163, 0, 56, 42, 3, 181, 0, 27, 42],
  [180, 0, 65, 3, 184, 0, 112, 42, 21, 4, 182, 0, 190, 42, 29, 21],
  [4, 100, 182, 0, 190, 42, 182, 0, 184, 42, 180, 0, 15, 27, 164, 0],
  [11, 42, 180, 0, 15, 60, 21, 4, 61, 132, 4, 2, 167, 255, 200, 42],
  [27, 181, 0, 15, 28, 172]]) (by decide +kernel)
def q_code28 : List (List (Option Instr)) := [[some (.iconst 0), some (.istore_n 2), some (.iload_n 2), some (.bipush 100), none, some (.if_icmp .ge 68), none, none, some (.iconst 0), some (.istore_n 3), some (.iconst 0), some (.istore 4), none, some (.iload 4), none, some (.aload_n 0)],
  [some (.getfield 9), none, none, some (.if_icmp .ge 39), none, none, some (.iload_n 3), some (.iload_n 1), some (.iload 4), none, some (.ishr), some (.iconst 1), some (.iand), some (.ifCond .eq 20), none, none],
  [some (.aload_n 0), some (.getfield 59), none, none, some (.iload_n 2), some (.bipush 40), none, some (.imul), some (.iload 4), none, some (.iadd), some (.invokestatic 86), none, none, some (.goto 4), none],
  [none, some (.iconst 0), some (.iadd), some (.istore_n 3), some (.iinc 4 1), none, none, some (.goto (-42)), none, none, some (.aload_n 0), some (.getfield 62), none, none, some (.iload_n 2), some (.iload_n 3)],
  [some (.invokestatic 120), none, none, some (.iinc 2 1), none, none, some (.goto (-68)), none, none, some (.aload_n 0), some (.iconst 0), some (.sipush 500), none, none, some (.invokevirtual 181), none],
  [none, some (.return_)]]
theorem q_code28_ok : q_dec prog_2_method_29_code q_code28 := f_chk_ok (B := [[3, 61, 28, 16, 100, 162, 0, 68, 3, 62, 3, 54, 4, 21, 4, 42],
  [180, 0, 9, 162, 0, 39, 29, 27, 21, 4, 122, 4, 126, 153, 0, 20],
  [42, 180, 0, 59, 28, 16, 40, 104, 21, 4, 96, 184, 0, 86, 167, 0],
  [4, 3, 96, 62, 132, 4, 1, 167, 255, 214, 42, 180, 0, 62, 28, 29],
  [184, 0, 120, 132, 2, 1, 167, 255, 188, 42, 3, 17, 1, 244, 182, 0],
  [181, 177]]) (by decide +kernel)
def q_code29 : List (List (Option Instr)) := [[some (.iconst 1), some (.aload_n 0), some (.getfield 9), none, none, some (.iadd), some (.aload_n 0), some (.invokevirtual 193), none, none, some (.iadd), some (.ireturn)]]
theorem q_code29_ok : q_dec prog_2_method_30_code q_code29 := f_chk_ok (B := [[4, 42, 180, 0, 9, 96, 42, 182, 0, 193, 96, 172]]) (by decide +kernel)
def q_code30 : List (List (Option Instr)) := [[some (.iload_n 1), some (.iconst 1), some (.if_icmp .lt 43), none, none, some (.iload_n 1), some (.aload_n 0), some (.getfield 9), none, none, some (.if_icmp .gt 35), none, none, some (.aload_n 0), some (.getfield 50), none],
  [none, some (.iload_n 1), some (.iconst 1), some (.isub), some (.aload_n 0), some (.getfield 50), none, none, some (.iload_n 1), some (.iconst 1), some (.isub), some (.invokestatic 86), none, none, some (.iconst 1), some (.iadd)],
  [some (.invokestatic 120), none, none, some (.aload_n 0), some (.iload_n 1), some (.iconst 1), some (.isub), some (.invokevirtual 151), none, none, some (.goto 31), none, none, some (.iload_n 1), some (.aload_n 0), some (.getfield 9)],
  [none, none, some (.if_icmp .le 23), none, none, some (.aload_n 0), some (.getfield 38), none, none, some (.aload_n 0), some (.iload_n 1), some (.aload_n 0), some (.getfield 9), none, none, some (.isub)],
  [some (.iconst 1), some (.isub), some (.invokevirtual 197), none, none, some (.iconst 0), some (.invokestatic 120), none, none, some (.return_)]]
theorem q_code30_ok : q_dec prog_2_method_31_code q_code30 := f_chk_ok (B := [[27, 4, 161, 0, 43, 27, 42, 180, 0, 9, 163, 0, 35, 42, 180, 0],
  [50, 27, 4, 100, 42, 180, 0, 50, 27, 4, 100, 184, 0, 86, 4, 96],
  [184, 0, 120, 42, 27, 4, 100, 182, 0, 151, 167, 0, 31, 27, 42, 180],
  [0, 9, 164, 0, 23, 42, 180, 0, 38, 42, 27, 42, 180, 0, 9, 100],
  [4, 100, 182, 0, 197, 3, 184, 0, 120, 177]]) (by decide +kernel)
def q_code31 : List (List (Option Instr)) := [[some (.iload_n 1), some (.iconst 1), some (.if_icmp .lt 43), none, none, some (.iload_n 1), some (.aload_n 0), some (.getfield 9), none, none, some (.if_icmp .gt 35), none, none, some (.aload_n 0), some (.getfield 50), none],
  [none, some (.iload_n 1), some (.iconst 1), some (.isub), some (.aload_n 0), some (.getfield 50), none, none, some (.iload_n 1), some (.iconst 1), some (.isub), some (.invokestatic 86), none, none, some (.iconst 1), some (.isub)],
  [some (.invokestatic 120), none, none, some (.aload_n 0), some (.iload_n 1), some (.iconst 1), some (.isub), some (.invokevirtual 151), none, none, some (.goto 20), none, none, some (.iload_n 1), some (.aload_n 0), some (.getfield 9)],
  [none, none, some (.if_icmp .le 12), none, none, some (.aload_n 0), some (.getfield 38), none, none, some (.iload_n 2), some (.iconst 1), some (.invokestatic 120), none, none, some (.return_)]]
theorem q_code31_ok : q_dec prog_2_method_32_code q_code31 := f_chk_ok (B := [[27, 4, 161, 0, 43, 27, 42, 180, 0, 9, 163, 0, 35, 42, 180, 0],
  [50, 27, 4, 100, 42, 180, 0, 50, 27, 4, 100, 184, 0, 86, 4, 100],
  [184, 0, 120, 42, 27, 4, 100, 182, 0, 151, 167, 0, 20, 27, 42, 180],
  [0, 9, 164, 0, 12, 42, 180, 0, 38, 28, 4, 184, 0, 120, 177]]) (by decide +kernel)
def q_code32 : List (List (Option Instr)) := [[some (.iconst 0), some (.istore_n 2), some (.iconst 0), some (.istore_n 3), some (.iload_n 3), some (.aload_n 0), some (.getfield 21), none, none, some (.if_icmp .ge 30), none, none, some (.aload_n 0), some (.getfield 38), none, none],
  [some (.iload_n 3), some (.invokestatic 86), none, none, some (.ifCond .eq 13), none, none, some (.iload_n 2), some (.iload_n 1), some (.if_icmp .ne 5), none, none, some (.iload_n 3), some (.ireturn), some (.iinc 2 1), none],
  [none, some (.iinc 3 1), none, none, some (.goto (-32)), none, none, some (.iconst (-1)), some (.ireturn)]]
theorem q_code32_ok : q_dec prog_2_method_33_code q_code32 := f_chk_ok (B := [[3, 61, 3, 62, 29, 42, 180, 0, 21, 162, 0, 30, 42, 180, 0, 38],
  [29, 184, 0, 86, 153, 0, 13, 28, 27, 160, 0, 5, 29, 172, 132, 2],
  [1, 132, 3, 1, 167, 255, 224, 2, 172]]) (by decide +kernel)
def q_code33 : List (List (Option Instr)) := [[some (.aload_n 0), some (.invokespecial 3), none, none, some (.aload_n 0), some (.sipush 240), none, none, some (.newarray .int), none, some (.putfield 9), none, none, some (.aload_n 0), some (.sipush 240), none],
  [none, some (.newarray .int), none, some (.putfield 15), none, none, some (.aload_n 0), some (.sipush 160), none, none, some (.newarray .int), none, some (.putfield 18), none, none, some (.aload_n 0)],
  [some (.bipush 40), none, some (.newarray .int), none, some (.putfield 21), none, none, some (.aload_n 0), some (.bipush 40), none, some (.newarray .int), none, some (.putfield 24), none, none, some (.aload_n 0)],
  [some (.bipush 40), none, some (.newarray .int), none, some (.putfield 27), none, none, some (.return_)]]
theorem q_code33_ok : q_dec prog_3_method_1_code q_code33 := f_chk_ok (B := [[42, 183, 0, 3, 42, 17, 0, 240, 188, 10, 181, 0, 9, 42, 17, 0],
  [240, 188, 10, 181, 0, 15, 42, 17, 0, 160, 188, 10, 181, 0, 18, 42],
  [16, 40, 188, 10, 181, 0, 21, 42, 16, 40, 188, 10, 181, 0, 24, 42],
  [16, 40, 188, 10, 181, 0, 27, 177]]) (by decide +kernel)
def q_code34 : List (List (Option Instr)) := [[some (.aload_n 1), some (.getfield 9), none, none, some (.aload_n 0), some (.getfield 9), none, none, some (.invokestatic 30), none, none, some (.aload_n 1), some (.getfield 15), none, none, some (.aload_n 0)],
  [some (.getfield 15), none, none, some (.invokestatic 30), none, none, some (.aload_n 1), some (.getfield 18), none, none, some (.aload_n 0), some (.getfield 18), none, none, some (.invokestatic 30), none],
  [none, some (.aload_n 1), some (.getfield 21), none, none, some (.aload_n 0), some (.getfield 21), none, none, some (.invokestatic 30), none, none, some (.aload_n 1), some (.getfield 24), none, none],
  [some (.aload_n 0), some (.getfield 24), none, none, some (.invokestatic 30), none, none, some (.aload_n 1), some (.getfield 27), none, none, some (.aload_n 0), some (.getfield 27), none, none, some (.invokestatic 30)],
  [none, none, some (.return_)]]
theorem q_code34_ok : q_dec prog_3_method_2_code q_code34 := f_chk_ok (B := [[43, 180, 0, 9, 42, 180, 0, 9, 184, 0, 30, 43, 180, 0, 15, 42],
  [180, 0, 15, 184, 0, 30, 43, 180, 0, 18, 42, 180, 0, 18, 184, 0],
  [30, 43, 180, 0, 21, 42, 180, 0, 21, 184, 0, 30, 43, 180, 0, 24],
  [42, 180, 0, 24, 184, 0, 30, 43, 180, 0, 27, 42, 180, 0, 27, 184],
  [0, 30, 177]]) (by decide +kernel)
def q_code35 : List (List (Option Instr)) := [[some (.iconst 0), some (.istore_n 2), some (.iload_n 2), some (.iconst 4), some (.if_icmp .ge 31), none, none, some (.aload_n 0), some (.getfield 18), none, none, some (.iload_n 1), some (.iconst 4), some (.imul), some (.iload_n 2), some (.iadd)],
  [some (.iload_n 2), some (.ifCond .ne 8), none, none, some (.bipush 100), none, some (.goto 4), none, none, some (.iconst 0), some (.invokestatic 34), none, none, some (.iinc 2 1), none, none],
  [some (.goto (-30)), none, none, some (.aload_n 0), some (.getfield 21), none, none, some (.iload_n 1), some (.iconst 0), some (.invokestatic 34), none, none, some (.aload_n 0), some (.getfield 24), none, none],
  [some (.iload_n 1), some (.iconst (-1)), some (.invokestatic 34), none, none, some (.aload_n 0), some (.getfield 27), none, none, some (.iload_n 1), some (.iconst (-1)), some (.invokestatic 34), none, none, some (.return_)]]
theorem q_code35_ok : q_dec prog_3_method_3_code q_code35 := f_chk_ok (B := [[3, 61, 28, 7, 162, 0, 31, 42, 180, 0, 18, 27, 7, 104, 28, 96],
  [28, 154, 0, 8, 16, 100, 167, 0, 4, 3, 184, 0, 34, 132, 2, 1],
  [167, 255, 226, 42, 180, 0, 21, 27, 3, 184, 0, 34, 42, 180, 0, 24],
  [27, 2, 184, 0, 34, 42, 180, 0, 27, 27, 2, 184, 0, 34, 177]]) (by decide +kernel)
def q_code36 : List (List (Option Instr)) := [[some (.iload_n 1), some (.bipush 6), none, some (.imul), some (.istore_n 3), some (.iload_n 3), some (.iload_n 2), some (.iadd), some (.iconst 1), some (.isub), some (.istore 4), none, some (.aload_n 0), some (.getfield 9), none, none],
  [some (.iload_n 3), some (.invokestatic 38), none, none, some (.ifCond .ne 40), none, none, some (.aload_n 0), some (.getfield 9), none, none, some (.iload 4), none, some (.invokestatic 38), none, none],
  [some (.bipush 60), none, some (.if_icmp .gt 26), none, none, some (.aload_n 0), some (.getfield 15), none, none, some (.iload_n 3), some (.invokestatic 38), none, none, some (.ifCond .eq 15), none, none],
  [some (.aload_n 0), some (.getfield 15), none, none, some (.iload 4), none, some (.invokestatic 38), none, none, some (.ifCond .eq 5), none, none, some (.iconst 0), some (.ireturn), some (.iload_n 3), some (.iconst 1)],
  [some (.iadd), some (.istore 5), none, some (.iload 5), none, some (.iload 4), none, some (.if_icmp .gt 57), none, none, some (.aload_n 0), some (.getfield 9), none, none, some (.iload 5), none],
  [some (.invokestatic 38), none, none, some (.aload_n 0), some (.getfield 9), none, none, some (.iload 5), none, some (.iconst 1), some (.isub), some (.invokestatic 38), none, none, some (.if_icmp .le 26), none],
  [none, some (.aload_n 0), some (.getfield 15), none, none, some (.iload 5), none, some (.invokestatic 38), none, none, some (.aload_n 0), some (.getfield 15), none, none, some (.iload 5), none],
  [some (.iconst 1), some (.isub), some (.invokestatic 38), none, none, some (.if_icmp .lt 5), none, none, some (.iconst 0), some (.ireturn), some (.iinc 5 1), none, none, some (.goto (-58)), none, none],
  [some (.iconst 1), some (.ireturn)]]
theorem q_code36_ok : q_dec prog_3_method_4_code q_code36 := f_chk_ok (B := [[27, 16, 6, 104, 62, 29, 28, 96, 4, 100, 54, 4, 42, 180, 0, 9],
  [29, 184, 0, 38, 154, 0, 40, 42, 180, 0, 9, 21, 4, 184, 0, 38],
  [16, 60, 163, 0, 26, 42, 180, 0, 15, 29, 184, 0, 38, 153, 0, 15],
  [42, 180, 0, 15, 21, 4, 184, 0, 38, 153, 0, 5, 3, 172, 29, 4],
  [96, 54, 5, 21, 5, 21, 4, 163, 0, 57, 42, 180, 0, 9, 21, 5],
  [184, 0, 38, 42, 180, 0, 9, 21, 5, 4, 100, 184, 0, 38, 164, 0],
  [26, 42, 180, 0, 15, 21, 5, 184, 0, 38, 42, 180, 0, 15, 21, 5],
  [4, 100, 184, 0, 38, 161, 0, 5, 3, 172, 132, 5, 1, 167, 255, 198],
  [4, 172]]) (by decide +kernel)
def q_code37 : List (List (Option Instr)) := [[some (.aload_n 0), some (.getfield 9), none, none, some (.iload_n 1), some (.bipush 6), none, some (.imul), some (.iload_n 2), some (.iadd), some (.iconst 1), some (.isub), some (.invokestatic 38), none, none, some (.ireturn)]]
theorem q_code37_ok : q_dec prog_3_method_5_code q_code37 := f_chk_ok (B := [[42, 180, 0, 9, 27, 16, 6, 104, 28, 96, 4, 100, 184, 0, 38, 172]]) (by decide +kernel)
def q_code38 : List (List (Option Instr)) := [[some (.aload_n 0), some (.getfield 24), none, none, some (.iload_n 1), some (.invokestatic 38), none, none, some (.istore_n 3), some (.aload_n 0), some (.getfield 27), none, none, some (.iload_n 1), some (.invokestatic 38), none],
  [none, some (.istore 4), none, some (.iload_n 3), some (.ifCond .lt 8), none, none, some (.iload 4), none, some (.ifCond .ge 6), none, none, some (.bipush 100), none, some (.ireturn), some (.iconst 0)],
  [some (.istore 5), none, some (.iconst 0), some (.istore 6), none, some (.iload_n 3), some (.bipush 100), none, some (.idiv), some (.istore 7), none, some (.iload 7), none, some (.iload 4), none, some (.bipush 100)],
  [none, some (.idiv), some (.if_icmp .gt 59), none, none, some (.iload_n 3), some (.bipush 100), none, some (.irem), some (.istore 8), none, some (.iload 8), none, some (.iload 4), none, some (.bipush 100)],
  [none, some (.irem), some (.if_icmp .gt 37), none, none, some (.iinc 5 1), none, none, some (.iload 6), none, some (.aload_n 2), some (.iload 8), none, some (.bipush 20), none, some (.imul)],
  [some (.iload 7), none, some (.iadd), some (.invokestatic 38), none, none, some (.ifCond .ne 7), none, none, some (.iconst 1), some (.goto 4), none, none, some (.iconst 0), some (.iadd), some (.istore 6)],
  [none, some (.iinc 8 1), none, none, some (.goto (-41)), none, none, some (.iinc 7 1), none, none, some (.goto (-63)), none, none, some (.iload 5), none, some (.ifCond .ne 8)],
  [none, none, some (.bipush 100), none, some (.goto 11), none, none, some (.iload 6), none, some (.bipush 100), none, some (.imul), some (.iload 5), none, some (.idiv), some (.ireturn)]]
theorem q_code38_ok : q_dec prog_3_method_6_code q_code38 := f_chk_ok (B := [[42, 180, 0, 24, 27, 184, 0, 38, 62, 42, 180, 0, 27, 27, 184, 0],
  [38, 54, 4, 29, 155, 0, 8, 21, 4, 156, 0, 6, 16, 100, 172, 3],
  [54, 5, 3, 54, 6, 29, 16, 100, 108, 54, 7, 21, 7, 21, 4, 16],
  [100, 108, 163, 0, 59, 29, 16, 100, 112, 54, 8, 21, 8, 21, 4, 16],
  [100, 112, 163, 0, 37, 132, 5, 1, 21, 6, 44, 21, 8, 16, 20, 104],
  [21, 7, 96, 184, 0, 38, 154, 0, 7, 4, 167, 0, 4, 3, 96, 54],
  [6, 132, 8, 1, 167, 255, 215, 132, 7, 1, 167, 255, 193, 21, 5, 154],
  [0, 8, 16, 100, 167, 0, 11, 21, 6, 16, 100, 104, 21, 5, 108, 172]]) (by decide +kernel)
def q_code39 : List (List (Option Instr)) := [[some (.iconst 0), some (.istore_n 2), some (.iconst 0), some (.istore_n 3), some (.iload_n 3), some (.aload_n 1), some (.getfield 42), none, none, some (.if_icmp .ge 34), none, none, some (.aload_n 1), some (.getfield 48), none, none],
  [some (.iload_n 3), some (.invokestatic 38), none, none, some (.ifCond .ne 17), none, none, some (.aload_n 0), some (.getfield 21), none, none, some (.iload_n 3), some (.invokestatic 38), none, none, some (.ifCond .eq 6)],
  [none, none, some (.iinc 2 1), none, none, some (.iinc 3 1), none, none, some (.goto (-36)), none, none, some (.iload_n 2), some (.ireturn)]]
theorem q_code39_ok : q_dec prog_3_method_7_code q_code39 := f_chk_ok (B := [[3, 61, 3, 62, 29, 43, 180, 0, 42, 162, 0, 34, 43, 180, 0, 48],
  [29, 184, 0, 38, 154, 0, 17, 42, 180, 0, 21, 29, 184, 0, 38, 153],
  [0, 6, 132, 2, 1, 132, 3, 1, 167, 255, 220, 28, 172]]) (by decide +kernel)
def q_code40 : List (List (Option Instr)) := [[some (.aload_n 0), some (.invokespecial 3), none, none, some (.aload_n 0), some (.iconst 0), some (.putfield 9), none, none, some (.aload_n 0), some (.bipush 81), none, some (.newarray .int), none, some (.putfield 15), none],
  [none, some (.aload_n 0), some (.sipush 9801), none, none, some (.newarray .int), none, some (.putfield 19), none, none, some (.aload_n 0), some (.sipush 600), none, none, some (.newarray .int), none],
  [some (.putfield 22), none, none, some (.return_)]]
theorem q_code40_ok : q_dec prog_4_method_1_code q_code40 := f_chk_ok (B := [[42, 183, 0, 3, 42, 3, 181, 0, 9, 42, 16, 81, 188, 10, 181, 0],
  [15, 42, 17, 38, 73, 188, 10, 181, 0, 19, 42, 17, 2, 88, 188, 10],
  [181, 0, 22, 177]]) (by decide +kernel)
def q_code41 : List (List (Option Instr)) := [[some (.aload_n 0), some (.iconst 0), some (.putfield 9), none, none, some (.aload_n 1), some (.invokevirtual 25), none, none, some (.istore_n 3), some (.iconst 0), some (.istore 4), none, some (.iload 4), none, some (.iload_n 3)],
  [some (.if_icmp .ge 61), none, none, some (.aload_n 1), some (.iload 4), none, some (.aload_n 1), some (.getfield 31), none, none, some (.isub), some (.iconst 1), some (.isub), some (.invokevirtual 34), none, none],
  [some (.istore 5), none, some (.aload_n 1), some (.iload 4), none, some (.invokevirtual 38), none, none, some (.aload_n 1), some (.bipush (-128)), none, some (.bipush 127), none, some (.invokevirtual 42), none, none],
  [some (.aload_n 1), some (.aload_n 2), some (.invokestatic 46), none, none, some (.ifCond .eq 10), none, none, some (.aload_n 0), some (.aload_n 1), some (.iload 4), none, some (.invokevirtual 50), none, none, some (.aload_n 1)],
  [some (.iload 4), none, some (.iload 5), none, some (.invokevirtual 54), none, none, some (.iinc 4 1), none, none, some (.goto (-61)), none, none, some (.return_)]]
theorem q_code41_ok : q_dec prog_4_method_2_code q_code41 := f_chk_ok (B := [[42, 3, 181, 0, 9, 43, 182, 0, 25, 62, 3, 54, 4, 21, 4, 29],
  [162, 0, 61, 43, 21, 4, 43, 180, 0, 31, 100, 4, 100, 182, 0, 34],
  [54, 5, 43, 21, 4, 182, 0, 38, 43, 16, 128, 16, 127, 182, 0, 42],
  [43, 44, 184, 0, 46, 153, 0, 10, 42, 43, 21, 4, 182, 0, 50, 43],
  [21, 4, 21, 5, 182, 0, 54, 132, 4, 1, 167, 255, 195, 177]]) (by decide +kernel)
def q_code42 : List (List (Option Instr)) := [[some (.iconst 0), some (.istore_n 2), some (.iload_n 2), some (.iconst 1), some (.iadd), some (.aload_n 1), some (.getfield 57), none, none, some (.if_icmp .ge 36), none, none, some (.aload_n 0), some (.aload_n 1), some (.getfield 62), none],
  [none, some (.iload_n 2), some (.invokestatic 65), none, none, some (.invokevirtual 69), none, none, some (.aload_n 1), some (.getfield 62), none, none, some (.iload_n 2), some (.iconst 1), some (.iadd), some (.invokestatic 65)],
  [none, none, some (.if_icmp .eq 5), none, none, some (.iconst 0), some (.ireturn), some (.iinc 2 2), none, none, some (.goto (-40)), none, none, some (.iconst 1), some (.ireturn)]]
theorem q_code42_ok : q_dec prog_4_method_3_code q_code42 := f_chk_ok (B := [[3, 61, 28, 4, 96, 43, 180, 0, 57, 162, 0, 36, 42, 43, 180, 0],
  [62, 28, 184, 0, 65, 182, 0, 69, 43, 180, 0, 62, 28, 4, 96, 184],
  [0, 65, 159, 0, 5, 3, 172, 132, 2, 2, 167, 255, 216, 4, 172]]) (by decide +kernel)
def q_code43 : List (List (Option Instr)) := [[some (.aload_n 0), some (.getfield 15), none, none, some (.aload_n 0), some (.getfield 9), none, none, some (.iload_n 2), some (.invokestatic 72), none, none, some (.iconst 0), some (.istore_n 3), some (.iload_n 3), some (.bipush 121)],
  [none, some (.if_icmp .ge 30), none, none, some (.aload_n 0), some (.getfield 19), none, none, some (.aload_n 0), some (.getfield 9), none, none, some (.bipush 121), none, some (.imul), some (.iload_n 3)],
  [some (.iadd), some (.aload_n 1), some (.iload_n 3), some (.invokevirtual 69), none, none, some (.invokestatic 72), none, none, some (.iinc 3 1), none, none, some (.goto (-30)), none, none, some (.aload_n 0)],
  [some (.dup), some (.getfield 9), none, none, some (.iconst 1), some (.iadd), some (.putfield 9), none, none, some (.return_)]]
theorem q_code43_ok : q_dec prog_4_method_4_code q_code43 := f_chk_ok (B := [[42, 180, 0, 15, 42, 180, 0, 9, 28, 184, 0, 72, 3, 62, 29, 16],
  [121, 162, 0, 30, 42, 180, 0, 19, 42, 180, 0, 9, 16, 121, 104, 29],
  [96, 43, 29, 182, 0, 69, 184, 0, 72, 132, 3, 1, 167, 255, 226, 42],
  [89, 180, 0, 9, 4, 96, 181, 0, 9, 177]]) (by decide +kernel)
def q_code44 : List (List (Option Instr)) := [[some (.iload_n 1), some (.ifCond .ge 10), none, none, some (.aload_n 0), some (.getfield 9), none, none, some (.goto 24), none, none, some (.iload_n 1), some (.aload_n 0), some (.getfield 9), none, none],
  [some (.if_icmp .ge 14), none, none, some (.aload_n 0), some (.getfield 15), none, none, some (.iload_n 1), some (.invokestatic 65), none, none, some (.goto 5), none, none, some (.bipush (-4)), none],
  [some (.ireturn)]]
theorem q_code44_ok : q_dec prog_4_method_5_code q_code44 := f_chk_ok (B := [[27, 156, 0, 10, 42, 180, 0, 9, 167, 0, 24, 27, 42, 180, 0, 9],
  [162, 0, 14, 42, 180, 0, 15, 27, 184, 0, 65, 167, 0, 5, 16, 252],
  [172]]) (by decide +kernel)
def q_code45 : List (List (Option Instr)) := [[some (.aload_n 0), some (.getfield 9), none, none, some (.ifCond .ne 6), none, none, some (.bipush (-4)), none, some (.ireturn), some (.iconst 0), some (.istore_n 1), some (.aload_n 0), some (.getfield 9), none, none],
  [some (.iconst 1), some (.iadd), some (.istore_n 2), some (.iconst 0), some (.istore_n 3), some (.iload_n 3), some (.bipush 121), none, some (.if_icmp .ge 27), none, none, some (.aload_n 0), some (.iload_n 3), some (.invokevirtual 76), none, none],
  [some (.istore 4), none, some (.iload 4), none, some (.iload_n 2), some (.if_icmp .ge 8), none, none, some (.iload 4), none, some (.istore_n 2), some (.iload_n 3), some (.istore_n 1), some (.iinc 3 1), none, none],
  [some (.goto (-27)), none, none, some (.iload_n 1), some (.ireturn)]]
theorem q_code45_ok : q_dec prog_4_method_6_code q_code45 := f_chk_ok (B := [[42, 180, 0, 9, 154, 0, 6, 16, 252, 172, 3, 60, 42, 180, 0, 9],
  [4, 96, 61, 3, 62, 29, 16, 121, 162, 0, 27, 42, 29, 182, 0, 76],
  [54, 4, 21, 4, 28, 162, 0, 8, 21, 4, 61, 29, 60, 132, 3, 1],
  [167, 255, 229, 27, 172]]) (by decide +kernel)
def q_code46 : List (List (Option Instr)) := [[some (.aload_n 0), some (.getfield 22), none, none, some (.iconst 0), some (.invokestatic 79), none, none, some (.iconst 0), some (.istore_n 2), some (.iconst 0), some (.istore_n 3), some (.iload_n 3), some (.aload_n 0), some (.getfield 9), none],
  [none, some (.if_icmp .ge 58), none, none, some (.aload_n 0), some (.getfield 19), none, none, some (.iload_n 3), some (.bipush 121), none, some (.imul), some (.iload_n 1), some (.iadd), some (.invokestatic 65), none],
  [none, some (.istore 4), none, some (.aload_n 0), some (.getfield 22), none, none, some (.iload 4), none, some (.aload_n 0), some (.getfield 22), none, none, some (.iload 4), none, some (.invokestatic 65)],
  [none, none, some (.iconst 1), some (.iadd), some (.invokestatic 72), none, none, some (.iload_n 2), some (.aload_n 0), some (.getfield 22), none, none, some (.iload 4), none, some (.invokestatic 65), none],
  [none, some (.invokestatic 85), none, none, some (.istore_n 2), some (.iinc 3 1), none, none, some (.goto (-60)), none, none, some (.iload_n 2), some (.ireturn)]]
theorem q_code46_ok : q_dec prog_4_method_7_code q_code46 := f_chk_ok (B := [[42, 180, 0, 22, 3, 184, 0, 79, 3, 61, 3, 62, 29, 42, 180, 0],
  [9, 162, 0, 58, 42, 180, 0, 19, 29, 16, 121, 104, 27, 96, 184, 0],
  [65, 54, 4, 42, 180, 0, 22, 21, 4, 42, 180, 0, 22, 21, 4, 184],
  [0, 65, 4, 96, 184, 0, 72, 28, 42, 180, 0, 22, 21, 4, 184, 0],
  [65, 184, 0, 85, 61, 132, 3, 1, 167, 255, 196, 28, 172]]) (by decide +kernel)
def q_code47 : List (List (Option Instr)) := [[some (.aload_n 0), some (.invokespecial 3), none, none, some (.aload_n 0), some (.new 9), none, none, some (.dup), some (.invokespecial 11), none, none, some (.putfield 12), none, none, some (.aload_n 0)],
  [some (.new 18), none, none, some (.dup), some (.invokespecial 20), none, none, some (.putfield 21), none, none, some (.aload_n 0), some (.bipush 40), none, some (.anewarray 25), none, none],
  [some (.putfield 27), none, none, some (.aload_n 0), some (.new 31), none, none, some (.dup), some (.invokespecial 33), none, none, some (.putfield 34), none, none, some (.aload_n 0), some (.new 38)],
  [none, none, some (.dup), some (.invokespecial 40), none, none, some (.putfield 41), none, none, some (.iconst 0), some (.istore_n 1), some (.iload_n 1), some (.bipush 40), none, some (.if_icmp .ge 22), none],
  [none, some (.aload_n 0), some (.getfield 27), none, none, some (.iload_n 1), some (.new 25), none, none, some (.dup), some (.invokespecial 45), none, none, some (.aastore), some (.iinc 1 1), none],
  [none, some (.goto (-22)), none, none, some (.return_)]]
theorem q_code47_ok : q_dec prog_5_method_1_code q_code47 := f_chk_ok (B := [[42, 183, 0, 3, 42, 187, 0, 9, 89, 183, 0, 11, 181, 0, 12, 42],
  [187, 0, 18, 89, 183, 0, 20, 181, 0, 21, 42, 16, 40, 189, 0, 25],
  [181, 0, 27, 42, 187, 0, 31, 89, 183, 0, 33, 181, 0, 34, 42, 187],
  [0, 38, 89, 183, 0, 40, 181, 0, 41, 3, 60, 27, 16, 40, 162, 0],
  [22, 42, 180, 0, 27, 27, 187, 0, 25, 89, 183, 0, 45, 83, 132, 1],
  [1, 167, 255, 234, 177]]) (by decide +kernel)
def q_code48 : List (List (Option Instr)) := [[some (.aload_n 0), some (.getfield 12), none, none, some (.aload_n 1), some (.getfield 12), none, none, some (.invokevirtual 46), none, none, some (.aload_n 0), some (.getfield 21), none, none, some (.aload_n 1)],
  [some (.getfield 21), none, none, some (.invokevirtual 50), none, none, some (.iconst 0), some (.istore_n 2), some (.iload_n 2), some (.aload_n 0), some (.getfield 27), none, none, some (.arraylength), some (.if_icmp .ge 48), none],
  [none, some (.iload_n 2), some (.aload_n 1), some (.getfield 27), none, none, some (.arraylength), some (.if_icmp .ge 39), none, none, some (.aload_n 0), some (.getfield 27), none, none, some (.iload_n 2), some (.aaload)],
  [some (.astore_n 3), some (.aload_n 1), some (.getfield 27), none, none, some (.iload_n 2), some (.aaload), some (.astore 4), none, some (.aload_n 3), some (.ifnull 14), none, none, some (.aload 4), none, some (.ifnull 9)],
  [none, none, some (.aload_n 3), some (.aload 4), none, some (.invokevirtual 53), none, none, some (.iinc 2 1), none, none, some (.goto (-51)), none, none, some (.aload_n 0), some (.getfield 34)],
  [none, none, some (.aload_n 1), some (.getfield 34), none, none, some (.invokevirtual 56), none, none, some (.aload_n 0), some (.getfield 41), none, none, some (.aload_n 1), some (.getfield 41), none],
  [none, some (.invokevirtual 59), none, none, some (.return_)]]
theorem q_code48_ok : q_dec prog_5_method_2_code q_code48 := f_chk_ok (B := [[42, 180, 0, 12, 43, 180, 0, 12, 182, 0, 46, 42, 180, 0, 21, 43],
  [180, 0, 21, 182, 0, 50, 3, 61, 28, 42, 180, 0, 27, 190, 162, 0],
  [48, 28, 43, 180, 0, 27, 190, 162, 0, 39, 42, 180, 0, 27, 28, 50],
  [78, 43, 180, 0, 27, 28, 50, 58, 4, 45, 198, 0, 14, 25, 4, 198],
  [0, 9, 45, 25, 4, 182, 0, 53, 132, 2, 1, 167, 255, 205, 42, 180],
  [0, 34, 43, 180, 0, 34, 182, 0, 56, 42, 180, 0, 41, 43, 180, 0],
  [41, 182, 0, 59, 177]]) (by decide +kernel)
def q_code49 : List (List (Option Instr)) := [[some (.aload_n 0), some (.getfield 12), none, none, some (.iload_n 1), some (.iload_n 2), some (.invokevirtual 62), none, none, some (.istore_n 3), some (.aload_n 0), some (.getfield 21), none, none, some (.iload_n 3), some (.invokevirtual 66)],
  [none, none, some (.iload_n 3), some (.ifCond .lt 32), none, none, some (.iload_n 3), some (.aload_n 0), some (.getfield 27), none, none, some (.arraylength), some (.if_icmp .ge 23), none, none, some (.aload_n 0)],
  [some (.getfield 27), none, none, some (.iload_n 3), some (.aaload), some (.ifnull 14), none, none, some (.aload_n 0), some (.getfield 27), none, none, some (.iload_n 3), some (.aaload), some (.iconst 0), some (.iconst 5)],
  [some (.invokevirtual 69), none, none, some (.iload_n 3), some (.ireturn)]]
theorem q_code49_ok : q_dec prog_5_method_3_code q_code49 := f_chk_ok (B := [[42, 180, 0, 12, 27, 28, 182, 0, 62, 62, 42, 180, 0, 21, 29, 182],
  [0, 66, 29, 155, 0, 32, 29, 42, 180, 0, 27, 190, 162, 0, 23, 42],
  [180, 0, 27, 29, 50, 198, 0, 14, 42, 180, 0, 27, 29, 50, 3, 8],
  [182, 0, 69, 29, 172]]) (by decide +kernel)
def q_code50 : List (List (Option Instr)) := [[some (.aload_n 0), some (.invokespecial 3), none, none, some (.aload_n 0), some (.iconst 0), some (.putfield 9), none, none, some (.aload_n 0), some (.bipush 40), none, some (.newarray .int), none, some (.putfield 15), none],
  [none, some (.aload_n 0), some (.bipush 40), none, some (.newarray .int), none, some (.putfield 19), none, none, some (.aload_n 0), some (.bipush 40), none, some (.newarray .int), none, some (.putfield 22), none],
  [none, some (.aload_n 0), some (.bipush 40), none, some (.newarray .int), none, some (.putfield 25), none, none, some (.aload_n 0), some (.sipush 320), none, none, some (.newarray .int), none, some (.putfield 28)],
  [none, none, some (.aload_n 0), some (.sipush 320), none, none, some (.newarray .int), none, some (.putfield 31), none, none, some (.aload_n 0), some (.sipush 320), none, none, some (.newarray .int)],
  [none, some (.putfield 34), none, none, some (.return_)]]
theorem q_code50_ok : q_dec prog_6_method_1_code q_code50 := f_chk_ok (B := [[42, 183, 0, 3, 42, 3, 181, 0, 9, 42, 16, 40, 188, 10, 181, 0],
  [15, 42, 16, 40, 188, 10, 181, 0, 19, 42, 16, 40, 188, 10, 181, 0],
  [22, 42, 16, 40, 188, 10, 181, 0, 25, 42, 17, 1, 64, 188, 10, 181],
  [0, 28, 42, 17, 1, 64, 188, 10, 181, 0, 31, 42, 17, 1, 64, 188],
  [10, 181, 0, 34, 177]]) (by decide +kernel)
def q_code51 : List (List (Option Instr)) := [[some (.aload_n 0), some (.aload_n 1), some (.getfield 9), none, none, some (.putfield 9), none, none, some (.aload_n 1), some (.getfield 15), none, none, some (.aload_n 0), some (.getfield 15), none, none],
  [some (.invokestatic 37), none, none, some (.aload_n 1), some (.getfield 19), none, none, some (.aload_n 0), some (.getfield 19), none, none, some (.invokestatic 37), none, none, some (.aload_n 1), some (.getfield 22)],
  [none, none, some (.aload_n 0), some (.getfield 22), none, none, some (.invokestatic 37), none, none, some (.aload_n 1), some (.getfield 25), none, none, some (.aload_n 0), some (.getfield 25), none],
  [none, some (.invokestatic 37), none, none, some (.aload_n 1), some (.getfield 28), none, none, some (.aload_n 0), some (.getfield 28), none, none, some (.invokestatic 37), none, none, some (.aload_n 1)],
  [some (.getfield 31), none, none, some (.aload_n 0), some (.getfield 31), none, none, some (.invokestatic 37), none, none, some (.aload_n 1), some (.getfield 34), none, none, some (.aload_n 0), some (.getfield 34)],
  [none, none, some (.invokestatic 37), none, none, some (.return_)]]
theorem q_code51_ok : q_dec prog_6_method_2_code q_code51 := f_chk_ok (B := [[42, 43, 180, 0, 9, 181, 0, 9, 43, 180, 0, 15, 42, 180, 0, 15],
  [184, 0, 37, 43, 180, 0, 19, 42, 180, 0, 19, 184, 0, 37, 43, 180],
  [0, 22, 42, 180, 0, 22, 184, 0, 37, 43, 180, 0, 25, 42, 180, 0],
  [25, 184, 0, 37, 43, 180, 0, 28, 42, 180, 0, 28, 184, 0, 37, 43],
  [180, 0, 31, 42, 180, 0, 31, 184, 0, 37, 43, 180, 0, 34, 42, 180],
  [0, 34, 184, 0, 37, 177]]) (by decide +kernel)
def q_code52 : List (List (Option Instr)) := [[some (.aload_n 0), some (.getfield 9), none, none, some (.istore_n 3), some (.aload_n 0), some (.getfield 15), none, none, some (.iload_n 3), some (.iload_n 1), some (.invokestatic 41), none, none, some (.aload_n 0), some (.getfield 19)],
  [none, none, some (.iload_n 3), some (.iload_n 2), some (.invokestatic 41), none, none, some (.aload_n 0), some (.getfield 22), none, none, some (.iload_n 3), some (.iconst (-1)), some (.invokestatic 41), none, none],
  [some (.aload_n 0), some (.getfield 25), none, none, some (.iload_n 3), some (.iconst 0), some (.invokestatic 41), none, none, some (.aload_n 0), some (.dup), some (.getfield 9), none, none, some (.iconst 1), some (.iadd)],
  [some (.putfield 9), none, none, some (.iload_n 3), some (.ireturn)]]
theorem q_code52_ok : q_dec prog_6_method_3_code q_code52 := f_chk_ok (B := [[42, 180, 0, 9, 62, 42, 180, 0, 15, 29, 27, 184, 0, 41, 42, 180],
  [0, 19, 29, 28, 184, 0, 41, 42, 180, 0, 22, 29, 2, 184, 0, 41],
  [42, 180, 0, 25, 29, 3, 184, 0, 41, 42, 89, 180, 0, 9, 4, 96],
  [181, 0, 9, 29, 172]]) (by decide +kernel)
def q_code53 : List (List (Option Instr)) := [[some (.iload_n 2), some (.ifCond .lt 23), none, none, some (.iload_n 2), some (.iload_n 1), some (.if_icmp .ge 18), none, none, some (.aload_n 0), some (.getfield 22), none, none, some (.iload_n 2), some (.invokestatic 45), none],
  [none, some (.ifCond .ge 7), none, none, some (.iconst 1), some (.goto 4), none, none, some (.iconst 0), some (.istore 5), none, some (.iload 5), none, some (.ifCond .eq 25), none, none],
  [some (.aload_n 0), some (.getfield 15), none, none, some (.iload_n 1), some (.invokestatic 45), none, none, some (.aload_n 0), some (.getfield 15), none, none, some (.iload_n 2), some (.invokestatic 45), none, none],
  [some (.invokestatic 49), none, none, some (.ifCond .ne 5), none, none, some (.iconst 0), some (.ireturn), some (.iload_n 1), some (.bipush 8), none, some (.imul), some (.aload_n 0), some (.getfield 25), none, none],
  [some (.iload_n 1), some (.invokestatic 45), none, none, some (.iadd), some (.istore 6), none, some (.aload_n 0), some (.getfield 28), none, none, some (.iload 6), none, some (.iload_n 2), some (.invokestatic 41), none],
  [none, some (.aload_n 0), some (.getfield 31), none, none, some (.iload 6), none, some (.iload_n 3), some (.invokestatic 41), none, none, some (.aload_n 0), some (.getfield 34), none, none, some (.iload 6)],
  [none, some (.iload 4), none, some (.invokestatic 41), none, none, some (.aload_n 0), some (.getfield 25), none, none, some (.iload_n 1), some (.aload_n 0), some (.getfield 25), none, none, some (.iload_n 1)],
  [some (.invokestatic 45), none, none, some (.iconst 1), some (.iadd), some (.invokestatic 41), none, none, some (.aload_n 0), some (.getfield 22), none, none, some (.iload_n 2), some (.iload_n 1), some (.invokestatic 41), none],
  [none, some (.iconst 1), some (.ireturn)]]
theorem q_code53_ok : q_dec prog_6_method_4_code q_code53 := f_chk_ok (B := [[28, 155, 0, 23, 28, 27, 162, 0, 18, 42, 180, 0, 22, 28, 184, 0],
  [45, 156, 0, 7, 4, 167, 0, 4, 3, 54, 5, 21, 5, 153, 0, 25],
  [42, 180, 0, 15, 27, 184, 0, 45, 42, 180, 0, 15, 28, 184, 0, 45],
  [184, 0, 49, 154, 0, 5, 3, 172, 27, 16, 8, 104, 42, 180, 0, 25],
  [27, 184, 0, 45, 96, 54, 6, 42, 180, 0, 28, 21, 6, 28, 184, 0],
  [41, 42, 180, 0, 31, 21, 6, 29, 184, 0, 41, 42, 180, 0, 34, 21],
  [6, 21, 4, 184, 0, 41, 42, 180, 0, 25, 27, 42, 180, 0, 25, 27],
  [184, 0, 45, 4, 96, 184, 0, 41, 42, 180, 0, 22, 28, 27, 184, 0],
  [41, 4, 172]]) (by decide +kernel)
def q_code54 : List (List (Option Instr)) := [[some (.iload_n 0), some (.iconst 1), some (.if_icmp .ne 7), none, none, some (.iload_n 1), some (.ifCond .eq 27), none, none, some (.iload_n 0), some (.iconst 2), some (.if_icmp .ne 12), none, none, some (.iload_n 1), some (.ifCond .eq 18)],
  [none, none, some (.iload_n 1), some (.iconst 1), some (.if_icmp .eq 13), none, none, some (.iload_n 0), some (.iconst 3), some (.if_icmp .ne 12), none, none, some (.iload_n 1), some (.iconst 3), some (.if_icmp .eq 7), none],
  [none, some (.iconst 1), some (.goto 4), none, none, some (.iconst 0), some (.ireturn)]]
theorem q_code54_ok : q_dec prog_6_method_5_code q_code54 := f_chk_ok (B := [[26, 4, 160, 0, 7, 27, 153, 0, 27, 26, 5, 160, 0, 12, 27, 153],
  [0, 18, 27, 4, 159, 0, 13, 26, 6, 160, 0, 12, 27, 6, 159, 0],
  [7, 4, 167, 0, 4, 3, 172]]) (by decide +kernel)
def q_code55 : List (List (Option Instr)) := [[some (.aload_n 0), some (.iload_n 1), some (.putfield 9), none, none, some (.iconst 0), some (.istore_n 2), some (.iload_n 2), some (.iload_n 1), some (.if_icmp .ge 30), none, none, some (.aload_n 0), some (.getfield 22), none, none],
  [some (.iload_n 2), some (.invokestatic 45), none, none, some (.iload_n 1), some (.if_icmp .lt 12), none, none, some (.aload_n 0), some (.getfield 22), none, none, some (.iload_n 2), some (.iconst (-1)), some (.invokestatic 41), none],
  [none, some (.iinc 2 1), none, none, some (.goto (-29)), none, none, some (.return_)]]
theorem q_code55_ok : q_dec prog_6_method_6_code q_code55 := f_chk_ok (B := [[42, 27, 181, 0, 9, 3, 61, 28, 27, 162, 0, 30, 42, 180, 0, 22],
  [28, 184, 0, 45, 27, 161, 0, 12, 42, 180, 0, 22, 28, 2, 184, 0],
  [41, 132, 2, 1, 167, 255, 227, 177]]) (by decide +kernel)
def q_code56 : List (List (Option Instr)) := [[some (.iconst 0), some (.istore_n 2), some (.iconst 0), some (.istore_n 3), some (.iload_n 3), some (.aload_n 0), some (.getfield 9), none, none, some (.if_icmp .ge 24), none, none, some (.aload_n 0), some (.getfield 15), none, none],
  [some (.iload_n 3), some (.invokestatic 45), none, none, some (.iload_n 1), some (.if_icmp .ne 6), none, none, some (.iinc 2 1), none, none, some (.iinc 3 1), none, none, some (.goto (-26)), none],
  [none, some (.iload_n 2), some (.ireturn)]]
theorem q_code56_ok : q_dec prog_6_method_7_code q_code56 := f_chk_ok (B := [[3, 61, 3, 62, 29, 42, 180, 0, 9, 162, 0, 24, 42, 180, 0, 15],
  [29, 184, 0, 45, 27, 160, 0, 6, 132, 2, 1, 132, 3, 1, 167, 255],
  [230, 28, 172]]) (by decide +kernel)
def q_code57 : List (List (Option Instr)) := [[some (.aload_n 0), some (.invokespecial 3), none, none, some (.aload_n 0), some (.iconst 0), some (.putfield 9), none, none, some (.aload_n 0), some (.iconst 0), some (.putfield 15), none, none, some (.aload_n 0), some (.iconst 0)],
  [some (.putfield 18), none, none, some (.aload_n 0), some (.iconst 0), some (.putfield 21), none, none, some (.aload_n 0), some (.iconst 0), some (.putfield 24), none, none, some (.aload_n 0), some (.iconst 0), some (.putfield 28)],
  [none, none, some (.aload_n 0), some (.iconst 0), some (.putfield 31), none, none, some (.aload_n 0), some (.iconst 0), some (.putfield 34), none, none, some (.aload_n 0), some (.iconst 0), some (.putfield 37), none],
  [none, some (.aload_n 0), some (.bipush 120), none, some (.newarray .int), none, some (.putfield 40), none, none, some (.aload_n 0), some (.bipush 120), none, some (.newarray .int), none, some (.putfield 44), none],
  [none, some (.aload_n 0), some (.bipush 121), none, some (.newarray .int), none, some (.putfield 47), none, none, some (.aload_n 0), some (.bipush 120), none, some (.newarray .int), none, some (.putfield 50), none],
  [none, some (.aload_n 0), some (.bipush 120), none, some (.newarray .int), none, some (.putfield 53), none, none, some (.aload_n 0), some (.bipush 120), none, some (.newarray .int), none, some (.putfield 56), none],
  [none, some (.aload_n 0), some (.bipush 120), none, some (.newarray .int), none, some (.putfield 59), none, none, some (.return_)]]
theorem q_code57_ok : q_dec prog_7_method_1_code q_code57 := f_chk_ok (B := [[42, 183, 0, 3, 42, 3, 181, 0, 9, 42, 3, 181, 0, 15, 42, 3],
  [181, 0, 18, 42, 3, 181, 0, 21, 42, 3, 181, 0, 24, 42, 3, 181],
  [0, 28, 42, 3, 181, 0, 31, 42, 3, 181, 0, 34, 42, 3, 181, 0],
  [37, 42, 16, 120, 188, 10, 181, 0, 40, 42, 16, 120, 188, 10, 181, 0],
  [44, 42, 16, 121, 188, 10, 181, 0, 47, 42, 16, 120, 188, 10, 181, 0],
  [50, 42, 16, 120, 188, 10, 181, 0, 53, 42, 16, 120, 188, 10, 181, 0],
  [56, 42, 16, 120, 188, 10, 181, 0, 59, 177]]) (by decide +kernel)
def q_code58 : List (List (Option Instr)) := [[some (.aload_n 0), some (.aload_n 1), some (.invokevirtual 62), none, none, some (.ifCond .ne 12), none, none, some (.sipush (-1000)), none, none, some (.aload_n 0), some (.getfield 15), none, none, some (.isub)],
  [some (.ireturn), some (.aload_n 2), some (.getfield 66), none, none, some (.getfield 72), none, none, some (.istore_n 3), some (.iconst 0), some (.istore 4), none, some (.iload 4), none, some (.aload_n 0), some (.getfield 34)],
  [none, none, some (.if_icmp .ge 41), none, none, some (.aload_n 0), some (.aload_n 2), some (.iload 4), none, some (.invokevirtual 75), none, none, some (.ifCond .ne 25), none, none, some (.aload_n 2)],
  [some (.getfield 66), none, none, some (.iload_n 3), some (.invokevirtual 79), none, none, some (.sipush (-2000)), none, none, some (.aload_n 0), some (.getfield 40), none, none, some (.iload 4), none],
  [some (.invokestatic 83), none, none, some (.isub), some (.ireturn), some (.iinc 4 1), none, none, some (.goto (-44)), none, none, some (.aload_n 2), some (.getfield 66), none, none, some (.getfield 72)],
  [none, none, some (.iload_n 3), some (.isub), some (.ireturn)]]
theorem q_code58_ok : q_dec prog_7_method_2_code q_code58 := f_chk_ok (B := [[42, 43, 182, 0, 62, 154, 0, 12, 17, 252, 24, 42, 180, 0, 15, 100],
  [172, 44, 180, 0, 66, 180, 0, 72, 62, 3, 54, 4, 21, 4, 42, 180],
  [0, 34, 162, 0, 41, 42, 44, 21, 4, 182, 0, 75, 154, 0, 25, 44],
  [180, 0, 66, 29, 182, 0, 79, 17, 248, 48, 42, 180, 0, 40, 21, 4],
  [184, 0, 83, 100, 172, 132, 4, 1, 167, 255, 212, 44, 180, 0, 66, 180],
  [0, 72, 29, 100, 172]]) (by decide +kernel)
def q_code59 : List (List (Option Instr)) := [[some (.aload_n 0), some (.aload_n 1), some (.getfield 87), none, none, some (.putfield 9), none, none, some (.aload_n 0), some (.iconst 0), some (.putfield 18), none, none, some (.aload_n 0), some (.iconst 0), some (.putfield 34)],
  [none, none, some (.aload_n 0), some (.iconst 0), some (.putfield 37), none, none, some (.aload_n 0), some (.iconst 0), some (.putfield 15), none, none, some (.aload_n 0), some (.getfield 15), none, none],
  [some (.aload_n 0), some (.getfield 9), none, none, some (.if_icmp .ge 36), none, none, some (.aload_n 0), some (.aload_n 1), some (.getfield 90), none, none, some (.aload_n 0), some (.getfield 15), none, none],
  [some (.invokestatic 83), none, none, some (.invokevirtual 93), none, none, some (.ifCond .ne 5), none, none, some (.iconst 0), some (.ireturn), some (.aload_n 0), some (.dup), some (.getfield 15), none, none],
  [some (.iconst 1), some (.iadd), some (.putfield 15), none, none, some (.goto (-41)), none, none, some (.aload_n 0), some (.getfield 18), none, none, some (.ifCond .ne 14), none, none, some (.aload_n 0)],
  [some (.getfield 34), none, none, some (.ifCond .le 7), none, none, some (.iconst 1), some (.goto 4), none, none, some (.iconst 0), some (.ireturn)]]
theorem q_code59_ok : q_dec prog_7_method_3_code q_code59 := f_chk_ok (B := [[42, 43, 180, 0, 87, 181, 0, 9, 42, 3, 181, 0, 18, 42, 3, 181],
  [0, 34, 42, 3, 181, 0, 37, 42, 3, 181, 0, 15, 42, 180, 0, 15],
  [42, 180, 0, 9, 162, 0, 36, 42, 43, 180, 0, 90, 42, 180, 0, 15],
  [184, 0, 83, 182, 0, 93, 154, 0, 5, 3, 172, 42, 89, 180, 0, 15],
  [4, 96, 181, 0, 15, 167, 255, 215, 42, 180, 0, 18, 154, 0, 14, 42],
  [180, 0, 34, 158, 0, 7, 4, 167, 0, 4, 3, 172]]) (by decide +kernel)
def q_code60 : List (List (Option Instr)) := [[some (.aload_n 0), some (.getfield 18), none, none, some (.ifCond .ne 9), none, none, some (.aload_n 0), some (.iload_n 1), some (.invokevirtual 97), none, none, some (.ireturn), some (.iload_n 1), some (.bipush 48), none],
  [some (.if_icmp .lt 13), none, none, some (.iload_n 1), some (.bipush 57), none, some (.if_icmp .gt 7), none, none, some (.iconst 1), some (.goto 4), none, none, some (.iconst 0), some (.istore_n 2), some (.aload_n 0)],
  [some (.getfield 18), none, none, some (.iconst 1), some (.if_icmp .ne 24), none, none, some (.iload_n 2), some (.ifCond .eq 14), none, none, some (.aload_n 0), some (.iload_n 1), some (.bipush 48), none, some (.isub)],
  [some (.invokevirtual 100), none, none, some (.goto 8), none, none, some (.aload_n 0), some (.iload_n 1), some (.invokevirtual 103), none, none, some (.ireturn), some (.iload_n 2), some (.ifCond .eq 52), none, none],
  [some (.aload_n 0), some (.getfield 18), none, none, some (.iconst 2), some (.if_icmp .ne 44), none, none, some (.aload_n 0), some (.getfield 53), none, none, some (.aload_n 0), some (.getfield 37), none, none],
  [some (.iconst 1), some (.isub), some (.bipush 10), none, some (.aload_n 0), some (.getfield 53), none, none, some (.aload_n 0), some (.getfield 37), none, none, some (.iconst 1), some (.isub), some (.invokestatic 83), none],
  [none, some (.imul), some (.iload_n 1), some (.iadd), some (.bipush 48), none, some (.isub), some (.invokestatic 106), none, none, some (.aload_n 0), some (.iconst 3), some (.putfield 18), none, none, some (.iconst 1)],
  [some (.ireturn), some (.iload_n 1), some (.bipush 47), none, some (.if_icmp .ne 10), none, none, some (.aload_n 0), some (.invokevirtual 110), none, none, some (.goto 47), none, none, some (.iload_n 1), some (.bipush 93)],
  [none, some (.if_icmp .ne 10), none, none, some (.aload_n 0), some (.invokevirtual 114), none, none, some (.goto 34), none, none, some (.iload_n 1), some (.bipush 32), none, some (.if_icmp .ne 10), none],
  [none, some (.aload_n 0), some (.invokevirtual 117), none, none, some (.goto 21), none, none, some (.iload_n 1), some (.bipush 59), none, some (.if_icmp .ne 14), none, none, some (.aload_n 0), some (.invokevirtual 120)],
  [none, none, some (.ifCond .eq 7), none, none, some (.iconst 1), some (.goto 4), none, none, some (.iconst 0), some (.ireturn)]]
theorem q_code60_ok : q_dec prog_7_method_4_code q_code60 := f_chk_ok (B := [[42, 180, 0, 18, 154, 0, 9, 42, 27, 182, 0, 97, 172, 27, 16, 48],
  [161, 0, 13, 27, 16, 57, 163, 0, 7, 4, 167, 0, 4, 3, 61, 42],
  [180, 0, 18, 4, 160, 0, 24, 28, 153, 0, 14, 42, 27, 16, 48, 100],
  [182, 0, 100, 167, 0, 8, 42, 27, 182, 0, 103, 172, 28, 153, 0, 52],
  [42, 180, 0, 18, 5, 160, 0, 44, 42, 180, 0, 53, 42, 180, 0, 37],
  [4, 100, 16, 10, 42, 180, 0, 53, 42, 180, 0, 37, 4, 100, 184, 0],
  [83, 104, 27, 96, 16, 48, 100, 184, 0, 106, 42, 6, 181, 0, 18, 4],
  [172, 27, 16, 47, 160, 0, 10, 42, 182, 0, 110, 167, 0, 47, 27, 16],
  [93, 160, 0, 10, 42, 182, 0, 114, 167, 0, 34, 27, 16, 32, 160, 0],
  [10, 42, 182, 0, 117, 167, 0, 21, 27, 16, 59, 160, 0, 14, 42, 182],
  [0, 120, 153, 0, 7, 4, 167, 0, 4, 3, 172]]) (by decide +kernel)
def q_code61 : List (List (Option Instr)) := [[some (.iload_n 1), some (.bipush 99), none, some (.if_icmp .eq 23), none, none, some (.iload_n 1), some (.bipush 114), none, some (.if_icmp .eq 17), none, none, some (.iload_n 1), some (.bipush 102), none, some (.if_icmp .eq 11)],
  [none, none, some (.iload_n 1), some (.bipush 98), none, some (.if_icmp .eq 5), none, none, some (.iconst 0), some (.ireturn), some (.aload_n 0), some (.getfield 40), none, none, some (.aload_n 0), some (.getfield 34)],
  [none, none, some (.aload_n 0), some (.getfield 15), none, none, some (.invokestatic 106), none, none, some (.aload_n 0), some (.getfield 44), none, none, some (.aload_n 0), some (.getfield 34), none],
  [none, some (.iload_n 1), some (.invokestatic 106), none, none, some (.aload_n 0), some (.iload_n 1), some (.putfield 21), none, none, some (.aload_n 0), some (.iconst 0), some (.putfield 24), none, none, some (.aload_n 0)],
  [some (.iconst 0), some (.putfield 28), none, none, some (.aload_n 0), some (.iconst 1), some (.putfield 31), none, none, some (.aload_n 0), some (.iconst 1), some (.putfield 18), none, none, some (.iconst 1), some (.ireturn)]]
theorem q_code61_ok : q_dec prog_7_method_5_code q_code61 := f_chk_ok (B := [[27, 16, 99, 159, 0, 23, 27, 16, 114, 159, 0, 17, 27, 16, 102, 159],
  [0, 11, 27, 16, 98, 159, 0, 5, 3, 172, 42, 180, 0, 40, 42, 180],
  [0, 34, 42, 180, 0, 15, 184, 0, 106, 42, 180, 0, 44, 42, 180, 0],
  [34, 27, 184, 0, 106, 42, 27, 181, 0, 21, 42, 3, 181, 0, 24, 42],
  [3, 181, 0, 28, 42, 4, 181, 0, 31, 42, 4, 181, 0, 18, 4, 172]]) (by decide +kernel)
def q_code62 : List (List (Option Instr)) := [[some (.aload_n 0), some (.getfield 53), none, none, some (.aload_n 0), some (.getfield 37), none, none, some (.iload_n 1), some (.invokestatic 106), none, none, some (.aload_n 0), some (.getfield 56), none, none],
  [some (.aload_n 0), some (.getfield 37), none, none, some (.aload_n 0), some (.getfield 31), none, none, some (.iconst 1), some (.isub), some (.invokestatic 106), none, none, some (.aload_n 0), some (.getfield 59), none],
  [none, some (.aload_n 0), some (.getfield 37), none, none, some (.aload_n 0), some (.getfield 28), none, none, some (.invokestatic 106), none, none, some (.aload_n 0), some (.dup), some (.getfield 37), none],
  [none, some (.iconst 1), some (.iadd), some (.putfield 37), none, none, some (.aload_n 0), some (.iload_n 1), some (.ifCond .ne 7), none, none, some (.iconst 3), some (.goto 4), none, none, some (.iconst 2)],
  [some (.putfield 18), none, none, some (.iconst 1), some (.ireturn)]]
theorem q_code62_ok : q_dec prog_7_method_6_code q_code62 := f_chk_ok (B := [[42, 180, 0, 53, 42, 180, 0, 37, 27, 184, 0, 106, 42, 180, 0, 56],
  [42, 180, 0, 37, 42, 180, 0, 31, 4, 100, 184, 0, 106, 42, 180, 0],
  [59, 42, 180, 0, 37, 42, 180, 0, 28, 184, 0, 106, 42, 89, 180, 0],
  [37, 4, 96, 181, 0, 37, 42, 27, 154, 0, 7, 6, 167, 0, 4, 5],
  [181, 0, 18, 4, 172]]) (by decide +kernel)
def q_code63 : List (List (Option Instr)) := [[some (.iload_n 1), some (.bipush 91), none, some (.if_icmp .ne 19), none, none, some (.aload_n 0), some (.getfield 21), none, none, some (.bipush 114), none, some (.if_icmp .ne 10), none, none, some (.aload_n 0)],
  [some (.getfield 28), none, none, some (.ifCond .eq 5), none, none, some (.iconst 0), some (.ireturn), some (.aload_n 0), some (.iconst 1), some (.putfield 28), none, none, some (.iconst 1), some (.ireturn)]]
theorem q_code63_ok : q_dec prog_7_method_7_code q_code63 := f_chk_ok (B := [[27, 16, 91, 160, 0, 19, 42, 180, 0, 21, 16, 114, 160, 0, 10, 42],
  [180, 0, 28, 153, 0, 5, 3, 172, 42, 4, 181, 0, 28, 4, 172]]) (by decide +kernel)
def q_code64 : List (List (Option Instr)) := [[some (.aload_n 0), some (.getfield 21), none, none, some (.bipush 99), none, some (.if_icmp .ne 10), none, none, some (.aload_n 0), some (.getfield 24), none, none, some (.ifCond .eq 5), none, none],
  [some (.iconst 0), some (.ireturn), some (.aload_n 0), some (.iconst 1), some (.putfield 24), none, none, some (.aload_n 0), some (.iconst 1), some (.putfield 18), none, none, some (.iconst 1), some (.ireturn)]]
theorem q_code64_ok : q_dec prog_7_method_8_code q_code64 := f_chk_ok (B := [[42, 180, 0, 21, 16, 99, 160, 0, 10, 42, 180, 0, 24, 153, 0, 5],
  [3, 172, 42, 4, 181, 0, 24, 42, 4, 181, 0, 18, 4, 172]]) (by decide +kernel)
def q_code65 : List (List (Option Instr)) := [[some (.aload_n 0), some (.getfield 28), none, none, some (.ifCond .ne 5), none, none, some (.iconst 0), some (.ireturn), some (.aload_n 0), some (.iconst 0), some (.putfield 28), none, none, some (.aload_n 0), some (.iconst 3)],
  [some (.putfield 18), none, none, some (.iconst 1), some (.ireturn)]]
theorem q_code65_ok : q_dec prog_7_method_9_code q_code65 := f_chk_ok (B := [[42, 180, 0, 28, 154, 0, 5, 3, 172, 42, 3, 181, 0, 28, 42, 6],
  [181, 0, 18, 4, 172]]) (by decide +kernel)
def q_code66 : List (List (Option Instr)) := [[some (.aload_n 0), some (.getfield 21), none, none, some (.bipush 98), none, some (.if_icmp .eq 19), none, none, some (.aload_n 0), some (.getfield 21), none, none, some (.bipush 99), none, some (.if_icmp .ne 12)],
  [none, none, some (.aload_n 0), some (.getfield 24), none, none, some (.ifCond .ne 5), none, none, some (.iconst 0), some (.ireturn), some (.aload_n 0), some (.getfield 28), none, none, some (.ifCond .ne 13)],
  [none, none, some (.aload_n 0), some (.dup), some (.getfield 31), none, none, some (.iconst 1), some (.iadd), some (.putfield 31), none, none, some (.aload_n 0), some (.iconst 0), some (.putfield 24), none],
  [none, some (.aload_n 0), some (.iconst 1), some (.putfield 18), none, none, some (.iconst 1), some (.ireturn)]]
theorem q_code66_ok : q_dec prog_7_method_10_code q_code66 := f_chk_ok (B := [[42, 180, 0, 21, 16, 98, 159, 0, 19, 42, 180, 0, 21, 16, 99, 160],
  [0, 12, 42, 180, 0, 24, 154, 0, 5, 3, 172, 42, 180, 0, 28, 154],
  [0, 13, 42, 89, 180, 0, 31, 4, 96, 181, 0, 31, 42, 3, 181, 0],
  [24, 42, 4, 181, 0, 18, 4, 172]]) (by decide +kernel)
def q_code67 : List (List (Option Instr)) := [[some (.aload_n 0), some (.getfield 28), none, none, some (.ifCond .ne 19), none, none, some (.aload_n 0), some (.getfield 21), none, none, some (.bipush 99), none, some (.if_icmp .ne 12), none, none],
  [some (.aload_n 0), some (.getfield 24), none, none, some (.ifCond .ne 5), none, none, some (.iconst 0), some (.ireturn), some (.aload_n 0), some (.getfield 50), none, none, some (.aload_n 0), some (.getfield 34), none],
  [none, some (.aload_n 0), some (.getfield 31), none, none, some (.invokestatic 106), none, none, some (.aload_n 0), some (.dup), some (.getfield 34), none, none, some (.iconst 1), some (.iadd), some (.putfield 34)],
  [none, none, some (.aload_n 0), some (.getfield 47), none, none, some (.aload_n 0), some (.getfield 34), none, none, some (.aload_n 0), some (.getfield 37), none, none, some (.invokestatic 106), none],
  [none, some (.aload_n 0), some (.iconst 0), some (.putfield 18), none, none, some (.iconst 1), some (.ireturn)]]
theorem q_code67_ok : q_dec prog_7_method_11_code q_code67 := f_chk_ok (B := [[42, 180, 0, 28, 154, 0, 19, 42, 180, 0, 21, 16, 99, 160, 0, 12],
  [42, 180, 0, 24, 154, 0, 5, 3, 172, 42, 180, 0, 50, 42, 180, 0],
  [34, 42, 180, 0, 31, 184, 0, 106, 42, 89, 180, 0, 34, 4, 96, 181],
  [0, 34, 42, 180, 0, 47, 42, 180, 0, 34, 42, 180, 0, 37, 184, 0],
  [106, 42, 3, 181, 0, 18, 4, 172]]) (by decide +kernel)
def q_code68 : List (List (Option Instr)) := [[some (.aload_n 1), some (.getfield 66), none, none, some (.getfield 72), none, none, some (.bipush 40), none, some (.if_icmp .lt 5), none, none, some (.iconst 0), some (.ireturn), some (.aload_n 0), some (.getfield 47)],
  [none, none, some (.iload_n 2), some (.invokestatic 83), none, none, some (.istore_n 3), some (.aload_n 0), some (.getfield 47), none, none, some (.iload_n 2), some (.iconst 1), some (.iadd), some (.invokestatic 83), none],
  [none, some (.iload_n 3), some (.isub), some (.istore 4), none, some (.aload_n 0), some (.getfield 44), none, none, some (.iload_n 2), some (.invokestatic 83), none, none, some (.istore 5), none, some (.iload 5)],
  [none, some (.bipush 99), none, some (.if_icmp .ne 14), none, none, some (.aload_n 0), some (.aload_n 1), some (.iload_n 3), some (.iload 4), none, some (.iconst 2), some (.idiv), some (.invokevirtual 123), none, none],
  [some (.ireturn), some (.iload 5), none, some (.bipush 114), none, some (.if_icmp .ne 36), none, none, some (.iload 4), none, some (.bipush 8), none, some (.if_icmp .gt 27), none, none, some (.aload_n 0)],
  [some (.aload_n 1), some (.iconst 1), some (.aload_n 0), some (.getfield 50), none, none, some (.iload_n 2), some (.invokestatic 83), none, none, some (.iload_n 3), some (.iload 4), none, some (.invokevirtual 127), none, none],
  [some (.ifCond .eq 7), none, none, some (.iconst 1), some (.goto 4), none, none, some (.iconst 0), some (.ireturn), some (.iload 5), none, some (.bipush 102), none, some (.if_icmp .ne 30), none, none],
  [some (.iload 4), none, some (.bipush 6), none, some (.if_icmp .gt 21), none, none, some (.aload_n 0), some (.aload_n 1), some (.iconst 2), some (.iload 4), none, some (.iload_n 3), some (.iload 4), none, some (.invokevirtual 127)],
  [none, none, some (.ifCond .eq 7), none, none, some (.iconst 1), some (.goto 4), none, none, some (.iconst 0), some (.ireturn), some (.aload_n 0), some (.aload_n 1), some (.iconst 3), some (.iconst 1), some (.iload_n 3)],
  [some (.iload 4), none, some (.invokevirtual 127), none, none, some (.ireturn)]]
theorem q_code68_ok : q_dec prog_7_method_12_code q_code68 := f_chk_ok (B := [[43, 180, 0, 66, 180, 0, 72, 16, 40, 161, 0, 5, 3, 172, 42, 180],
  [0, 47, 28, 184, 0, 83, 62, 42, 180, 0, 47, 28, 4, 96, 184, 0],
  [83, 29, 100, 54, 4, 42, 180, 0, 44, 28, 184, 0, 83, 54, 5, 21],
  [5, 16, 99, 160, 0, 14, 42, 43, 29, 21, 4, 5, 108, 182, 0, 123],
  [172, 21, 5, 16, 114, 160, 0, 36, 21, 4, 16, 8, 163, 0, 27, 42],
  [43, 4, 42, 180, 0, 50, 28, 184, 0, 83, 29, 21, 4, 182, 0, 127],
  [153, 0, 7, 4, 167, 0, 4, 3, 172, 21, 5, 16, 102, 160, 0, 30],
  [21, 4, 16, 6, 163, 0, 21, 42, 43, 5, 21, 4, 29, 21, 4, 182],
  [0, 127, 153, 0, 7, 4, 167, 0, 4, 3, 172, 42, 43, 6, 4, 29],
  [21, 4, 182, 0, 127, 172]]) (by decide +kernel)
def q_code69 : List (List (Option Instr)) := [[some (.iload_n 3), some (.iconst 2), some (.if_icmp .lt 9), none, none, some (.iload_n 3), some (.bipush 6), none, some (.if_icmp .le 5), none, none, some (.iconst 0), some (.ireturn), some (.aload_n 1), some (.iconst 0), some (.iload_n 3)],
  [some (.invokevirtual 131), none, none, some (.istore 4), none, some (.iconst 0), some (.istore 5), none, some (.iload 5), none, some (.iload_n 3), some (.if_icmp .ge 73), none, none, some (.aload_n 1), some (.getfield 135)],
  [none, none, some (.getfield 139), none, none, some (.iload 4), none, some (.bipush 6), none, some (.imul), some (.iload 5), none, some (.iadd), some (.aload_n 0), some (.getfield 53), none],
  [none, some (.iload_n 2), some (.iconst 2), some (.iload 5), none, some (.imul), some (.iadd), some (.invokestatic 83), none, none, some (.invokestatic 106), none, none, some (.aload_n 1), some (.getfield 135), none],
  [none, some (.getfield 144), none, none, some (.iload 4), none, some (.bipush 6), none, some (.imul), some (.iload 5), none, some (.iadd), some (.aload_n 0), some (.getfield 53), none, none],
  [some (.iload_n 2), some (.iconst 2), some (.iload 5), none, some (.imul), some (.iadd), some (.iconst 1), some (.iadd), some (.invokestatic 83), none, none, some (.invokestatic 106), none, none, some (.iinc 5 1), none],
  [none, some (.goto (-73)), none, none, some (.aload_n 1), some (.getfield 135), none, none, some (.iload 4), none, some (.iload_n 3), some (.invokevirtual 147), none, none, some (.ireturn)]]
theorem q_code69_ok : q_dec prog_7_method_13_code q_code69 := f_chk_ok (B := [[29, 5, 161, 0, 9, 29, 16, 6, 164, 0, 5, 3, 172, 43, 3, 29],
  [182, 0, 131, 54, 4, 3, 54, 5, 21, 5, 29, 162, 0, 73, 43, 180],
  [0, 135, 180, 0, 139, 21, 4, 16, 6, 104, 21, 5, 96, 42, 180, 0],
  [53, 28, 5, 21, 5, 104, 96, 184, 0, 83, 184, 0, 106, 43, 180, 0],
  [135, 180, 0, 144, 21, 4, 16, 6, 104, 21, 5, 96, 42, 180, 0, 53],
  [28, 5, 21, 5, 104, 96, 4, 96, 184, 0, 83, 184, 0, 106, 132, 5],
  [1, 167, 255, 183, 43, 180, 0, 135, 21, 4, 29, 182, 0, 147, 172]]) (by decide +kernel)
def q_code70 : List (List (Option Instr)) := [[some (.aload_n 1), some (.iload_n 2), some (.iload_n 3), some (.invokevirtual 131), none, none, some (.istore 6), none, some (.iload 4), none, some (.istore 7), none, some (.iload 7), none, some (.iload 4), none],
  [some (.iload 5), none, some (.iadd), some (.if_icmp .ge 50), none, none, some (.aload_n 1), some (.getfield 66), none, none, some (.iload 6), none, some (.aload_n 0), some (.getfield 53), none, none],
  [some (.iload 7), none, some (.invokestatic 83), none, none, some (.aload_n 0), some (.getfield 56), none, none, some (.iload 7), none, some (.invokestatic 83), none, none, some (.aload_n 0), some (.getfield 59)],
  [none, none, some (.iload 7), none, some (.invokestatic 83), none, none, some (.invokevirtual 151), none, none, some (.ifCond .ne 5), none, none, some (.iconst 0), some (.ireturn), some (.iinc 7 1)],
  [none, none, some (.goto (-54)), none, none, some (.iconst 1), some (.ireturn)]]
theorem q_code70_ok : q_dec prog_7_method_14_code q_code70 := f_chk_ok (B := [[43, 28, 29, 182, 0, 131, 54, 6, 21, 4, 54, 7, 21, 7, 21, 4],
  [21, 5, 96, 162, 0, 50, 43, 180, 0, 66, 21, 6, 42, 180, 0, 53],
  [21, 7, 184, 0, 83, 42, 180, 0, 56, 21, 7, 184, 0, 83, 42, 180],
  [0, 59, 21, 7, 184, 0, 83, 182, 0, 151, 154, 0, 5, 3, 172, 132],
  [7, 1, 167, 255, 202, 4, 172]]) (by decide +kernel)
def q_code71 : List (List (Option Instr)) := [[some (.aload_n 0), some (.invokespecial 3), none, none, some (.aload_n 0), some (.bipush 10), none, some (.newarray .int), none, some (.putfield 9), none, none, some (.aload_n 0), some (.bipush 10), none, some (.newarray .int)],
  [none, some (.putfield 15), none, none, some (.aload_n 0), some (.bipush 10), none, some (.newarray .int), none, some (.putfield 18), none, none, some (.aload_n 0), some (.bipush 12), none, some (.newarray .int)],
  [none, some (.putfield 21), none, none, some (.aload_n 0), some (.bipush 12), none, some (.newarray .int), none, some (.putfield 24), none, none, some (.aload_n 0), some (.bipush 120), none, some (.newarray .int)],
  [none, some (.putfield 27), none, none, some (.aload_n 0), some (.iconst 0), some (.putfield 30), none, none, some (.aload_n 0), some (.iconst 0), some (.putfield 34), none, none, some (.return_)]]
theorem q_code71_ok : q_dec prog_8_method_1_code q_code71 := f_chk_ok (B := [[42, 183, 0, 3, 42, 16, 10, 188, 10, 181, 0, 9, 42, 16, 10, 188],
  [10, 181, 0, 15, 42, 16, 10, 188, 10, 181, 0, 18, 42, 16, 12, 188],
  [10, 181, 0, 21, 42, 16, 12, 188, 10, 181, 0, 24, 42, 16, 120, 188],
  [10, 181, 0, 27, 42, 3, 181, 0, 30, 42, 3, 181, 0, 34, 177]]) (by decide +kernel)
def q_code72 : List (List (Option Instr)) := [[some (.aload_n 1), some (.getfield 9), none, none, some (.aload_n 0), some (.getfield 9), none, none, some (.invokestatic 37), none, none, some (.aload_n 1), some (.getfield 15), none, none, some (.aload_n 0)],
  [some (.getfield 15), none, none, some (.invokestatic 37), none, none, some (.aload_n 1), some (.getfield 18), none, none, some (.aload_n 0), some (.getfield 18), none, none, some (.invokestatic 37), none],
  [none, some (.aload_n 1), some (.getfield 21), none, none, some (.aload_n 0), some (.getfield 21), none, none, some (.invokestatic 37), none, none, some (.aload_n 1), some (.getfield 24), none, none],
  [some (.aload_n 0), some (.getfield 24), none, none, some (.invokestatic 37), none, none, some (.aload_n 1), some (.getfield 27), none, none, some (.aload_n 0), some (.getfield 27), none, none, some (.invokestatic 37)],
  [none, none, some (.aload_n 0), some (.aload_n 1), some (.getfield 30), none, none, some (.putfield 30), none, none, some (.aload_n 0), some (.aload_n 1), some (.getfield 34), none, none, some (.putfield 34)],
  [none, none, some (.return_)]]
theorem q_code72_ok : q_dec prog_8_method_2_code q_code72 := f_chk_ok (B := [[43, 180, 0, 9, 42, 180, 0, 9, 184, 0, 37, 43, 180, 0, 15, 42],
  [180, 0, 15, 184, 0, 37, 43, 180, 0, 18, 42, 180, 0, 18, 184, 0],
  [37, 43, 180, 0, 21, 42, 180, 0, 21, 184, 0, 37, 43, 180, 0, 24],
  [42, 180, 0, 24, 184, 0, 37, 43, 180, 0, 27, 42, 180, 0, 27, 184],
  [0, 37, 42, 43, 180, 0, 30, 181, 0, 30, 42, 43, 180, 0, 34, 181],
  [0, 34, 177]]) (by decide +kernel)
def q_code73 : List (List (Option Instr)) := [[some (.iconst 0), some (.istore_n 1), some (.iconst 0), some (.istore_n 2), some (.iload_n 2), some (.bipush 10), none, some (.if_icmp .ge 23), none, none, some (.aload_n 0), some (.getfield 18), none, none, some (.iload_n 2), some (.invokestatic 41)],
  [none, none, some (.ifCond .le 6), none, none, some (.iinc 1 1), none, none, some (.iinc 2 1), none, none, some (.goto (-23)), none, none, some (.iload_n 1), some (.ireturn)]]
theorem q_code73_ok : q_dec prog_8_method_3_code q_code73 := f_chk_ok (B := [[3, 60, 3, 61, 28, 16, 10, 162, 0, 23, 42, 180, 0, 18, 28, 184],
  [0, 41, 158, 0, 6, 132, 1, 1, 132, 2, 1, 167, 255, 233, 27, 172]]) (by decide +kernel)
def q_code74 : List (List (Option Instr)) := [[some (.aload_n 2), some (.iconst 0), some (.invokestatic 45), none, none, some (.iconst 0), some (.istore_n 3), some (.iload_n 3), some (.bipush 10), none, some (.if_icmp .ge 27), none, none, some (.aload_n 0), some (.getfield 18), none],
  [none, some (.iload_n 3), some (.invokestatic 41), none, none, some (.ifCond .le 10), none, none, some (.aload_n 0), some (.iload_n 3), some (.iload_n 1), some (.aload_n 2), some (.invokevirtual 51), none, none, some (.iinc 3 1)],
  [none, none, some (.goto (-27)), none, none, some (.return_)]]
theorem q_code74_ok : q_dec prog_8_method_4_code q_code74 := f_chk_ok (B := [[44, 3, 184, 0, 45, 3, 62, 29, 16, 10, 162, 0, 27, 42, 180, 0],
  [18, 29, 184, 0, 41, 158, 0, 10, 42, 29, 27, 44, 182, 0, 51, 132],
  [3, 1, 167, 255, 229, 177]]) (by decide +kernel)
def q_code75 : List (List (Option Instr)) := [[some (.aload_n 0), some (.getfield 21), none, none, some (.iload_n 2), some (.invokestatic 41), none, none, some (.istore 4), none, some (.aload_n 0), some (.getfield 18), none, none, some (.iload_n 1), some (.invokestatic 41)],
  [none, none, some (.aload_n 0), some (.getfield 24), none, none, some (.iload_n 2), some (.invokestatic 41), none, none, some (.imul), some (.bipush 10), none, some (.idiv), some (.istore 5), none],
  [some (.iconst 0), some (.istore 6), none, some (.iload 6), none, some (.iload 5), none, some (.if_icmp .gt 90), none, none, some (.aload_n 0), some (.getfield 9), none, none, some (.iload_n 1), some (.invokestatic 41)],
  [none, none, some (.iload 6), none, some (.getstatic 55), none, none, some (.iload 4), none, some (.invokestatic 41), none, none, some (.imul), some (.iadd), some (.istore 7), none],
  [some (.aload_n 0), some (.getfield 15), none, none, some (.iload_n 1), some (.invokestatic 41), none, none, some (.iload 6), none, some (.getstatic 58), none, none, some (.iload 4), none, some (.invokestatic 41)],
  [none, none, some (.imul), some (.iadd), some (.istore 8), none, some (.iload 7), none, some (.ifCond .lt 35), none, none, some (.iload 7), none, some (.bipush 20), none, some (.if_icmp .ge 28)],
  [none, none, some (.iload 8), none, some (.ifCond .lt 23), none, none, some (.iload 8), none, some (.bipush 12), none, some (.if_icmp .ge 16), none, none, some (.aload_n 3), some (.iload 8)],
  [none, some (.bipush 20), none, some (.imul), some (.iload 7), none, some (.iadd), some (.iconst 1), some (.invokestatic 61), none, none, some (.iinc 6 1), none, none, some (.goto (-91)), none],
  [none, some (.return_)]]
theorem q_code75_ok : q_dec prog_8_method_5_code q_code75 := f_chk_ok (B := [[42, 180, 0, 21, 28, 184, 0, 41, 54, 4, 42, 180, 0, 18, 27, 184],
  [0, 41, 42, 180, 0, 24, 28, 184, 0, 41, 104, 16, 10, 108, 54, 5],
  [3, 54, 6, 21, 6, 21, 5, 163, 0, 90, 42, 180, 0, 9, 27, 184],
  [0, 41, 21, 6, 178, 0, 55, 21, 4, 184, 0, 41, 104, 96, 54, 7],
  [42, 180, 0, 15, 27, 184, 0, 41, 21, 6, 178, 0, 58, 21, 4, 184],
  [0, 41, 104, 96, 54, 8, 21, 7, 155, 0, 35, 21, 7, 16, 20, 162],
  [0, 28, 21, 8, 155, 0, 23, 21, 8, 16, 12, 162, 0, 16, 45, 21],
  [8, 16, 20, 104, 21, 7, 96, 4, 184, 0, 61, 132, 6, 1, 167, 255],
  [165, 177]]) (by decide +kernel)
def q_code76 : List (List (Option Instr)) := [[some (.aload_n 1), some (.getfield 65), none, none, some (.aload_n 0), some (.getfield 27), none, none, some (.invokestatic 37), none, none, some (.aload_n 0), some (.aload_n 1), some (.getfield 70), none, none],
  [some (.putfield 30), none, none, some (.aload_n 0), some (.aload_n 1), some (.invokevirtual 73), none, none, some (.putfield 34), none, none, some (.return_)]]
theorem q_code76_ok : q_dec prog_8_method_6_code q_code76 := f_chk_ok (B := [[43, 180, 0, 65, 42, 180, 0, 27, 184, 0, 37, 42, 43, 180, 0, 70],
  [181, 0, 30, 42, 43, 182, 0, 73, 181, 0, 34, 177]]) (by decide +kernel)
def q_code77 : List (List (Option Instr)) := [[some (.iload_n 1), some (.ifCond .lt 11), none, none, some (.iload_n 1), some (.aload_n 0), some (.getfield 30), none, none, some (.if_icmp .lt 5), none, none, some (.iconst 0), some (.ireturn), some (.aload_n 0), some (.getfield 27)],
  [none, none, some (.iload_n 1), some (.invokestatic 41), none, none, some (.aload_n 0), some (.getfield 34), none, none, some (.if_icmp .ne 11), none, none, some (.aload_n 0), some (.iload_n 1), some (.invokevirtual 77)],
  [none, none, some (.goto 12), none, none, some (.aload_n 0), some (.getfield 27), none, none, some (.iload_n 1), some (.invokestatic 41), none, none, some (.i2l), some (.lstore_n 2), some (.lload_n 2)],
  [some (.lconst 0), some (.lcmp), some (.ifCond .ge 7), none, none, some (.iconst 0), some (.goto 18), none, none, some (.lload_n 2), some (.ldc2_w 81), none, none, some (.lcmp), some (.ifCond .le 8), none],
  [none, some (.bipush 100), none, some (.goto 5), none, none, some (.lload_n 2), some (.l2i), some (.ireturn)]]
theorem q_code77_ok : q_dec prog_8_method_7_code q_code77 := f_chk_ok (B := [[27, 155, 0, 11, 27, 42, 180, 0, 30, 161, 0, 5, 3, 172, 42, 180],
  [0, 27, 27, 184, 0, 41, 42, 180, 0, 34, 160, 0, 11, 42, 27, 182],
  [0, 77, 167, 0, 12, 42, 180, 0, 27, 27, 184, 0, 41, 133, 65, 32],
  [9, 148, 156, 0, 7, 3, 167, 0, 18, 32, 20, 0, 81, 148, 158, 0],
  [8, 16, 100, 167, 0, 5, 32, 136, 172]]) (by decide +kernel)
def q_code78 : List (List (Option Instr)) := [[some (.iload_n 1), some (.istore_n 2), some (.iload_n 2), some (.ifCond .lt 24), none, none, some (.aload_n 0), some (.getfield 27), none, none, some (.iload_n 2), some (.invokestatic 41), none, none, some (.aload_n 0), some (.getfield 34)],
  [none, none, some (.if_icmp .ne 9), none, none, some (.iinc 2 (-1)), none, none, some (.goto (-22)), none, none, some (.iload_n 1), some (.istore_n 3), some (.iload_n 3), some (.aload_n 0), some (.getfield 30)],
  [none, none, some (.if_icmp .ge 24), none, none, some (.aload_n 0), some (.getfield 27), none, none, some (.iload_n 3), some (.invokestatic 41), none, none, some (.aload_n 0), some (.getfield 34), none],
  [none, some (.if_icmp .ne 9), none, none, some (.iinc 3 1), none, none, some (.goto (-26)), none, none, some (.iload_n 2), some (.ifCond .ge 13), none, none, some (.iload_n 3), some (.aload_n 0)],
  [some (.getfield 30), none, none, some (.if_icmp .lt 5), none, none, some (.lconst 0), some (.lreturn), some (.aload_n 0), some (.getfield 27), none, none, some (.iload_n 2), some (.ifCond .ge 7), none, none],
  [some (.iload_n 3), some (.goto 4), none, none, some (.iload_n 2), some (.invokestatic 41), none, none, some (.i2l), some (.lstore 4), none, some (.aload_n 0), some (.getfield 27), none, none, some (.iload_n 3)],
  [some (.aload_n 0), some (.getfield 30), none, none, some (.if_icmp .lt 7), none, none, some (.iload_n 2), some (.goto 4), none, none, some (.iload_n 3), some (.invokestatic 41), none, none, some (.i2l)],
  [some (.lstore 6), none, some (.lload 4), none, some (.lload 6), none, some (.ladd), some (.ldc2_w 83), none, none, some (.ldiv), some (.lreturn)]]
theorem q_code78_ok : q_dec prog_8_method_8_code q_code78 := f_chk_ok (B := [[27, 61, 28, 155, 0, 24, 42, 180, 0, 27, 28, 184, 0, 41, 42, 180],
  [0, 34, 160, 0, 9, 132, 2, 255, 167, 255, 234, 27, 62, 29, 42, 180],
  [0, 30, 162, 0, 24, 42, 180, 0, 27, 29, 184, 0, 41, 42, 180, 0],
  [34, 160, 0, 9, 132, 3, 1, 167, 255, 230, 28, 156, 0, 13, 29, 42],
  [180, 0, 30, 161, 0, 5, 9, 173, 42, 180, 0, 27, 28, 156, 0, 7],
  [29, 167, 0, 4, 28, 184, 0, 41, 133, 55, 4, 42, 180, 0, 27, 29],
  [42, 180, 0, 30, 161, 0, 7, 28, 167, 0, 4, 29, 184, 0, 41, 133],
  [55, 6, 22, 4, 22, 6, 97, 20, 0, 83, 109, 173]]) (by decide +kernel)
def q_code79 : List (List (Option Instr)) := [[some (.aload_n 0), some (.invokespecial 3), none, none, some (.aload_n 0), some (.iconst 0), some (.putfield 9), none, none, some (.aload_n 0), some (.iconst 5), some (.putfield 15), none, none, some (.aload_n 0), some (.iconst 0)],
  [some (.putfield 18), none, none, some (.aload_n 0), some (.iconst 0), some (.putfield 22), none, none, some (.aload_n 0), some (.iconst 0), some (.putfield 25), none, none, some (.return_)]]
theorem q_code79_ok : q_dec prog_9_method_1_code q_code79 := f_chk_ok (B := [[42, 183, 0, 3, 42, 3, 181, 0, 9, 42, 8, 181, 0, 15, 42, 3],
  [181, 0, 18, 42, 3, 181, 0, 22, 42, 3, 181, 0, 25, 177]]) (by decide +kernel)
def q_code80 : List (List (Option Instr)) := [[some (.aload_n 0), some (.aload_n 1), some (.getfield 9), none, none, some (.putfield 9), none, none, some (.aload_n 0), some (.aload_n 1), some (.getfield 15), none, none, some (.putfield 15), none, none],
  [some (.aload_n 0), some (.aload_n 1), some (.getfield 18), none, none, some (.putfield 18), none, none, some (.aload_n 0), some (.aload_n 1), some (.getfield 22), none, none, some (.putfield 22), none, none],
  [some (.aload_n 0), some (.aload_n 1), some (.getfield 25), none, none, some (.putfield 25), none, none, some (.return_)]]
theorem q_code80_ok : q_dec prog_9_method_2_code q_code80 := f_chk_ok (B := [[42, 43, 180, 0, 9, 181, 0, 9, 42, 43, 180, 0, 15, 181, 0, 15],
  [42, 43, 180, 0, 18, 181, 0, 18, 42, 43, 180, 0, 22, 181, 0, 22],
  [42, 43, 180, 0, 25, 181, 0, 25, 177]]) (by decide +kernel)
def q_code81 : List (List (Option Instr)) := [[some (.aload_n 0), some (.iload_n 1), some (.putfield 9), none, none, some (.aload_n 0), some (.iload_n 2), some (.putfield 15), none, none, some (.aload_n 0), some (.iconst 0), some (.putfield 18), none, none, some (.aload_n 0)],
  [some (.iconst 0), some (.putfield 22), none, none, some (.aload_n 0), some (.iconst 0), some (.putfield 25), none, none, some (.return_)]]
theorem q_code81_ok : q_dec prog_9_method_3_code q_code81 := f_chk_ok (B := [[42, 27, 181, 0, 9, 42, 28, 181, 0, 15, 42, 3, 181, 0, 18, 42],
  [3, 181, 0, 22, 42, 3, 181, 0, 25, 177]]) (by decide +kernel)
def q_code82 : List (List (Option Instr)) := [[some (.aload_n 0), some (.getfield 22), none, none, some (.ifCond .eq 27), none, none, some (.iload_n 1), some (.aload_n 0), some (.getfield 25), none, none, some (.if_icmp .ge 19), none, none, some (.aload_n 0)],
  [some (.aload_n 0), some (.getfield 18), none, none, some (.ifCond .ne 7), none, none, some (.iconst 1), some (.goto 4), none, none, some (.iconst 0), some (.putfield 18), none, none, some (.aload_n 0)],
  [some (.iconst 1), some (.putfield 22), none, none, some (.aload_n 0), some (.iload_n 1), some (.putfield 25), none, none, some (.aload_n 0), some (.dup), some (.getfield 9), none, none, some (.aload_n 0), some (.getfield 18)],
  [none, none, some (.ifCond .eq 11), none, none, some (.aload_n 0), some (.getfield 15), none, none, some (.ineg), some (.goto 7), none, none, some (.aload_n 0), some (.getfield 15), none],
  [none, some (.iadd), some (.putfield 9), none, none, some (.aload_n 0), some (.getfield 9), none, none, some (.ifCond .ge 27), none, none, some (.aload_n 0), some (.iconst 0), some (.putfield 9), none],
  [none, some (.aload_n 0), some (.aload_n 0), some (.getfield 18), none, none, some (.ifCond .ne 7), none, none, some (.iconst 1), some (.goto 4), none, none, some (.iconst 0), some (.putfield 18), none],
  [none, some (.goto 36), none, none, some (.aload_n 0), some (.getfield 9), none, none, some (.sipush 500), none, none, some (.if_icmp .le 26), none, none, some (.aload_n 0), some (.sipush 500)],
  [none, none, some (.putfield 9), none, none, some (.aload_n 0), some (.aload_n 0), some (.getfield 18), none, none, some (.ifCond .ne 7), none, none, some (.iconst 1), some (.goto 4), none],
  [none, some (.iconst 0), some (.putfield 18), none, none, some (.return_)]]
theorem q_code82_ok : q_dec prog_9_method_4_code q_code82 := f_chk_ok (B := [[42, 180, 0, 22, 153, 0, 27, 27, 42, 180, 0, 25, 162, 0, 19, 42],
  [42, 180, 0, 18, 154, 0, 7, 4, 167, 0, 4, 3, 181, 0, 18, 42],
  [4, 181, 0, 22, 42, 27, 181, 0, 25, 42, 89, 180, 0, 9, 42, 180],
  [0, 18, 153, 0, 11, 42, 180, 0, 15, 116, 167, 0, 7, 42, 180, 0],
  [15, 96, 181, 0, 9, 42, 180, 0, 9, 156, 0, 27, 42, 3, 181, 0],
  [9, 42, 42, 180, 0, 18, 154, 0, 7, 4, 167, 0, 4, 3, 181, 0],
  [18, 167, 0, 36, 42, 180, 0, 9, 17, 1, 244, 164, 0, 26, 42, 17],
  [1, 244, 181, 0, 9, 42, 42, 180, 0, 18, 154, 0, 7, 4, 167, 0],
  [4, 3, 181, 0, 18, 177]]) (by decide +kernel)
def q_code83 : List (List (Option Instr)) := [[some (.aload_n 0), some (.invokespecial 3), none, none, some (.aload_n 0), some (.iconst 0), some (.putfield 9), none, none, some (.aload_n 0), some (.iconst 0), some (.putfield 15), none, none, some (.aload_n 0), some (.iconst 0)],
  [some (.putfield 18), none, none, some (.aload_n 0), some (.iconst 0), some (.putfield 22), none, none, some (.aload_n 0), some (.iconst 0), some (.putfield 25), none, none, some (.aload_n 0), some (.iconst 0), some (.putfield 28)],
  [none, none, some (.aload_n 0), some (.bipush 120), none, some (.newarray .int), none, some (.putfield 31), none, none, some (.return_)]]
theorem q_code83_ok : q_dec prog_10_method_1_code q_code83 := f_chk_ok (B := [[42, 183, 0, 3, 42, 3, 181, 0, 9, 42, 3, 181, 0, 15, 42, 3],
  [181, 0, 18, 42, 3, 181, 0, 22, 42, 3, 181, 0, 25, 42, 3, 181],
  [0, 28, 42, 16, 120, 188, 10, 181, 0, 31, 177]]) (by decide +kernel)
def q_code84 : List (List (Option Instr)) := [[some (.aload_n 0), some (.getfield 9), none, none, some (.ifCond .ne 14), none, none, some (.aload_n 0), some (.getfield 15), none, none, some (.ifCond .ne 7), none, none, some (.iconst 1), some (.goto 4)],
  [none, none, some (.iconst 0), some (.ireturn)]]
theorem q_code84_ok : q_dec prog_10_method_2_code q_code84 := f_chk_ok (B := [[42, 180, 0, 9, 154, 0, 14, 42, 180, 0, 15, 154, 0, 7, 4, 167],
  [0, 4, 3, 172]]) (by decide +kernel)
def q_code85 : List (List (Option Instr)) := [[some (.aload_n 0), some (.iconst 0), some (.putfield 9), none, none, some (.aload_n 0), some (.iconst 0), some (.putfield 15), none, none, some (.return_)]]
theorem q_code85_ok : q_dec prog_10_method_3_code q_code85 := f_chk_ok (B := [[42, 3, 181, 0, 9, 42, 3, 181, 0, 15, 177]]) (by decide +kernel)
def q_code86 : List (List (Option Instr)) := [[some (.aload_n 0), some (.iconst 1), some (.putfield 9), none, none, some (.aload_n 0), some (.iconst 0), some (.putfield 15), none, none, some (.aload_n 0), some (.iload_n 1), some (.putfield 18), none, none, some (.aload_n 0)],
  [some (.iload_n 2), some (.putfield 22), none, none, some (.return_)]]
theorem q_code86_ok : q_dec prog_10_method_4_code q_code86 := f_chk_ok (B := [[42, 4, 181, 0, 9, 42, 3, 181, 0, 15, 42, 27, 181, 0, 18, 42],
  [28, 181, 0, 22, 177]]) (by decide +kernel)
def q_code87 : List (List (Option Instr)) := [[some (.aload_n 0), some (.iconst 0), some (.putfield 9), none, none, some (.aload_n 0), some (.iconst 1), some (.putfield 15), none, none, some (.aload_n 0), some (.iload_n 1), some (.putfield 25), none, none, some (.aload_n 0)],
  [some (.iload_n 2), some (.putfield 28), none, none, some (.aload_n 0), some (.getfield 31), none, none, some (.iconst 0), some (.invokestatic 35), none, none, some (.return_)]]
theorem q_code87_ok : q_dec prog_10_method_5_code q_code87 := f_chk_ok (B := [[42, 3, 181, 0, 9, 42, 4, 181, 0, 15, 42, 27, 181, 0, 25, 42],
  [28, 181, 0, 28, 42, 180, 0, 31, 3, 184, 0, 35, 177]]) (by decide +kernel)
def q_code88 : List (List (Option Instr)) := [[some (.aload_n 0), some (.getfield 25), none, none, some (.ifCond .ne 8), none, none, some (.iload_n 1), some (.i2b), some (.goto 17), none, none, some (.aload_n 0), some (.getfield 25), none, none],
  [some (.iconst 1), some (.if_icmp .ne 8), none, none, some (.iload_n 1), some (.i2s), some (.goto 4), none, none, some (.iload_n 1), some (.ireturn)]]
theorem q_code88_ok : q_dec prog_10_method_6_code q_code88 := f_chk_ok (B := [[42, 180, 0, 25, 154, 0, 8, 27, 145, 167, 0, 17, 42, 180, 0, 25],
  [4, 160, 0, 8, 27, 147, 167, 0, 4, 27, 172]]) (by decide +kernel)
def q_code89 : List (List (Option Instr)) := [[some (.aload_n 0), some (.getfield 25), none, none, some (.ifCond .ne 8), none, none, some (.bipush (-128)), none, some (.goto 19), none, none, some (.aload_n 0), some (.getfield 25), none, none],
  [some (.iconst 1), some (.if_icmp .ne 9), none, none, some (.sipush (-32768)), none, none, some (.goto 5), none, none, some (.ldc 41), none, some (.ireturn)]]
theorem q_code89_ok : q_dec prog_10_method_7_code q_code89 := f_chk_ok (B := [[42, 180, 0, 25, 154, 0, 8, 16, 128, 167, 0, 19, 42, 180, 0, 25],
  [4, 160, 0, 9, 17, 128, 0, 167, 0, 5, 18, 41, 172]]) (by decide +kernel)
def q_code90 : List (List (Option Instr)) := [[some (.iload_n 1), some (.ifCond .lt 33), none, none, some (.iload_n 2), some (.ifCond .lt 29), none, none, some (.iload_n 1), some (.i2l), some (.iload_n 2), some (.i2l), some (.ladd), some (.aload_n 0), some (.getfield 28), none],
  [none, some (.aload_n 0), some (.getfield 31), none, none, some (.arraylength), some (.invokestatic 42), none, none, some (.i2l), some (.lcmp), some (.ifCond .gt 7), none, none, some (.iconst 1), some (.goto 4)],
  [none, none, some (.iconst 0), some (.ireturn)]]
theorem q_code90_ok : q_dec prog_10_method_8_code q_code90 := f_chk_ok (B := [[27, 155, 0, 33, 28, 155, 0, 29, 27, 133, 28, 133, 97, 42, 180, 0],
  [28, 42, 180, 0, 31, 190, 184, 0, 42, 133, 148, 157, 0, 7, 4, 167],
  [0, 4, 3, 172]]) (by decide +kernel)
def q_code91 : List (List (Option Instr)) := [[some (.iconst 0), some (.istore_n 2), some (.iload_n 2), some (.aload_n 0), some (.getfield 28), none, none, some (.if_icmp .ge 23), none, none, some (.aload_n 0), some (.getfield 31), none, none, some (.iload_n 2), some (.invokestatic 48)],
  [none, none, some (.iload_n 1), some (.if_icmp .ne 5), none, none, some (.iload_n 2), some (.ireturn), some (.iinc 2 1), none, none, some (.goto (-25)), none, none, some (.aload_n 0), some (.getfield 28)],
  [none, none, some (.ireturn)]]
theorem q_code91_ok : q_dec prog_10_method_9_code q_code91 := f_chk_ok (B := [[3, 61, 28, 42, 180, 0, 28, 162, 0, 23, 42, 180, 0, 31, 28, 184],
  [0, 48, 27, 160, 0, 5, 28, 172, 132, 2, 1, 167, 255, 231, 42, 180],
  [0, 28, 172]]) (by decide +kernel)
def q_code92 : List (List (Option Instr)) := [[some (.aload_n 0), some (.invokespecial 3), none, none, some (.aload_n 0), some (.bipush 12), none, some (.newarray .int), none, some (.putfield 9), none, none, some (.aload_n 0), some (.bipush 12), none, some (.newarray .int)],
  [none, some (.putfield 15), none, none, some (.aload_n 0), some (.iconst 0), some (.putfield 18), none, none, some (.aload_n 0), some (.sipush 403), none, none, some (.newarray .int), none, some (.putfield 22)],
  [none, none, some (.return_)]]
theorem q_code92_ok : q_dec prog_11_method_1_code q_code92 := f_chk_ok (B := [[42, 183, 0, 3, 42, 16, 12, 188, 10, 181, 0, 9, 42, 16, 12, 188],
  [10, 181, 0, 15, 42, 3, 181, 0, 18, 42, 17, 1, 147, 188, 10, 181],
  [0, 22, 177]]) (by decide +kernel)
def q_code93 : List (List (Option Instr)) := [[some (.aload_n 1), some (.getfield 9), none, none, some (.aload_n 0), some (.getfield 9), none, none, some (.invokestatic 25), none, none, some (.aload_n 1), some (.getfield 15), none, none, some (.aload_n 0)],
  [some (.getfield 15), none, none, some (.invokestatic 25), none, none, some (.aload_n 0), some (.aload_n 1), some (.getfield 18), none, none, some (.putfield 18), none, none, some (.return_)]]
theorem q_code93_ok : q_dec prog_11_method_2_code q_code93 := f_chk_ok (B := [[43, 180, 0, 9, 42, 180, 0, 9, 184, 0, 25, 43, 180, 0, 15, 42],
  [180, 0, 15, 184, 0, 25, 42, 43, 180, 0, 18, 181, 0, 18, 177]]) (by decide +kernel)
def q_code94 : List (List (Option Instr)) := [[some (.aload_n 0), some (.getfield 22), none, none, some (.iconst 0), some (.invokestatic 29), none, none, some (.bipush 11), none, some (.istore_n 1), some (.iload_n 1), some (.ifCond .lt 88), none, none, some (.iconst 0)],
  [some (.istore_n 2), some (.iload_n 2), some (.aload_n 0), some (.getfield 18), none, none, some (.if_icmp .gt 72), none, none, some (.iload_n 2), some (.aload_n 0), some (.getfield 9), none, none, some (.iload_n 1), some (.invokestatic 35)],
  [none, none, some (.iadd), some (.istore_n 3), some (.iconst 0), some (.istore 4), none, some (.aload_n 0), some (.iload_n 3), some (.invokevirtual 39), none, none, some (.istore 5), none, some (.iload 5), none],
  [some (.iload_n 3), some (.if_icmp .gt 24), none, none, some (.iload 4), none, some (.aload_n 0), some (.iload_n 1), some (.iload_n 3), some (.iload 5), none, some (.invokevirtual 43), none, none, some (.invokestatic 47), none],
  [none, some (.istore 4), none, some (.iinc 5 1), none, none, some (.goto (-24)), none, none, some (.aload_n 0), some (.getfield 22), none, none, some (.iload_n 1), some (.bipush 31), none],
  [some (.imul), some (.iload_n 2), some (.iadd), some (.iload 4), none, some (.invokestatic 53), none, none, some (.iinc 2 1), none, none, some (.goto (-74)), none, none, some (.iinc 1 (-1)), none],
  [none, some (.goto (-86)), none, none, some (.return_)]]
theorem q_code94_ok : q_dec prog_11_method_3_code q_code94 := f_chk_ok (B := [[42, 180, 0, 22, 3, 184, 0, 29, 16, 11, 60, 27, 155, 0, 88, 3],
  [61, 28, 42, 180, 0, 18, 163, 0, 72, 28, 42, 180, 0, 9, 27, 184],
  [0, 35, 96, 62, 3, 54, 4, 42, 29, 182, 0, 39, 54, 5, 21, 5],
  [29, 163, 0, 24, 21, 4, 42, 27, 29, 21, 5, 182, 0, 43, 184, 0],
  [47, 54, 4, 132, 5, 1, 167, 255, 232, 42, 180, 0, 22, 27, 16, 31],
  [104, 28, 96, 21, 4, 184, 0, 53, 132, 2, 1, 167, 255, 182, 132, 1],
  [255, 167, 255, 170, 177]]) (by decide +kernel)
def q_code95 : List (List (Option Instr)) := [[some (.iconst 0), some (.iload_n 1), some (.aload_n 0), some (.getfield 18), none, none, some (.isub), some (.invokestatic 47), none, none, some (.ireturn)]]
theorem q_code95_ok : q_dec prog_11_method_4_code q_code95 := f_chk_ok (B := [[3, 27, 42, 180, 0, 18, 100, 184, 0, 47, 172]]) (by decide +kernel)
def q_code96 : List (List (Option Instr)) := [[some (.iload_n 3), some (.aload_n 0), some (.getfield 15), none, none, some (.iload_n 1), some (.invokestatic 35), none, none, some (.imul), some (.aload_n 0), some (.getfield 22), none, none, some (.iload_n 1), some (.iconst 1)],
  [some (.iadd), some (.bipush 31), none, some (.imul), some (.iload_n 2), some (.iadd), some (.iload_n 3), some (.isub), some (.invokestatic 35), none, none, some (.iadd), some (.ireturn)]]
theorem q_code96_ok : q_dec prog_11_method_5_code q_code96 := f_chk_ok (B := [[29, 42, 180, 0, 15, 27, 184, 0, 35, 104, 42, 180, 0, 22, 27, 4],
  [96, 16, 31, 104, 28, 96, 29, 100, 184, 0, 35, 96, 172]]) (by decide +kernel)
def q_code97 : List (List (Option Instr)) := [[some (.aload_n 0), some (.getfield 22), none, none, some (.iconst 0), some (.invokestatic 35), none, none, some (.ireturn)]]
theorem q_code97_ok : q_dec prog_11_method_6_code q_code97 := f_chk_ok (B := [[42, 180, 0, 22, 3, 184, 0, 35, 172]]) (by decide +kernel)
def q_code98 : List (List (Option Instr)) := [[some (.iconst 0), some (.istore_n 2), some (.iconst 0), some (.istore_n 3), some (.iconst 0), some (.istore 4), none, some (.iload 4), none, some (.iload_n 1), some (.if_icmp .gt 76), none, none, some (.iload_n 2), some (.aload_n 0), some (.getfield 9)],
  [none, none, some (.iload 4), none, some (.invokestatic 35), none, none, some (.iadd), some (.istore 5), none, some (.aload_n 0), some (.getfield 22), none, none, some (.iload 4), none],
  [some (.bipush 31), none, some (.imul), some (.iload_n 2), some (.iadd), some (.invokestatic 35), none, none, some (.istore 6), none, some (.aload_n 0), some (.iload 5), none, some (.invokevirtual 39), none, none],
  [some (.istore_n 3), some (.iload_n 3), some (.iload 5), none, some (.if_icmp .ge 23), none, none, some (.aload_n 0), some (.iload 4), none, some (.iload 5), none, some (.iload_n 3), some (.invokevirtual 43), none, none],
  [some (.iload 6), none, some (.if_icmp .eq 9), none, none, some (.iinc 3 1), none, none, some (.goto (-23)), none, none, some (.iload 5), none, some (.iload_n 3), some (.isub), some (.istore_n 2)],
  [some (.iinc 4 1), none, none, some (.goto (-76)), none, none, some (.iload_n 3), some (.ireturn)]]
theorem q_code98_ok : q_dec prog_11_method_7_code q_code98 := f_chk_ok (B := [[3, 61, 3, 62, 3, 54, 4, 21, 4, 27, 163, 0, 76, 28, 42, 180],
  [0, 9, 21, 4, 184, 0, 35, 96, 54, 5, 42, 180, 0, 22, 21, 4],
  [16, 31, 104, 28, 96, 184, 0, 35, 54, 6, 42, 21, 5, 182, 0, 39],
  [62, 29, 21, 5, 162, 0, 23, 42, 21, 4, 21, 5, 29, 182, 0, 43],
  [21, 6, 159, 0, 9, 132, 3, 1, 167, 255, 233, 21, 5, 29, 100, 61],
  [132, 4, 1, 167, 255, 180, 29, 172]]) (by decide +kernel)
def q_code99 : List (List (Option Instr)) := [[some (.aload_n 0), some (.invokespecial 3), none, none, some (.aload_n 0), some (.iconst 0), some (.putfield 9), none, none, some (.aload_n 0), some (.bipush 31), none, some (.newarray .int), none, some (.putfield 15), none],
  [none, some (.aload_n 0), some (.bipush 31), none, some (.newarray .int), none, some (.putfield 19), none, none, some (.aload_n 0), some (.bipush 31), none, some (.newarray .int), none, some (.putfield 22), none],
  [none, some (.return_)]]
theorem q_code99_ok : q_dec prog_12_method_1_code q_code99 := f_chk_ok (B := [[42, 183, 0, 3, 42, 3, 181, 0, 9, 42, 16, 31, 188, 10, 181, 0],
  [15, 42, 16, 31, 188, 10, 181, 0, 19, 42, 16, 31, 188, 10, 181, 0],
  [22, 177]]) (by decide +kernel)
def q_code100 : List (List (Option Instr)) := [[some (.aload_n 0), some (.aload_n 1), some (.getfield 25), none, none, some (.putfield 9), none, none, some (.aload_n 0), some (.getfield 15), none, none, some (.aload_n 0), some (.getfield 9), none, none],
  [some (.iconst 0), some (.invokestatic 30), none, none, some (.aload_n 0), some (.getfield 19), none, none, some (.aload_n 0), some (.getfield 9), none, none, some (.iconst 0), some (.invokestatic 30), none, none],
  [some (.aload_n 0), some (.getfield 22), none, none, some (.aload_n 0), some (.getfield 9), none, none, some (.aload_n 0), some (.getfield 9), none, none, some (.invokestatic 30), none, none, some (.aload_n 0)],
  [some (.getfield 9), none, none, some (.iconst 1), some (.isub), some (.istore 4), none, some (.iload 4), none, some (.ifCond .lt 18), none, none, some (.aload_n 0), some (.iload 4), none, some (.aload_n 1)],
  [some (.iload_n 2), some (.iload_n 3), some (.invokevirtual 34), none, none, some (.iinc 4 (-1)), none, none, some (.goto (-17)), none, none, some (.return_)]]
theorem q_code100_ok : q_dec prog_12_method_2_code q_code100 := f_chk_ok (B := [[42, 43, 180, 0, 25, 181, 0, 9, 42, 180, 0, 15, 42, 180, 0, 9],
  [3, 184, 0, 30, 42, 180, 0, 19, 42, 180, 0, 9, 3, 184, 0, 30],
  [42, 180, 0, 22, 42, 180, 0, 9, 42, 180, 0, 9, 184, 0, 30, 42],
  [180, 0, 9, 4, 100, 54, 4, 21, 4, 155, 0, 18, 42, 21, 4, 43],
  [28, 29, 182, 0, 34, 132, 4, 255, 167, 255, 239, 177]]) (by decide +kernel)
def q_code101 : List (List (Option Instr)) := [[some (.iconst 0), some (.istore 5), none, some (.iconst 0), some (.istore 6), none, some (.iload_n 1), some (.iconst 1), some (.iadd), some (.istore 7), none, some (.iload 7), none, some (.aload_n 0), some (.getfield 9), none],
  [none, some (.if_icmp .gt 202), none, none, some (.iload 7), none, some (.iconst 1), some (.isub), some (.iload_n 1), some (.isub), some (.iload_n 3), some (.imul), some (.bipush 50), none, some (.invokestatic 38), none],
  [none, some (.istore 8), none, some (.iload 5), none, some (.aload_n 2), some (.getfield 44), none, none, some (.iload 7), none, some (.iconst 1), some (.isub), some (.invokestatic 47), none, none],
  [some (.bipush 100), none, some (.iload 8), none, some (.isub), some (.imul), some (.bipush 100), none, some (.idiv), some (.iadd), some (.istore 5), none, some (.iload 7), none, some (.aload_n 0), some (.getfield 9)],
  [none, none, some (.if_icmp .ge 7), none, none, some (.iconst 1), some (.goto 4), none, none, some (.iconst 0), some (.istore 9), none, some (.iload 5), none, some (.aload_n 0), some (.getfield 15)],
  [none, none, some (.iload 7), none, some (.invokestatic 47), none, none, some (.iadd), some (.iload 9), none, some (.ifCond .eq 8), none, none, some (.iload 4), none, some (.goto 4)],
  [none, none, some (.iconst 0), some (.isub), some (.istore 10), none, some (.aload_n 0), some (.getfield 19), none, none, some (.iload 7), none, some (.invokestatic 47), none, none, some (.iload 9)],
  [none, some (.ifCond .eq 7), none, none, some (.iconst 1), some (.goto 4), none, none, some (.iconst 0), some (.iadd), some (.istore 11), none, some (.iload 10), none, some (.aload_n 0), some (.getfield 15)],
  [none, none, some (.iload_n 1), some (.invokestatic 47), none, none, some (.if_icmp .gt 29), none, none, some (.iload 10), none, some (.aload_n 0), some (.getfield 15), none, none, some (.iload_n 1)],
  [some (.invokestatic 47), none, none, some (.if_icmp .ne 20), none, none, some (.iload 11), none, some (.aload_n 0), some (.getfield 19), none, none, some (.iload_n 1), some (.invokestatic 47), none, none],
  [some (.if_icmp .gt 7), none, none, some (.iconst 1), some (.goto 4), none, none, some (.iconst 0), some (.istore 12), none, some (.iload 6), none, some (.ifCond .eq 8), none, none, some (.iload 12)],
  [none, some (.ifCond .eq 36), none, none, some (.aload_n 0), some (.getfield 15), none, none, some (.iload_n 1), some (.iload 10), none, some (.invokestatic 30), none, none, some (.aload_n 0), some (.getfield 19)],
  [none, none, some (.iload_n 1), some (.iload 11), none, some (.invokestatic 30), none, none, some (.aload_n 0), some (.getfield 22), none, none, some (.iload_n 1), some (.iload 7), none, some (.invokestatic 30)],
  [none, none, some (.iconst 1), some (.istore 6), none, some (.iinc 7 1), none, none, some (.goto (-205)), none, none, some (.return_)]]
theorem q_code101_ok : q_dec prog_12_method_3_code q_code101 := f_chk_ok (B := [[3, 54, 5, 3, 54, 6, 27, 4, 96, 54, 7, 21, 7, 42, 180, 0],
  [9, 163, 0, 202, 21, 7, 4, 100, 27, 100, 29, 104, 16, 50, 184, 0],
  [38, 54, 8, 21, 5, 44, 180, 0, 44, 21, 7, 4, 100, 184, 0, 47],
  [16, 100, 21, 8, 100, 104, 16, 100, 108, 96, 54, 5, 21, 7, 42, 180],
  [0, 9, 162, 0, 7, 4, 167, 0, 4, 3, 54, 9, 21, 5, 42, 180],
  [0, 15, 21, 7, 184, 0, 47, 96, 21, 9, 153, 0, 8, 21, 4, 167],
  [0, 4, 3, 100, 54, 10, 42, 180, 0, 19, 21, 7, 184, 0, 47, 21],
  [9, 153, 0, 7, 4, 167, 0, 4, 3, 96, 54, 11, 21, 10, 42, 180],
  [0, 15, 27, 184, 0, 47, 163, 0, 29, 21, 10, 42, 180, 0, 15, 27],
  [184, 0, 47, 160, 0, 20, 21, 11, 42, 180, 0, 19, 27, 184, 0, 47],
  [163, 0, 7, 4, 167, 0, 4, 3, 54, 12, 21, 6, 153, 0, 8, 21],
  [12, 153, 0, 36, 42, 180, 0, 15, 27, 21, 10, 184, 0, 30, 42, 180],
  [0, 19, 27, 21, 11, 184, 0, 30, 42, 180, 0, 22, 27, 21, 7, 184],
  [0, 30, 4, 54, 6, 132, 7, 1, 167, 255, 51, 177]]) (by decide +kernel)
def q_code102 : List (List (Option Instr)) := [[some (.iload_n 1), some (.ifCond .ge 12), none, none, some (.aload_n 0), some (.getfield 19), none, none, some (.iconst 0), some (.invokestatic 47), none, none, some (.ireturn), some (.iload_n 1), some (.aload_n 0), some (.getfield 19)],
  [none, none, some (.iconst 0), some (.invokestatic 47), none, none, some (.if_icmp .lt 6), none, none, some (.bipush (-4)), none, some (.ireturn), some (.aload_n 0), some (.getfield 22), none, none],
  [some (.iconst 0), some (.invokestatic 47), none, none, some (.istore_n 2), some (.iconst 0), some (.istore_n 3), some (.iload_n 3), some (.iload_n 1), some (.if_icmp .ge 18), none, none, some (.aload_n 0), some (.getfield 22), none, none],
  [some (.iload_n 2), some (.invokestatic 47), none, none, some (.istore_n 2), some (.iinc 3 1), none, none, some (.goto (-17)), none, none, some (.iload_n 2), some (.ireturn)]]
theorem q_code102_ok : q_dec prog_12_method_4_code q_code102 := f_chk_ok (B := [[27, 156, 0, 12, 42, 180, 0, 19, 3, 184, 0, 47, 172, 27, 42, 180],
  [0, 19, 3, 184, 0, 47, 161, 0, 6, 16, 252, 172, 42, 180, 0, 22],
  [3, 184, 0, 47, 61, 3, 62, 29, 27, 162, 0, 18, 42, 180, 0, 22],
  [28, 184, 0, 47, 61, 132, 3, 1, 167, 255, 239, 28, 172]]) (by decide +kernel)
def q_code103 : List (List (Option Instr)) := [[some (.aload_n 0), some (.invokespecial 3), none, none, some (.new 9), none, none, some (.dup), some (.invokespecial 11), none, none, some (.astore_n 1), some (.aload_n 0), some (.aload_n 1), some (.putfield 12), none],
  [none, some (.aload_n 0), some (.new 9), none, none, some (.dup), some (.invokespecial 11), none, none, some (.putfield 16), none, none, some (.aload_n 0), some (.iconst 0), some (.putfield 19), none],
  [none, some (.aload_n 0), some (.bipush 8), none, some (.anewarray 23), none, none, some (.putfield 25), none, none, some (.iconst 0), some (.istore_n 2), some (.iload_n 2), some (.bipush 8), none, some (.if_icmp .ge 22)],
  [none, none, some (.aload_n 0), some (.getfield 25), none, none, some (.iload_n 2), some (.new 23), none, none, some (.dup), some (.invokespecial 29), none, none, some (.aastore), some (.iinc 2 1)],
  [none, none, some (.goto (-22)), none, none, some (.aload_n 0), some (.new 30), none, none, some (.dup), some (.invokespecial 32), none, none, some (.putfield 33), none, none],
  [some (.aload_n 0), some (.new 37), none, none, some (.dup), some (.aload_n 1), some (.invokespecial 39), none, none, some (.putfield 42), none, none, some (.aload_n 0), some (.new 46), none, none],
  [some (.dup), some (.invokespecial 48), none, none, some (.putfield 49), none, none, some (.aload_n 0), some (.new 53), none, none, some (.dup), some (.invokespecial 55), none, none, some (.putfield 56)],
  [none, none, some (.aload_n 0), some (.new 60), none, none, some (.dup), some (.invokespecial 62), none, none, some (.putfield 63), none, none, some (.aload_n 0), some (.sipush 240), none],
  [none, some (.newarray .int), none, some (.putfield 67), none, none, some (.return_)]]
theorem q_code103_ok : q_dec prog_1_method_1_code q_code103 := f_chk_ok (B := [[42, 183, 0, 3, 187, 0, 9, 89, 183, 0, 11, 76, 42, 43, 181, 0],
  [12, 42, 187, 0, 9, 89, 183, 0, 11, 181, 0, 16, 42, 3, 181, 0],
  [19, 42, 16, 8, 189, 0, 23, 181, 0, 25, 3, 61, 28, 16, 8, 162],
  [0, 22, 42, 180, 0, 25, 28, 187, 0, 23, 89, 183, 0, 29, 83, 132],
  [2, 1, 167, 255, 234, 42, 187, 0, 30, 89, 183, 0, 32, 181, 0, 33],
  [42, 187, 0, 37, 89, 43, 183, 0, 39, 181, 0, 42, 42, 187, 0, 46],
  [89, 183, 0, 48, 181, 0, 49, 42, 187, 0, 53, 89, 183, 0, 55, 181],
  [0, 56, 42, 187, 0, 60, 89, 183, 0, 62, 181, 0, 63, 42, 17, 0],
  [240, 188, 10, 181, 0, 67, 177]]) (by decide +kernel)
def q_code104 : List (List (Option Instr)) := [[some (.aload_n 0), some (.iload_n 1), some (.invokevirtual 71), none, none, some (.astore_n 2), some (.aload_n 2), some (.iconst 0), some (.invokestatic 75), none, none, some (.istore_n 3), some (.iload_n 3), some (.ifCond .ne 7), none, none],
  [some (.aload_n 2), some (.ifnonnull 5), none, none, some (.iload_n 3), some (.ireturn), some (.aload_n 0), some (.getfield 33), none, none, some (.aload_n 2), some (.aload_n 0), some (.getfield 12), none, none, some (.invokevirtual 79)],
  [none, none, some (.ireturn)]]
theorem q_code104_ok : q_dec prog_1_method_2_code q_code104 := f_chk_ok (B := [[42, 27, 182, 0, 71, 77, 44, 3, 184, 0, 75, 62, 29, 154, 0, 7],
  [44, 199, 0, 5, 29, 172, 42, 180, 0, 33, 44, 42, 180, 0, 12, 182],
  [0, 79, 172]]) (by decide +kernel)
def q_code105 : List (List (Option Instr)) := [[some (.aload_n 0), some (.iload_n 1), some (.invokevirtual 83), none, none, some (.ifCond .eq 12), none, none, some (.iload_n 2), some (.ifCond .lt 8), none, none, some (.iload_n 2), some (.iconst 4), some (.if_icmp .le 5), none],
  [none, some (.iconst (-1)), some (.ireturn), some (.aload_n 0), some (.getfield 12), none, none, some (.getfield 87), none, none, some (.astore_n 3), some (.iload_n 2), some (.ifCond .ne 12), none, none, some (.aload_n 3)],
  [some (.getfield 91), none, none, some (.iload_n 1), some (.invokestatic 96), none, none, some (.ireturn), some (.iload_n 2), some (.iconst 3), some (.if_icmp .ne 12), none, none, some (.aload_n 3), some (.getfield 100), none],
  [none, some (.iload_n 1), some (.invokestatic 96), none, none, some (.ireturn), some (.iload_n 2), some (.iconst 4), some (.if_icmp .ne 26), none, none, some (.aload_n 3), some (.getfield 103), none, none, some (.iload_n 1)],
  [some (.invokestatic 96), none, none, some (.istore 4), none, some (.iload 4), none, some (.ifCond .ge 8), none, none, some (.bipush (-4)), none, some (.goto 5), none, none, some (.iload 4)],
  [none, some (.ireturn), some (.aload_n 0), some (.getfield 42), none, none, some (.iload_n 1), some (.invokevirtual 106), none, none, some (.iload_n 2), some (.iconst 1), some (.if_icmp .ne 13), none, none, some (.aload_n 0)],
  [some (.getfield 42), none, none, some (.getfield 110), none, none, some (.goto 10), none, none, some (.aload_n 0), some (.getfield 42), none, none, some (.invokevirtual 114), none, none],
  [some (.ireturn)]]
theorem q_code105_ok : q_dec prog_1_method_3_code q_code105 := f_chk_ok (B := [[42, 27, 182, 0, 83, 153, 0, 12, 28, 155, 0, 8, 28, 7, 164, 0],
  [5, 2, 172, 42, 180, 0, 12, 180, 0, 87, 78, 28, 154, 0, 12, 45],
  [180, 0, 91, 27, 184, 0, 96, 172, 28, 6, 160, 0, 12, 45, 180, 0],
  [100, 27, 184, 0, 96, 172, 28, 7, 160, 0, 26, 45, 180, 0, 103, 27],
  [184, 0, 96, 54, 4, 21, 4, 156, 0, 8, 16, 252, 167, 0, 5, 21],
  [4, 172, 42, 180, 0, 42, 27, 182, 0, 106, 28, 4, 160, 0, 13, 42],
  [180, 0, 42, 180, 0, 110, 167, 0, 10, 42, 180, 0, 42, 182, 0, 114],
  [172]]) (by decide +kernel)
def q_code106 : List (List (Option Instr)) := [[some (.aload_n 0), some (.iload_n 1), some (.invokevirtual 83), none, none, some (.ifCond .eq 16), none, none, some (.iload_n 2), some (.ifCond .lt 12), none, none, some (.iload_n 3), some (.ifCond .lt 8), none, none],
  [some (.iload_n 3), some (.iconst 1), some (.if_icmp .le 5), none, none, some (.iconst (-1)), some (.ireturn), some (.aload_n 0), some (.iload_n 1), some (.iconst 0), some (.invokevirtual 118), none, none, some (.ifCond .ne 6), none, none],
  [some (.bipush (-3)), none, some (.ireturn), some (.iload_n 2), some (.aload_n 0), some (.getfield 12), none, none, some (.getfield 87), none, none, some (.getfield 100), none, none, some (.iload_n 1), some (.invokestatic 96)],
  [none, none, some (.if_icmp .lt 5), none, none, some (.iconst (-1)), some (.ireturn), some (.aload_n 0), some (.getfield 42), none, none, some (.iload_n 1), some (.invokevirtual 106), none, none, some (.aload_n 0)],
  [some (.getfield 42), none, none, some (.iconst 0), some (.invokevirtual 122), none, none, some (.iload_n 3), some (.ifCond .ne 13), none, none, some (.aload_n 0), some (.getfield 42), none, none, some (.getfield 125)],
  [none, none, some (.goto 10), none, none, some (.aload_n 0), some (.getfield 42), none, none, some (.getfield 128), none, none, some (.iload_n 2), some (.invokestatic 96), none, none],
  [some (.ireturn)]]
theorem q_code106_ok : q_dec prog_1_method_4_code q_code106 := f_chk_ok (B := [[42, 27, 182, 0, 83, 153, 0, 16, 28, 155, 0, 12, 29, 155, 0, 8],
  [29, 4, 164, 0, 5, 2, 172, 42, 27, 3, 182, 0, 118, 154, 0, 6],
  [16, 253, 172, 28, 42, 180, 0, 12, 180, 0, 87, 180, 0, 100, 27, 184],
  [0, 96, 161, 0, 5, 2, 172, 42, 180, 0, 42, 27, 182, 0, 106, 42],
  [180, 0, 42, 3, 182, 0, 122, 29, 154, 0, 13, 42, 180, 0, 42, 180],
  [0, 125, 167, 0, 10, 42, 180, 0, 42, 180, 0, 128, 28, 184, 0, 96],
  [172]]) (by decide +kernel)
def q_code107 : List (List (Option Instr)) := [[some (.aload_n 0), some (.iload_n 1), some (.invokevirtual 83), none, none, some (.ifCond .eq 27), none, none, some (.iload_n 2), some (.ifCond .lt 23), none, none, some (.iload_n 2), some (.iconst 4), some (.if_icmp .ge 18), none],
  [none, some (.iload_n 3), some (.ifCond .lt 14), none, none, some (.iload_n 3), some (.getstatic 131), none, none, some (.iload_n 2), some (.invokestatic 96), none, none, some (.if_icmp .le 5), none, none],
  [some (.iconst (-1)), some (.ireturn), some (.aload_n 0), some (.iload_n 1), some (.iconst 0), some (.invokevirtual 118), none, none, some (.ifCond .ne 6), none, none, some (.bipush (-3)), none, some (.ireturn), some (.aload_n 0), some (.getfield 12)],
  [none, none, some (.getfield 134), none, none, some (.getfield 137), none, none, some (.iload_n 1), some (.iconst 4), some (.imul), some (.iload_n 2), some (.iadd), some (.invokestatic 96), none, none],
  [some (.istore 4), none, some (.aload_n 0), some (.getfield 12), none, none, some (.getfield 134), none, none, some (.getfield 137), none, none, some (.iload_n 1), some (.iconst 4), some (.imul), some (.iload_n 2)],
  [some (.iadd), some (.iload_n 3), some (.invokestatic 142), none, none, some (.iload 4), none, some (.ireturn)]]
theorem q_code107_ok : q_dec prog_1_method_5_code q_code107 := f_chk_ok (B := [[42, 27, 182, 0, 83, 153, 0, 27, 28, 155, 0, 23, 28, 7, 162, 0],
  [18, 29, 155, 0, 14, 29, 178, 0, 131, 28, 184, 0, 96, 164, 0, 5],
  [2, 172, 42, 27, 3, 182, 0, 118, 154, 0, 6, 16, 253, 172, 42, 180],
  [0, 12, 180, 0, 134, 180, 0, 137, 27, 7, 104, 28, 96, 184, 0, 96],
  [54, 4, 42, 180, 0, 12, 180, 0, 134, 180, 0, 137, 27, 7, 104, 28],
  [96, 29, 184, 0, 142, 21, 4, 172]]) (by decide +kernel)
def q_code108 : List (List (Option Instr)) := [[some (.aload_n 0), some (.iload_n 1), some (.invokevirtual 83), none, none, some (.ifCond .ne 5), none, none, some (.iconst (-1)), some (.ireturn), some (.aload_n 0), some (.iload_n 1), some (.iconst 0), some (.invokevirtual 118), none, none],
  [some (.ifCond .ne 6), none, none, some (.bipush (-3)), none, some (.ireturn), some (.iload_n 2), some (.ifCond .eq 7), none, none, some (.iconst 1), some (.goto 4), none, none, some (.iconst 0), some (.istore_n 3)],
  [some (.aload_n 0), some (.getfield 12), none, none, some (.getfield 134), none, none, some (.getfield 146), none, none, some (.iload_n 1), some (.invokestatic 96), none, none, some (.iload_n 3), some (.if_icmp .eq 7)],
  [none, none, some (.iconst 1), some (.goto 4), none, none, some (.iconst 0), some (.istore 4), none, some (.aload_n 0), some (.getfield 12), none, none, some (.getfield 134), none, none],
  [some (.getfield 146), none, none, some (.iload_n 1), some (.iload_n 3), some (.invokestatic 142), none, none, some (.iload 4), none, some (.ifCond .eq 7), none, none, some (.iconst 1), some (.goto 4), none],
  [none, some (.iconst 0), some (.ireturn)]]
theorem q_code108_ok : q_dec prog_1_method_6_code q_code108 := f_chk_ok (B := [[42, 27, 182, 0, 83, 154, 0, 5, 2, 172, 42, 27, 3, 182, 0, 118],
  [154, 0, 6, 16, 253, 172, 28, 153, 0, 7, 4, 167, 0, 4, 3, 62],
  [42, 180, 0, 12, 180, 0, 134, 180, 0, 146, 27, 184, 0, 96, 29, 159],
  [0, 7, 4, 167, 0, 4, 3, 54, 4, 42, 180, 0, 12, 180, 0, 134],
  [180, 0, 146, 27, 29, 184, 0, 142, 21, 4, 153, 0, 7, 4, 167, 0],
  [4, 3, 172]]) (by decide +kernel)
def q_code109 : List (List (Option Instr)) := [[some (.aload_n 0), some (.iload_n 1), some (.invokevirtual 83), none, none, some (.ifCond .eq 14), none, none, some (.iload_n 2), some (.ifCond .lt 10), none, none, some (.iload_n 2), some (.sipush 999), none, none],
  [some (.if_icmp .le 13), none, none, some (.new 149), none, none, some (.dup), some (.ldc 151), none, some (.invokespecial 153), none, none, some (.athrow), some (.aload_n 0), some (.getfield 42), none],
  [none, some (.iload_n 1), some (.invokevirtual 106), none, none, some (.aload_n 0), some (.getfield 42), none, none, some (.iload_n 2), some (.invokevirtual 156), none, none, some (.i2l), some (.lreturn)]]
theorem q_code109_ok : q_dec prog_1_method_7_code q_code109 := f_chk_ok (B := [[42, 27, 182, 0, 83, 153, 0, 14, 28, 155, 0, 10, 28, 17, 3, 231],
  [164, 0, 13, 187, 0, 149, 89, 18, 151, 183, 0, 153, 191, 42, 180, 0],
  [42, 27, 182, 0, 106, 42, 180, 0, 42, 28, 182, 0, 156, 133, 173]]) (by decide +kernel)
def q_code110 : List (List (Option Instr)) := [[some (.aload_n 0), some (.iload_n 1), some (.invokevirtual 83), none, none, some (.ifCond .eq 16), none, none, some (.iload_n 2), some (.bipush (-50)), none, some (.if_icmp .lt 10), none, none, some (.iload_n 2), some (.sipush 999)],
  [none, none, some (.if_icmp .le 5), none, none, some (.iconst (-1)), some (.ireturn), some (.aload_n 0), some (.iload_n 1), some (.iload_n 2), some (.invokevirtual 160), none, none, some (.ireturn)]]
theorem q_code110_ok : q_dec prog_1_method_8_code q_code110 := f_chk_ok (B := [[42, 27, 182, 0, 83, 153, 0, 16, 28, 16, 206, 161, 0, 10, 28, 17],
  [3, 231, 164, 0, 5, 2, 172, 42, 27, 28, 182, 0, 160, 172]]) (by decide +kernel)
def q_code111 : List (List (Option Instr)) := [[some (.aload_n 0), some (.iload_n 1), some (.invokevirtual 83), none, none, some (.ifCond .eq 12), none, none, some (.iload_n 2), some (.ifCond .lt 8), none, none, some (.iload_n 2), some (.iconst 2), some (.if_icmp .le 5), none],
  [none, some (.iconst (-1)), some (.ireturn), some (.aload_n 0), some (.getfield 42), none, none, some (.iload_n 1), some (.invokevirtual 106), none, none, some (.aload_n 0), some (.getfield 42), none, none, some (.invokevirtual 164)],
  [none, none, some (.iload_n 2), some (.ifCond .ne 13), none, none, some (.aload_n 0), some (.getfield 42), none, none, some (.getfield 167), none, none, some (.goto 32), none, none],
  [some (.iload_n 2), some (.iconst 1), some (.if_icmp .ne 13), none, none, some (.aload_n 0), some (.getfield 42), none, none, some (.getfield 170), none, none, some (.goto 17), none, none, some (.aload_n 0)],
  [some (.getfield 42), none, none, some (.aload_n 0), some (.getfield 42), none, none, some (.getfield 170), none, none, some (.invokevirtual 173), none, none, some (.ireturn)]]
theorem q_code111_ok : q_dec prog_1_method_9_code q_code111 := f_chk_ok (B := [[42, 27, 182, 0, 83, 153, 0, 12, 28, 155, 0, 8, 28, 5, 164, 0],
  [5, 2, 172, 42, 180, 0, 42, 27, 182, 0, 106, 42, 180, 0, 42, 182],
  [0, 164, 28, 154, 0, 13, 42, 180, 0, 42, 180, 0, 167, 167, 0, 32],
  [28, 4, 160, 0, 13, 42, 180, 0, 42, 180, 0, 170, 167, 0, 17, 42],
  [180, 0, 42, 42, 180, 0, 42, 180, 0, 170, 182, 0, 173, 172]]) (by decide +kernel)
def q_code112 : List (List (Option Instr)) := [[some (.aload_n 0), some (.iload_n 1), some (.invokevirtual 83), none, none, some (.ifCond .eq 8), none, none, some (.iload_n 2), some (.iconst (-1)), some (.if_icmp .ge 5), none, none, some (.iconst (-1)), some (.ireturn), some (.aload_n 0)],
  [some (.getfield 42), none, none, some (.iload_n 1), some (.invokevirtual 106), none, none, some (.aload_n 0), some (.getfield 42), none, none, some (.invokevirtual 164), none, none, some (.aload_n 0), some (.getfield 42)],
  [none, none, some (.iload_n 2), some (.invokevirtual 176), none, none, some (.ireturn)]]
theorem q_code112_ok : q_dec prog_1_method_10_code q_code112 := f_chk_ok (B := [[42, 27, 182, 0, 83, 153, 0, 8, 28, 2, 162, 0, 5, 2, 172, 42],
  [180, 0, 42, 27, 182, 0, 106, 42, 180, 0, 42, 182, 0, 164, 42, 180],
  [0, 42, 28, 182, 0, 176, 172]]) (by decide +kernel)
def q_code113 : List (List (Option Instr)) := [[some (.aload_n 0), some (.iload_n 1), some (.invokevirtual 83), none, none, some (.ifCond .eq 22), none, none, some (.iload_n 2), some (.ifCond .lt 18), none, none, some (.iload_n 2), some (.bipush 100), none, some (.if_icmp .ge 12)],
  [none, none, some (.iload_n 3), some (.ifCond .lt 8), none, none, some (.iload_n 3), some (.iconst 2), some (.if_icmp .le 5), none, none, some (.iconst (-1)), some (.ireturn), some (.aload_n 0), some (.iload_n 1), some (.iconst 1)],
  [some (.invokevirtual 118), none, none, some (.ifCond .ne 6), none, none, some (.bipush (-3)), none, some (.ireturn), some (.aload_n 0), some (.getfield 42), none, none, some (.iload_n 1), some (.invokevirtual 106), none],
  [none, some (.aload_n 0), some (.getfield 42), none, none, some (.iload_n 2), some (.invokevirtual 179), none, none, some (.iload_n 3), some (.ifCond .ne 13), none, none, some (.aload_n 0), some (.getfield 42), none],
  [none, some (.invokevirtual 182), none, none, some (.goto 26), none, none, some (.iload_n 3), some (.iconst 1), some (.if_icmp .ne 13), none, none, some (.aload_n 0), some (.getfield 42), none, none],
  [some (.invokevirtual 185), none, none, some (.goto 11), none, none, some (.aload_n 0), some (.getfield 42), none, none, some (.iload_n 2), some (.invokevirtual 188), none, none, some (.ireturn)]]
theorem q_code113_ok : q_dec prog_1_method_11_code q_code113 := f_chk_ok (B := [[42, 27, 182, 0, 83, 153, 0, 22, 28, 155, 0, 18, 28, 16, 100, 162],
  [0, 12, 29, 155, 0, 8, 29, 5, 164, 0, 5, 2, 172, 42, 27, 4],
  [182, 0, 118, 154, 0, 6, 16, 253, 172, 42, 180, 0, 42, 27, 182, 0],
  [106, 42, 180, 0, 42, 28, 182, 0, 179, 29, 154, 0, 13, 42, 180, 0],
  [42, 182, 0, 182, 167, 0, 26, 29, 4, 160, 0, 13, 42, 180, 0, 42],
  [182, 0, 185, 167, 0, 11, 42, 180, 0, 42, 28, 182, 0, 188, 172]]) (by decide +kernel)
def q_code114 : List (List (Option Instr)) := [[some (.aload_n 0), some (.iload_n 1), some (.invokevirtual 83), none, none, some (.ifCond .eq 41), none, none, some (.iload_n 2), some (.ifCond .lt 37), none, none, some (.iload_n 2), some (.iconst 1), some (.if_icmp .gt 32), none],
  [none, some (.iload_n 3), some (.iload_n 2), some (.ifCond .ne 7), none, none, some (.iconst 0), some (.goto 4), none, none, some (.iconst 1), some (.if_icmp .lt 19), none, none, some (.iload_n 3), some (.iload_n 2)],
  [some (.ifCond .ne 9), none, none, some (.sipush 500), none, none, some (.goto 5), none, none, some (.bipush 40), none, some (.if_icmp .le 5), none, none, some (.iconst (-1)), some (.ireturn)],
  [some (.aload_n 0), some (.iload_n 1), some (.invokevirtual 191), none, none, some (.astore 4), none, some (.aload 4), none, some (.ifnonnull 6), none, none, some (.bipush (-3)), none, some (.ireturn), some (.iload_n 2)],
  [some (.ifCond .ne 11), none, none, some (.aload 4), none, some (.getfield 195), none, none, some (.goto 8), none, none, some (.aload 4), none, some (.getfield 198), none, none],
  [some (.istore 5), none, some (.aload 4), none, some (.iload_n 2), some (.ifCond .ne 7), none, none, some (.iload_n 3), some (.goto 8), none, none, some (.aload 4), none, some (.getfield 195), none],
  [none, some (.iload_n 2), some (.ifCond .ne 11), none, none, some (.aload 4), none, some (.getfield 198), none, none, some (.goto 4), none, none, some (.iload_n 3), some (.invokevirtual 201), none],
  [none, some (.iload 5), none, some (.ireturn)]]
theorem q_code114_ok : q_dec prog_1_method_12_code q_code114 := f_chk_ok (B := [[42, 27, 182, 0, 83, 153, 0, 41, 28, 155, 0, 37, 28, 4, 163, 0],
  [32, 29, 28, 154, 0, 7, 3, 167, 0, 4, 4, 161, 0, 19, 29, 28],
  [154, 0, 9, 17, 1, 244, 167, 0, 5, 16, 40, 164, 0, 5, 2, 172],
  [42, 27, 182, 0, 191, 58, 4, 25, 4, 199, 0, 6, 16, 253, 172, 28],
  [154, 0, 11, 25, 4, 180, 0, 195, 167, 0, 8, 25, 4, 180, 0, 198],
  [54, 5, 25, 4, 28, 154, 0, 7, 29, 167, 0, 8, 25, 4, 180, 0],
  [195, 28, 154, 0, 11, 25, 4, 180, 0, 198, 167, 0, 4, 29, 182, 0],
  [201, 21, 5, 172]]) (by decide +kernel)
def q_code115 : List (List (Option Instr)) := [[some (.aload_n 0), some (.iload_n 1), some (.invokevirtual 83), none, none, some (.ifCond .eq 14), none, none, some (.iload_n 2), some (.iconst 1), some (.if_icmp .lt 9), none, none, some (.iload_n 2), some (.bipush 100), none],
  [some (.if_icmp .le 5), none, none, some (.iconst (-1)), some (.ireturn), some (.aload_n 0), some (.iload_n 1), some (.invokevirtual 191), none, none, some (.astore_n 3), some (.aload_n 3), some (.ifnonnull 6), none, none, some (.bipush (-3))],
  [none, some (.ireturn), some (.aload_n 0), some (.getfield 42), none, none, some (.iload_n 1), some (.invokevirtual 106), none, none, some (.aload_n 0), some (.getfield 42), none, none, some (.invokevirtual 164), none],
  [none, some (.iconst 0), some (.istore 4), none, some (.iload 4), none, some (.iload_n 2), some (.if_icmp .ge 24), none, none, some (.aload_n 3), some (.aload_n 0), some (.getfield 42), none, none, some (.aload_n 3)],
  [some (.getfield 195), none, none, some (.invokevirtual 205), none, none, some (.invokevirtual 208), none, none, some (.iinc 4 1), none, none, some (.goto (-24)), none, none, some (.aload_n 3)],
  [some (.getfield 195), none, none, some (.ireturn)]]
theorem q_code115_ok : q_dec prog_1_method_13_code q_code115 := f_chk_ok (B := [[42, 27, 182, 0, 83, 153, 0, 14, 28, 4, 161, 0, 9, 28, 16, 100],
  [164, 0, 5, 2, 172, 42, 27, 182, 0, 191, 78, 45, 199, 0, 6, 16],
  [253, 172, 42, 180, 0, 42, 27, 182, 0, 106, 42, 180, 0, 42, 182, 0],
  [164, 3, 54, 4, 21, 4, 28, 162, 0, 24, 45, 42, 180, 0, 42, 45],
  [180, 0, 195, 182, 0, 205, 182, 0, 208, 132, 4, 1, 167, 255, 232, 45],
  [180, 0, 195, 172]]) (by decide +kernel)
def q_code116 : List (List (Option Instr)) := [[some (.aload_n 0), some (.iload_n 1), some (.invokevirtual 83), none, none, some (.ifCond .eq 25), none, none, some (.iload_n 2), some (.ifCond .lt 21), none, none, some (.iload_n 2), some (.sipush 500), none, none],
  [some (.if_icmp .gt 14), none, none, some (.iload_n 3), some (.ifCond .lt 10), none, none, some (.iload_n 3), some (.sipush 200), none, none, some (.if_icmp .le 5), none, none, some (.iconst (-1)), some (.ireturn)],
  [some (.aload_n 0), some (.iload_n 1), some (.invokevirtual 191), none, none, some (.astore 4), none, some (.aload 4), none, some (.ifnonnull 6), none, none, some (.bipush (-3)), none, some (.ireturn), some (.aload_n 0)],
  [some (.getfield 42), none, none, some (.iload_n 1), some (.invokevirtual 106), none, none, some (.aload_n 0), some (.getfield 42), none, none, some (.invokevirtual 164), none, none, some (.aload_n 0), some (.getfield 49)],
  [none, none, some (.iload_n 2), some (.aload 4), none, some (.getfield 198), none, none, some (.invokevirtual 201), none, none, some (.iconst 0), some (.istore 5), none, some (.iload 5), none],
  [some (.iload_n 3), some (.if_icmp .gt 61), none, none, some (.aload_n 0), some (.getfield 49), none, none, some (.getfield 195), none, none, some (.aload_n 0), some (.getfield 42), none, none, some (.getfield 170)],
  [none, none, some (.isub), some (.invokestatic 211), none, none, some (.aload_n 0), some (.getfield 49), none, none, some (.getfield 198), none, none, some (.if_icmp .gt 6), none, none],
  [some (.iload 5), none, some (.ireturn), some (.aload_n 0), some (.getfield 49), none, none, some (.aload_n 0), some (.getfield 42), none, none, some (.aload_n 0), some (.getfield 49), none, none, some (.getfield 195)],
  [none, none, some (.invokevirtual 205), none, none, some (.invokevirtual 208), none, none, some (.iinc 5 1), none, none, some (.goto (-61)), none, none, some (.bipush (-4)), none],
  [some (.ireturn)]]
theorem q_code116_ok : q_dec prog_1_method_14_code q_code116 := f_chk_ok (B := [[42, 27, 182, 0, 83, 153, 0, 25, 28, 155, 0, 21, 28, 17, 1, 244],
  [163, 0, 14, 29, 155, 0, 10, 29, 17, 0, 200, 164, 0, 5, 2, 172],
  [42, 27, 182, 0, 191, 58, 4, 25, 4, 199, 0, 6, 16, 253, 172, 42],
  [180, 0, 42, 27, 182, 0, 106, 42, 180, 0, 42, 182, 0, 164, 42, 180],
  [0, 49, 28, 25, 4, 180, 0, 198, 182, 0, 201, 3, 54, 5, 21, 5],
  [29, 163, 0, 61, 42, 180, 0, 49, 180, 0, 195, 42, 180, 0, 42, 180],
  [0, 170, 100, 184, 0, 211, 42, 180, 0, 49, 180, 0, 198, 163, 0, 6],
  [21, 5, 172, 42, 180, 0, 49, 42, 180, 0, 42, 42, 180, 0, 49, 180],
  [0, 195, 182, 0, 205, 182, 0, 208, 132, 5, 1, 167, 255, 195, 16, 252],
  [172]]) (by decide +kernel)
