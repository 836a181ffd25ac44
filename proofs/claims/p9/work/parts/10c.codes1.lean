def q_code68 : List (List (Option Instr)) := [[some (.aload_n 1), some (.getfield 66), none, none, some (.getfield 72), none, none, some (.bipush 40), none, some (.if_icmp .lt 5), none, none, some (.iconst 0), some (.ireturn), some (.aload_n 0), some (.getfield 47)],
  [none, none, some (.iload_n 2), some (.invokestatic 83), none, none, some (.istore_n 3), some (.aload_n 0), some (.getfield 47), none, none, some (.iload_n 2), some (.iconst 1), some (.iadd), some (.invokestatic 83), none],
  [none, some (.iload_n 3), some (.isub), some (.istore 4), none, some (.aload_n 0), some (.getfield 44), none, none, some (.iload_n 2), some (.invokestatic 83), none, none, some (.istore 5), none, some (.iload 5)],
  [none, some (.bipush 99), none, some (.if_icmp .ne 14), none, none, some (.aload_n 0), some (.aload_n 1), some (.iload_n 3), some (.iload 4), none, some (.iconst 2), some (.idiv), some (.invokevirtual 123), none, none],
  [some (.ireturn), some (.iload 5), none, some (.bipush 114), none, some (.if_icmp .ne 36), none, none, some (.iload 4), none, some (.bipush 8), none, some (.if_icmp .gt 27), none, none, some (.aload_n 0)],
  [some (.aload_n 1), some (.iconst 1), some (.aload_n 0), some (.getfield 50), none, none, some (.iload_n 2), some (.invokestatic 83), none, none, some (.iload_n 3), some (.iload 4), none, some (.invokevirtual 127), none, none],
  [some (.ifCond .eq 7), none, none, some (.iconst 1), some (.goto 4), none, none, some (.iconst 0), some (.ireturn), some (.iload 5), none, some (.bipush 102), none, some (.if_icmp .ne 30), none, none],
  [some (.iload 4), none, some (.bipush 6), none, some (.if_icmp .gt 21), none, none, some (.aload_n 0), some (.aload_n 1), some (.iconst 2), some (.iload 4), none, some (.iload_n 3), some (.iload 4), none, some (.invokevirtual 127)],
  [none, none, some (.ifCond .eq 7), none, none, some (.iconst 1), some (.goto 4), none, none, some (.iconst 0), some (.ireturn), some (.aload_n 0), some (.aload_n 1), some (.iconst 3), some (.iconst 1), some (.iload_n 3)],
  [some (.iload 4), none, some (.invokevirtual 127), none, none, some (.ireturn)]]
theorem q_code68_ok : q_dec prog_7_method_12_code q_code68 := q_chk_ok (by decide +kernel)
def q_code69 : List (List (Option Instr)) := [[some (.iload_n 3), some (.iconst 2), some (.if_icmp .lt 9), none, none, some (.iload_n 3), some (.bipush 6), none, some (.if_icmp .le 5), none, none, some (.iconst 0), some (.ireturn), some (.aload_n 1), some (.iconst 0), some (.iload_n 3)],
  [some (.invokevirtual 131), none, none, some (.istore 4), none, some (.iconst 0), some (.istore 5), none, some (.iload 5), none, some (.iload_n 3), some (.if_icmp .ge 73), none, none, some (.aload_n 1), some (.getfield 135)],
  [none, none, some (.getfield 139), none, none, some (.iload 4), none, some (.bipush 6), none, some (.imul), some (.iload 5), none, some (.iadd), some (.aload_n 0), some (.getfield 53), none],
  [none, some (.iload_n 2), some (.iconst 2), some (.iload 5), none, some (.imul), some (.iadd), some (.invokestatic 83), none, none, some (.invokestatic 106), none, none, some (.aload_n 1), some (.getfield 135), none],
  [none, some (.getfield 144), none, none, some (.iload 4), none, some (.bipush 6), none, some (.imul), some (.iload 5), none, some (.iadd), some (.aload_n 0), some (.getfield 53), none, none],
  [some (.iload_n 2), some (.iconst 2), some (.iload 5), none, some (.imul), some (.iadd), some (.iconst 1), some (.iadd), some (.invokestatic 83), none, none, some (.invokestatic 106), none, none, some (.iinc 5 1), none],
  [none, some (.goto (-73)), none, none, some (.aload_n 1), some (.getfield 135), none, none, some (.iload 4), none, some (.iload_n 3), some (.invokevirtual 147), none, none, some (.ireturn)]]
theorem q_code69_ok : q_dec prog_7_method_13_code q_code69 := q_chk_ok (by decide +kernel)
def q_code70 : List (List (Option Instr)) := [[some (.aload_n 1), some (.iload_n 2), some (.iload_n 3), some (.invokevirtual 131), none, none, some (.istore 6), none, some (.iload 4), none, some (.istore 7), none, some (.iload 7), none, some (.iload 4), none],
  [some (.iload 5), none, some (.iadd), some (.if_icmp .ge 50), none, none, some (.aload_n 1), some (.getfield 66), none, none, some (.iload 6), none, some (.aload_n 0), some (.getfield 53), none, none],
  [some (.iload 7), none, some (.invokestatic 83), none, none, some (.aload_n 0), some (.getfield 56), none, none, some (.iload 7), none, some (.invokestatic 83), none, none, some (.aload_n 0), some (.getfield 59)],
  [none, none, some (.iload 7), none, some (.invokestatic 83), none, none, some (.invokevirtual 151), none, none, some (.ifCond .ne 5), none, none, some (.iconst 0), some (.ireturn), some (.iinc 7 1)],
  [none, none, some (.goto (-54)), none, none, some (.iconst 1), some (.ireturn)]]
theorem q_code70_ok : q_dec prog_7_method_14_code q_code70 := q_chk_ok (by decide +kernel)
def q_code71 : List (List (Option Instr)) := [[some (.aload_n 0), some (.invokespecial 3), none, none, some (.aload_n 0), some (.bipush 10), none, some (.newarray .int), none, some (.putfield 9), none, none, some (.aload_n 0), some (.bipush 10), none, some (.newarray .int)],
  [none, some (.putfield 15), none, none, some (.aload_n 0), some (.bipush 10), none, some (.newarray .int), none, some (.putfield 18), none, none, some (.aload_n 0), some (.bipush 12), none, some (.newarray .int)],
  [none, some (.putfield 21), none, none, some (.aload_n 0), some (.bipush 12), none, some (.newarray .int), none, some (.putfield 24), none, none, some (.aload_n 0), some (.bipush 120), none, some (.newarray .int)],
  [none, some (.putfield 27), none, none, some (.aload_n 0), some (.iconst 0), some (.putfield 30), none, none, some (.aload_n 0), some (.iconst 0), some (.putfield 34), none, none, some (.return_)]]
theorem q_code71_ok : q_dec prog_8_method_1_code q_code71 := q_chk_ok (by decide +kernel)
def q_code72 : List (List (Option Instr)) := [[some (.aload_n 1), some (.getfield 9), none, none, some (.aload_n 0), some (.getfield 9), none, none, some (.invokestatic 37), none, none, some (.aload_n 1), some (.getfield 15), none, none, some (.aload_n 0)],
  [some (.getfield 15), none, none, some (.invokestatic 37), none, none, some (.aload_n 1), some (.getfield 18), none, none, some (.aload_n 0), some (.getfield 18), none, none, some (.invokestatic 37), none],
  [none, some (.aload_n 1), some (.getfield 21), none, none, some (.aload_n 0), some (.getfield 21), none, none, some (.invokestatic 37), none, none, some (.aload_n 1), some (.getfield 24), none, none],
  [some (.aload_n 0), some (.getfield 24), none, none, some (.invokestatic 37), none, none, some (.aload_n 1), some (.getfield 27), none, none, some (.aload_n 0), some (.getfield 27), none, none, some (.invokestatic 37)],
  [none, none, some (.aload_n 0), some (.aload_n 1), some (.getfield 30), none, none, some (.putfield 30), none, none, some (.aload_n 0), some (.aload_n 1), some (.getfield 34), none, none, some (.putfield 34)],
  [none, none, some (.return_)]]
theorem q_code72_ok : q_dec prog_8_method_2_code q_code72 := q_chk_ok (by decide +kernel)
def q_code73 : List (List (Option Instr)) := [[some (.iconst 0), some (.istore_n 1), some (.iconst 0), some (.istore_n 2), some (.iload_n 2), some (.bipush 10), none, some (.if_icmp .ge 23), none, none, some (.aload_n 0), some (.getfield 18), none, none, some (.iload_n 2), some (.invokestatic 41)],
  [none, none, some (.ifCond .le 6), none, none, some (.iinc 1 1), none, none, some (.iinc 2 1), none, none, some (.goto (-23)), none, none, some (.iload_n 1), some (.ireturn)]]
theorem q_code73_ok : q_dec prog_8_method_3_code q_code73 := q_chk_ok (by decide +kernel)
def q_code74 : List (List (Option Instr)) := [[some (.aload_n 2), some (.iconst 0), some (.invokestatic 45), none, none, some (.iconst 0), some (.istore_n 3), some (.iload_n 3), some (.bipush 10), none, some (.if_icmp .ge 27), none, none, some (.aload_n 0), some (.getfield 18), none],
  [none, some (.iload_n 3), some (.invokestatic 41), none, none, some (.ifCond .le 10), none, none, some (.aload_n 0), some (.iload_n 3), some (.iload_n 1), some (.aload_n 2), some (.invokevirtual 51), none, none, some (.iinc 3 1)],
  [none, none, some (.goto (-27)), none, none, some (.return_)]]
theorem q_code74_ok : q_dec prog_8_method_4_code q_code74 := q_chk_ok (by decide +kernel)
def q_code75 : List (List (Option Instr)) := [[some (.aload_n 0), some (.getfield 21), none, none, some (.iload_n 2), some (.invokestatic 41), none, none, some (.istore 4), none, some (.aload_n 0), some (.getfield 18), none, none, some (.iload_n 1), some (.invokestatic 41)],
  [none, none, some (.aload_n 0), some (.getfield 24), none, none, some (.iload_n 2), some (.invokestatic 41), none, none, some (.imul), some (.bipush 10), none, some (.idiv), some (.istore 5), none],
  [some (.iconst 0), some (.istore 6), none, some (.iload 6), none, some (.iload 5), none, some (.if_icmp .gt 90), none, none, some (.aload_n 0), some (.getfield 9), none, none, some (.iload_n 1), some (.invokestatic 41)],
  [none, none, some (.iload 6), none, some (.getstatic 55), none, none, some (.iload 4), none, some (.invokestatic 41), none, none, some (.imul), some (.iadd), some (.istore 7), none],
  [some (.aload_n 0), some (.getfield 15), none, none, some (.iload_n 1), some (.invokestatic 41), none, none, some (.iload 6), none, some (.getstatic 58), none, none, some (.iload 4), none, some (.invokestatic 41)],
  [none, none, some (.imul), some (.iadd), some (.istore 8), none, some (.iload 7), none, some (.ifCond .lt 35), none, none, some (.iload 7), none, some (.bipush 20), none, some (.if_icmp .ge 28)],
  [none, none, some (.iload 8), none, some (.ifCond .lt 23), none, none, some (.iload 8), none, some (.bipush 12), none, some (.if_icmp .ge 16), none, none, some (.aload_n 3), some (.iload 8)],
  [none, some (.bipush 20), none, some (.imul), some (.iload 7), none, some (.iadd), some (.iconst 1), some (.invokestatic 61), none, none, some (.iinc 6 1), none, none, some (.goto (-91)), none],
  [none, some (.return_)]]
theorem q_code75_ok : q_dec prog_8_method_5_code q_code75 := q_chk_ok (by decide +kernel)
def q_code76 : List (List (Option Instr)) := [[some (.aload_n 1), some (.getfield 65), none, none, some (.aload_n 0), some (.getfield 27), none, none, some (.invokestatic 37), none, none, some (.aload_n 0), some (.aload_n 1), some (.getfield 70), none, none],
  [some (.putfield 30), none, none, some (.aload_n 0), some (.aload_n 1), some (.invokevirtual 73), none, none, some (.putfield 34), none, none, some (.return_)]]
theorem q_code76_ok : q_dec prog_8_method_6_code q_code76 := q_chk_ok (by decide +kernel)
def q_code77 : List (List (Option Instr)) := [[some (.iload_n 1), some (.ifCond .lt 11), none, none, some (.iload_n 1), some (.aload_n 0), some (.getfield 30), none, none, some (.if_icmp .lt 5), none, none, some (.iconst 0), some (.ireturn), some (.aload_n 0), some (.getfield 27)],
  [none, none, some (.iload_n 1), some (.invokestatic 41), none, none, some (.aload_n 0), some (.getfield 34), none, none, some (.if_icmp .ne 11), none, none, some (.aload_n 0), some (.iload_n 1), some (.invokevirtual 77)],
  [none, none, some (.goto 12), none, none, some (.aload_n 0), some (.getfield 27), none, none, some (.iload_n 1), some (.invokestatic 41), none, none, some (.i2l), some (.lstore_n 2), some (.lload_n 2)],
  [some (.lconst 0), some (.lcmp), some (.ifCond .ge 7), none, none, some (.iconst 0), some (.goto 18), none, none, some (.lload_n 2), some (.ldc2_w 81), none, none, some (.lcmp), some (.ifCond .le 8), none],
  [none, some (.bipush 100), none, some (.goto 5), none, none, some (.lload_n 2), some (.l2i), some (.ireturn)]]
theorem q_code77_ok : q_dec prog_8_method_7_code q_code77 := q_chk_ok (by decide +kernel)
def q_code78 : List (List (Option Instr)) := [[some (.iload_n 1), some (.istore_n 2), some (.iload_n 2), some (.ifCond .lt 24), none, none, some (.aload_n 0), some (.getfield 27), none, none, some (.iload_n 2), some (.invokestatic 41), none, none, some (.aload_n 0), some (.getfield 34)],
  [none, none, some (.if_icmp .ne 9), none, none, some (.iinc 2 (-1)), none, none, some (.goto (-22)), none, none, some (.iload_n 1), some (.istore_n 3), some (.iload_n 3), some (.aload_n 0), some (.getfield 30)],
  [none, none, some (.if_icmp .ge 24), none, none, some (.aload_n 0), some (.getfield 27), none, none, some (.iload_n 3), some (.invokestatic 41), none, none, some (.aload_n 0), some (.getfield 34), none],
  [none, some (.if_icmp .ne 9), none, none, some (.iinc 3 1), none, none, some (.goto (-26)), none, none, some (.iload_n 2), some (.ifCond .ge 13), none, none, some (.iload_n 3), some (.aload_n 0)],
  [some (.getfield 30), none, none, some (.if_icmp .lt 5), none, none, some (.lconst 0), some (.lreturn), some (.aload_n 0), some (.getfield 27), none, none, some (.iload_n 2), some (.ifCond .ge 7), none, none],
  [some (.iload_n 3), some (.goto 4), none, none, some (.iload_n 2), some (.invokestatic 41), none, none, some (.i2l), some (.lstore 4), none, some (.aload_n 0), some (.getfield 27), none, none, some (.iload_n 3)],
  [some (.aload_n 0), some (.getfield 30), none, none, some (.if_icmp .lt 7), none, none, some (.iload_n 2), some (.goto 4), none, none, some (.iload_n 3), some (.invokestatic 41), none, none, some (.i2l)],
  [some (.lstore 6), none, some (.lload 4), none, some (.lload 6), none, some (.ladd), some (.ldc2_w 83), none, none, some (.ldiv), some (.lreturn)]]
theorem q_code78_ok : q_dec prog_8_method_8_code q_code78 := q_chk_ok (by decide +kernel)
def q_code79 : List (List (Option Instr)) := [[some (.aload_n 0), some (.invokespecial 3), none, none, some (.aload_n 0), some (.iconst 0), some (.putfield 9), none, none, some (.aload_n 0), some (.iconst 5), some (.putfield 15), none, none, some (.aload_n 0), some (.iconst 0)],
  [some (.putfield 18), none, none, some (.aload_n 0), some (.iconst 0), some (.putfield 22), none, none, some (.aload_n 0), some (.iconst 0), some (.putfield 25), none, none, some (.return_)]]
theorem q_code79_ok : q_dec prog_9_method_1_code q_code79 := q_chk_ok (by decide +kernel)
def q_code80 : List (List (Option Instr)) := [[some (.aload_n 0), some (.aload_n 1), some (.getfield 9), none, none, some (.putfield 9), none, none, some (.aload_n 0), some (.aload_n 1), some (.getfield 15), none, none, some (.putfield 15), none, none],
  [some (.aload_n 0), some (.aload_n 1), some (.getfield 18), none, none, some (.putfield 18), none, none, some (.aload_n 0), some (.aload_n 1), some (.getfield 22), none, none, some (.putfield 22), none, none],
  [some (.aload_n 0), some (.aload_n 1), some (.getfield 25), none, none, some (.putfield 25), none, none, some (.return_)]]
theorem q_code80_ok : q_dec prog_9_method_2_code q_code80 := q_chk_ok (by decide +kernel)
def q_code81 : List (List (Option Instr)) := [[some (.aload_n 0), some (.iload_n 1), some (.putfield 9), none, none, some (.aload_n 0), some (.iload_n 2), some (.putfield 15), none, none, some (.aload_n 0), some (.iconst 0), some (.putfield 18), none, none, some (.aload_n 0)],
  [some (.iconst 0), some (.putfield 22), none, none, some (.aload_n 0), some (.iconst 0), some (.putfield 25), none, none, some (.return_)]]
theorem q_code81_ok : q_dec prog_9_method_3_code q_code81 := q_chk_ok (by decide +kernel)
def q_code82 : List (List (Option Instr)) := [[some (.aload_n 0), some (.getfield 22), none, none, some (.ifCond .eq 27), none, none, some (.iload_n 1), some (.aload_n 0), some (.getfield 25), none, none, some (.if_icmp .ge 19), none, none, some (.aload_n 0)],
  [some (.aload_n 0), some (.getfield 18), none, none, some (.ifCond .ne 7), none, none, some (.iconst 1), some (.goto 4), none, none, some (.iconst 0), some (.putfield 18), none, none, some (.aload_n 0)],
  [some (.iconst 1), some (.putfield 22), none, none, some (.aload_n 0), some (.iload_n 1), some (.putfield 25), none, none, some (.aload_n 0), some (.dup), some (.getfield 9), none, none, some (.aload_n 0), some (.getfield 18)],
  [none, none, some (.ifCond .eq 11), none, none, some (.aload_n 0), some (.getfield 15), none, none, some (.ineg), some (.goto 7), none, none, some (.aload_n 0), some (.getfield 15), none],
  [none, some (.iadd), some (.putfield 9), none, none, some (.aload_n 0), some (.getfield 9), none, none, some (.ifCond .ge 27), none, none, some (.aload_n 0), some (.iconst 0), some (.putfield 9), none],
  [none, some (.aload_n 0), some (.aload_n 0), some (.getfield 18), none, none, some (.ifCond .ne 7), none, none, some (.iconst 1), some (.goto 4), none, none, some (.iconst 0), some (.putfield 18), none],
  [none, some (.goto 36), none, none, some (.aload_n 0), some (.getfield 9), none, none, some (.sipush 500), none, none, some (.if_icmp .le 26), none, none, some (.aload_n 0), some (.sipush 500)],
  [none, none, some (.putfield 9), none, none, some (.aload_n 0), some (.aload_n 0), some (.getfield 18), none, none, some (.ifCond .ne 7), none, none, some (.iconst 1), some (.goto 4), none],
  [none, some (.iconst 0), some (.putfield 18), none, none, some (.return_)]]
theorem q_code82_ok : q_dec prog_9_method_4_code q_code82 := q_chk_ok (by decide +kernel)
def q_code83 : List (List (Option Instr)) := [[some (.aload_n 0), some (.invokespecial 3), none, none, some (.aload_n 0), some (.iconst 0), some (.putfield 9), none, none, some (.aload_n 0), some (.iconst 0), some (.putfield 15), none, none, some (.aload_n 0), some (.iconst 0)],
  [some (.putfield 18), none, none, some (.aload_n 0), some (.iconst 0), some (.putfield 22), none, none, some (.aload_n 0), some (.iconst 0), some (.putfield 25), none, none, some (.aload_n 0), some (.iconst 0), some (.putfield 28)],
  [none, none, some (.aload_n 0), some (.bipush 120), none, some (.newarray .int), none, some (.putfield 31), none, none, some (.return_)]]
theorem q_code83_ok : q_dec prog_10_method_1_code q_code83 := q_chk_ok (by decide +kernel)
def q_code84 : List (List (Option Instr)) := [[some (.aload_n 0), some (.getfield 9), none, none, some (.ifCond .ne 14), none, none, some (.aload_n 0), some (.getfield 15), none, none, some (.ifCond .ne 7), none, none, some (.iconst 1), some (.goto 4)],
  [none, none, some (.iconst 0), some (.ireturn)]]
theorem q_code84_ok : q_dec prog_10_method_2_code q_code84 := q_chk_ok (by decide +kernel)
def q_code85 : List (List (Option Instr)) := [[some (.aload_n 0), some (.iconst 0), some (.putfield 9), none, none, some (.aload_n 0), some (.iconst 0), some (.putfield 15), none, none, some (.return_)]]
theorem q_code85_ok : q_dec prog_10_method_3_code q_code85 := q_chk_ok (by decide +kernel)
def q_code86 : List (List (Option Instr)) := [[some (.aload_n 0), some (.iconst 1), some (.putfield 9), none, none, some (.aload_n 0), some (.iconst 0), some (.putfield 15), none, none, some (.aload_n 0), some (.iload_n 1), some (.putfield 18), none, none, some (.aload_n 0)],
  [some (.iload_n 2), some (.putfield 22), none, none, some (.return_)]]
theorem q_code86_ok : q_dec prog_10_method_4_code q_code86 := q_chk_ok (by decide +kernel)
def q_code87 : List (List (Option Instr)) := [[some (.aload_n 0), some (.iconst 0), some (.putfield 9), none, none, some (.aload_n 0), some (.iconst 1), some (.putfield 15), none, none, some (.aload_n 0), some (.iload_n 1), some (.putfield 25), none, none, some (.aload_n 0)],
  [some (.iload_n 2), some (.putfield 28), none, none, some (.aload_n 0), some (.getfield 31), none, none, some (.iconst 0), some (.invokestatic 35), none, none, some (.return_)]]
theorem q_code87_ok : q_dec prog_10_method_5_code q_code87 := q_chk_ok (by decide +kernel)
def q_code88 : List (List (Option Instr)) := [[some (.aload_n 0), some (.getfield 25), none, none, some (.ifCond .ne 8), none, none, some (.iload_n 1), some (.i2b), some (.goto 17), none, none, some (.aload_n 0), some (.getfield 25), none, none],
  [some (.iconst 1), some (.if_icmp .ne 8), none, none, some (.iload_n 1), some (.i2s), some (.goto 4), none, none, some (.iload_n 1), some (.ireturn)]]
theorem q_code88_ok : q_dec prog_10_method_6_code q_code88 := q_chk_ok (by decide +kernel)
def q_code89 : List (List (Option Instr)) := [[some (.aload_n 0), some (.getfield 25), none, none, some (.ifCond .ne 8), none, none, some (.bipush (-128)), none, some (.goto 19), none, none, some (.aload_n 0), some (.getfield 25), none, none],
  [some (.iconst 1), some (.if_icmp .ne 9), none, none, some (.sipush (-32768)), none, none, some (.goto 5), none, none, some (.ldc 41), none, some (.ireturn)]]
theorem q_code89_ok : q_dec prog_10_method_7_code q_code89 := q_chk_ok (by decide +kernel)
def q_code90 : List (List (Option Instr)) := [[some (.iload_n 1), some (.ifCond .lt 33), none, none, some (.iload_n 2), some (.ifCond .lt 29), none, none, some (.iload_n 1), some (.i2l), some (.iload_n 2), some (.i2l), some (.ladd), some (.aload_n 0), some (.getfield 28), none],
  [none, some (.aload_n 0), some (.getfield 31), none, none, some (.arraylength), some (.invokestatic 42), none, none, some (.i2l), some (.lcmp), some (.ifCond .gt 7), none, none, some (.iconst 1), some (.goto 4)],
  [none, none, some (.iconst 0), some (.ireturn)]]
theorem q_code90_ok : q_dec prog_10_method_8_code q_code90 := q_chk_ok (by decide +kernel)
def q_code91 : List (List (Option Instr)) := [[some (.iconst 0), some (.istore_n 2), some (.iload_n 2), some (.aload_n 0), some (.getfield 28), none, none, some (.if_icmp .ge 23), none, none, some (.aload_n 0), some (.getfield 31), none, none, some (.iload_n 2), some (.invokestatic 48)],
  [none, none, some (.iload_n 1), some (.if_icmp .ne 5), none, none, some (.iload_n 2), some (.ireturn), some (.iinc 2 1), none, none, some (.goto (-25)), none, none, some (.aload_n 0), some (.getfield 28)],
  [none, none, some (.ireturn)]]
theorem q_code91_ok : q_dec prog_10_method_9_code q_code91 := q_chk_ok (by decide +kernel)
def q_code92 : List (List (Option Instr)) := [[some (.aload_n 0), some (.invokespecial 3), none, none, some (.aload_n 0), some (.bipush 12), none, some (.newarray .int), none, some (.putfield 9), none, none, some (.aload_n 0), some (.bipush 12), none, some (.newarray .int)],
  [none, some (.putfield 15), none, none, some (.aload_n 0), some (.iconst 0), some (.putfield 18), none, none, some (.aload_n 0), some (.sipush 403), none, none, some (.newarray .int), none, some (.putfield 22)],
  [none, none, some (.return_)]]
theorem q_code92_ok : q_dec prog_11_method_1_code q_code92 := q_chk_ok (by decide +kernel)
def q_code93 : List (List (Option Instr)) := [[some (.aload_n 1), some (.getfield 9), none, none, some (.aload_n 0), some (.getfield 9), none, none, some (.invokestatic 25), none, none, some (.aload_n 1), some (.getfield 15), none, none, some (.aload_n 0)],
  [some (.getfield 15), none, none, some (.invokestatic 25), none, none, some (.aload_n 0), some (.aload_n 1), some (.getfield 18), none, none, some (.putfield 18), none, none, some (.return_)]]
theorem q_code93_ok : q_dec prog_11_method_2_code q_code93 := q_chk_ok (by decide +kernel)
def q_code94 : List (List (Option Instr)) := [[some (.aload_n 0), some (.getfield 22), none, none, some (.iconst 0), some (.invokestatic 29), none, none, some (.bipush 11), none, some (.istore_n 1), some (.iload_n 1), some (.ifCond .lt 88), none, none, some (.iconst 0)],
  [some (.istore_n 2), some (.iload_n 2), some (.aload_n 0), some (.getfield 18), none, none, some (.if_icmp .gt 72), none, none, some (.iload_n 2), some (.aload_n 0), some (.getfield 9), none, none, some (.iload_n 1), some (.invokestatic 35)],
  [none, none, some (.iadd), some (.istore_n 3), some (.iconst 0), some (.istore 4), none, some (.aload_n 0), some (.iload_n 3), some (.invokevirtual 39), none, none, some (.istore 5), none, some (.iload 5), none],
  [some (.iload_n 3), some (.if_icmp .gt 24), none, none, some (.iload 4), none, some (.aload_n 0), some (.iload_n 1), some (.iload_n 3), some (.iload 5), none, some (.invokevirtual 43), none, none, some (.invokestatic 47), none],
  [none, some (.istore 4), none, some (.iinc 5 1), none, none, some (.goto (-24)), none, none, some (.aload_n 0), some (.getfield 22), none, none, some (.iload_n 1), some (.bipush 31), none],
  [some (.imul), some (.iload_n 2), some (.iadd), some (.iload 4), none, some (.invokestatic 53), none, none, some (.iinc 2 1), none, none, some (.goto (-74)), none, none, some (.iinc 1 (-1)), none],
  [none, some (.goto (-86)), none, none, some (.return_)]]
theorem q_code94_ok : q_dec prog_11_method_3_code q_code94 := q_chk_ok (by decide +kernel)
def q_code95 : List (List (Option Instr)) := [[some (.iconst 0), some (.iload_n 1), some (.aload_n 0), some (.getfield 18), none, none, some (.isub), some (.invokestatic 47), none, none, some (.ireturn)]]
theorem q_code95_ok : q_dec prog_11_method_4_code q_code95 := q_chk_ok (by decide +kernel)
def q_code96 : List (List (Option Instr)) := [[some (.iload_n 3), some (.aload_n 0), some (.getfield 15), none, none, some (.iload_n 1), some (.invokestatic 35), none, none, some (.imul), some (.aload_n 0), some (.getfield 22), none, none, some (.iload_n 1), some (.iconst 1)],
  [some (.iadd), some (.bipush 31), none, some (.imul), some (.iload_n 2), some (.iadd), some (.iload_n 3), some (.isub), some (.invokestatic 35), none, none, some (.iadd), some (.ireturn)]]
theorem q_code96_ok : q_dec prog_11_method_5_code q_code96 := q_chk_ok (by decide +kernel)
def q_code97 : List (List (Option Instr)) := [[some (.aload_n 0), some (.getfield 22), none, none, some (.iconst 0), some (.invokestatic 35), none, none, some (.ireturn)]]
theorem q_code97_ok : q_dec prog_11_method_6_code q_code97 := q_chk_ok (by decide +kernel)
def q_code98 : List (List (Option Instr)) := [[some (.iconst 0), some (.istore_n 2), some (.iconst 0), some (.istore_n 3), some (.iconst 0), some (.istore 4), none, some (.iload 4), none, some (.iload_n 1), some (.if_icmp .gt 76), none, none, some (.iload_n 2), some (.aload_n 0), some (.getfield 9)],
  [none, none, some (.iload 4), none, some (.invokestatic 35), none, none, some (.iadd), some (.istore 5), none, some (.aload_n 0), some (.getfield 22), none, none, some (.iload 4), none],
  [some (.bipush 31), none, some (.imul), some (.iload_n 2), some (.iadd), some (.invokestatic 35), none, none, some (.istore 6), none, some (.aload_n 0), some (.iload 5), none, some (.invokevirtual 39), none, none],
  [some (.istore_n 3), some (.iload_n 3), some (.iload 5), none, some (.if_icmp .ge 23), none, none, some (.aload_n 0), some (.iload 4), none, some (.iload 5), none, some (.iload_n 3), some (.invokevirtual 43), none, none],
  [some (.iload 6), none, some (.if_icmp .eq 9), none, none, some (.iinc 3 1), none, none, some (.goto (-23)), none, none, some (.iload 5), none, some (.iload_n 3), some (.isub), some (.istore_n 2)],
  [some (.iinc 4 1), none, none, some (.goto (-76)), none, none, some (.iload_n 3), some (.ireturn)]]
theorem q_code98_ok : q_dec prog_11_method_7_code q_code98 := q_chk_ok (by decide +kernel)
def q_code99 : List (List (Option Instr)) := [[some (.aload_n 0), some (.invokespecial 3), none, none, some (.aload_n 0), some (.iconst 0), some (.putfield 9), none, none, some (.aload_n 0), some (.bipush 31), none, some (.newarray .int), none, some (.putfield 15), none],
  [none, some (.aload_n 0), some (.bipush 31), none, some (.newarray .int), none, some (.putfield 19), none, none, some (.aload_n 0), some (.bipush 31), none, some (.newarray .int), none, some (.putfield 22), none],
  [none, some (.return_)]]
theorem q_code99_ok : q_dec prog_12_method_1_code q_code99 := q_chk_ok (by decide +kernel)
def q_code100 : List (List (Option Instr)) := [[some (.aload_n 0), some (.aload_n 1), some (.getfield 25), none, none, some (.putfield 9), none, none, some (.aload_n 0), some (.getfield 15), none, none, some (.aload_n 0), some (.getfield 9), none, none],
  [some (.iconst 0), some (.invokestatic 30), none, none, some (.aload_n 0), some (.getfield 19), none, none, some (.aload_n 0), some (.getfield 9), none, none, some (.iconst 0), some (.invokestatic 30), none, none],
  [some (.aload_n 0), some (.getfield 22), none, none, some (.aload_n 0), some (.getfield 9), none, none, some (.aload_n 0), some (.getfield 9), none, none, some (.invokestatic 30), none, none, some (.aload_n 0)],
  [some (.getfield 9), none, none, some (.iconst 1), some (.isub), some (.istore 4), none, some (.iload 4), none, some (.ifCond .lt 18), none, none, some (.aload_n 0), some (.iload 4), none, some (.aload_n 1)],
  [some (.iload_n 2), some (.iload_n 3), some (.invokevirtual 34), none, none, some (.iinc 4 (-1)), none, none, some (.goto (-17)), none, none, some (.return_)]]
theorem q_code100_ok : q_dec prog_12_method_2_code q_code100 := q_chk_ok (by decide +kernel)
def q_code101 : List (List (Option Instr)) := [[some (.iconst 0), some (.istore 5), none, some (.iconst 0), some (.istore 6), none, some (.iload_n 1), some (.iconst 1), some (.iadd), some (.istore 7), none, some (.iload 7), none, some (.aload_n 0), some (.getfield 9), none],
  [none, some (.if_icmp .gt 202), none, none, some (.iload 7), none, some (.iconst 1), some (.isub), some (.iload_n 1), some (.isub), some (.iload_n 3), some (.imul), some (.bipush 50), none, some (.invokestatic 38), none],
  [none, some (.istore 8), none, some (.iload 5), none, some (.aload_n 2), some (.getfield 44), none, none, some (.iload 7), none, some (.iconst 1), some (.isub), some (.invokestatic 47), none, none],
  [some (.bipush 100), none, some (.iload 8), none, some (.isub), some (.imul), some (.bipush 100), none, some (.idiv), some (.iadd), some (.istore 5), none, some (.iload 7), none, some (.aload_n 0), some (.getfield 9)],
  [none, none, some (.if_icmp .ge 7), none, none, some (.iconst 1), some (.goto 4), none, none, some (.iconst 0), some (.istore 9), none, some (.iload 5), none, some (.aload_n 0), some (.getfield 15)],
  [none, none, some (.iload 7), none, some (.invokestatic 47), none, none, some (.iadd), some (.iload 9), none, some (.ifCond .eq 8), none, none, some (.iload 4), none, some (.goto 4)],
  [none, none, some (.iconst 0), some (.isub), some (.istore 10), none, some (.aload_n 0), some (.getfield 19), none, none, some (.iload 7), none, some (.invokestatic 47), none, none, some (.iload 9)],
  [none, some (.ifCond .eq 7), none, none, some (.iconst 1), some (.goto 4), none, none, some (.iconst 0), some (.iadd), some (.istore 11), none, some (.iload 10), none, some (.aload_n 0), some (.getfield 15)],
  [none, none, some (.iload_n 1), some (.invokestatic 47), none, none, some (.if_icmp .gt 29), none, none, some (.iload 10), none, some (.aload_n 0), some (.getfield 15), none, none, some (.iload_n 1)],
  [some (.invokestatic 47), none, none, some (.if_icmp .ne 20), none, none, some (.iload 11), none, some (.aload_n 0), some (.getfield 19), none, none, some (.iload_n 1), some (.invokestatic 47), none, none],
  [some (.if_icmp .gt 7), none, none, some (.iconst 1), some (.goto 4), none, none, some (.iconst 0), some (.istore 12), none, some (.iload 6), none, some (.ifCond .eq 8), none, none, some (.iload 12)],
  [none, some (.ifCond .eq 36), none, none, some (.aload_n 0), some (.getfield 15), none, none, some (.iload_n 1), some (.iload 10), none, some (.invokestatic 30), none, none, some (.aload_n 0), some (.getfield 19)],
  [none, none, some (.iload_n 1), some (.iload 11), none, some (.invokestatic 30), none, none, some (.aload_n 0), some (.getfield 22), none, none, some (.iload_n 1), some (.iload 7), none, some (.invokestatic 30)],
  [none, none, some (.iconst 1), some (.istore 6), none, some (.iinc 7 1), none, none, some (.goto (-205)), none, none, some (.return_)]]
theorem q_code101_ok : q_dec prog_12_method_3_code q_code101 := q_chk_ok (by decide +kernel)
def q_code102 : List (List (Option Instr)) := [[some (.iload_n 1), some (.ifCond .ge 12), none, none, some (.aload_n 0), some (.getfield 19), none, none, some (.iconst 0), some (.invokestatic 47), none, none, some (.ireturn), some (.iload_n 1), some (.aload_n 0), some (.getfield 19)],
  [none, none, some (.iconst 0), some (.invokestatic 47), none, none, some (.if_icmp .lt 6), none, none, some (.bipush (-4)), none, some (.ireturn), some (.aload_n 0), some (.getfield 22), none, none],
  [some (.iconst 0), some (.invokestatic 47), none, none, some (.istore_n 2), some (.iconst 0), some (.istore_n 3), some (.iload_n 3), some (.iload_n 1), some (.if_icmp .ge 18), none, none, some (.aload_n 0), some (.getfield 22), none, none],
  [some (.iload_n 2), some (.invokestatic 47), none, none, some (.istore_n 2), some (.iinc 3 1), none, none, some (.goto (-17)), none, none, some (.iload_n 2), some (.ireturn)]]
theorem q_code102_ok : q_dec prog_12_method_4_code q_code102 := q_chk_ok (by decide +kernel)
def q_code103 : List (List (Option Instr)) := [[some (.aload_n 0), some (.invokespecial 3), none, none, some (.new 9), none, none, some (.dup), some (.invokespecial 11), none, none, some (.astore_n 1), some (.aload_n 0), some (.aload_n 1), some (.putfield 12), none],
  [none, some (.aload_n 0), some (.new 9), none, none, some (.dup), some (.invokespecial 11), none, none, some (.putfield 16), none, none, some (.aload_n 0), some (.iconst 0), some (.putfield 19), none],
  [none, some (.aload_n 0), some (.bipush 8), none, some (.anewarray 23), none, none, some (.putfield 25), none, none, some (.iconst 0), some (.istore_n 2), some (.iload_n 2), some (.bipush 8), none, some (.if_icmp .ge 22)],
  [none, none, some (.aload_n 0), some (.getfield 25), none, none, some (.iload_n 2), some (.new 23), none, none, some (.dup), some (.invokespecial 29), none, none, some (.aastore), some (.iinc 2 1)],
  [none, none, some (.goto (-22)), none, none, some (.aload_n 0), some (.new 30), none, none, some (.dup), some (.invokespecial 32), none, none, some (.putfield 33), none, none],
  [some (.aload_n 0), some (.new 37), none, none, some (.dup), some (.aload_n 1), some (.invokespecial 39), none, none, some (.putfield 42), none, none, some (.aload_n 0), some (.new 46), none, none],
  [some (.dup), some (.invokespecial 48), none, none, some (.putfield 49), none, none, some (.aload_n 0), some (.new 53), none, none, some (.dup), some (.invokespecial 55), none, none, some (.putfield 56)],
  [none, none, some (.aload_n 0), some (.new 60), none, none, some (.dup), some (.invokespecial 62), none, none, some (.putfield 63), none, none, some (.aload_n 0), some (.sipush 240), none],
  [none, some (.newarray .int), none, some (.putfield 67), none, none, some (.return_)]]
theorem q_code103_ok : q_dec prog_1_method_1_code q_code103 := q_chk_ok (by decide +kernel)
def q_code104 : List (List (Option Instr)) := [[some (.aload_n 0), some (.iload_n 1), some (.invokevirtual 71), none, none, some (.astore_n 2), some (.aload_n 2), some (.iconst 0), some (.invokestatic 75), none, none, some (.istore_n 3), some (.iload_n 3), some (.ifCond .ne 7), none, none],
  [some (.aload_n 2), some (.ifnonnull 5), none, none, some (.iload_n 3), some (.ireturn), some (.aload_n 0), some (.getfield 33), none, none, some (.aload_n 2), some (.aload_n 0), some (.getfield 12), none, none, some (.invokevirtual 79)],
  [none, none, some (.ireturn)]]
theorem q_code104_ok : q_dec prog_1_method_2_code q_code104 := q_chk_ok (by decide +kernel)
def q_code105 : List (List (Option Instr)) := [[some (.aload_n 0), some (.iload_n 1), some (.invokevirtual 83), none, none, some (.ifCond .eq 12), none, none, some (.iload_n 2), some (.ifCond .lt 8), none, none, some (.iload_n 2), some (.iconst 4), some (.if_icmp .le 5), none],
  [none, some (.iconst (-1)), some (.ireturn), some (.aload_n 0), some (.getfield 12), none, none, some (.getfield 87), none, none, some (.astore_n 3), some (.iload_n 2), some (.ifCond .ne 12), none, none, some (.aload_n 3)],
  [some (.getfield 91), none, none, some (.iload_n 1), some (.invokestatic 96), none, none, some (.ireturn), some (.iload_n 2), some (.iconst 3), some (.if_icmp .ne 12), none, none, some (.aload_n 3), some (.getfield 100), none],
  [none, some (.iload_n 1), some (.invokestatic 96), none, none, some (.ireturn), some (.iload_n 2), some (.iconst 4), some (.if_icmp .ne 26), none, none, some (.aload_n 3), some (.getfield 103), none, none, some (.iload_n 1)],
  [some (.invokestatic 96), none, none, some (.istore 4), none, some (.iload 4), none, some (.ifCond .ge 8), none, none, some (.bipush (-4)), none, some (.goto 5), none, none, some (.iload 4)],
  [none, some (.ireturn), some (.aload_n 0), some (.getfield 42), none, none, some (.iload_n 1), some (.invokevirtual 106), none, none, some (.iload_n 2), some (.iconst 1), some (.if_icmp .ne 13), none, none, some (.aload_n 0)],
  [some (.getfield 42), none, none, some (.getfield 110), none, none, some (.goto 10), none, none, some (.aload_n 0), some (.getfield 42), none, none, some (.invokevirtual 114), none, none],
  [some (.ireturn)]]
theorem q_code105_ok : q_dec prog_1_method_3_code q_code105 := q_chk_ok (by decide +kernel)
def q_code106 : List (List (Option Instr)) := [[some (.aload_n 0), some (.iload_n 1), some (.invokevirtual 83), none, none, some (.ifCond .eq 16), none, none, some (.iload_n 2), some (.ifCond .lt 12), none, none, some (.iload_n 3), some (.ifCond .lt 8), none, none],
  [some (.iload_n 3), some (.iconst 1), some (.if_icmp .le 5), none, none, some (.iconst (-1)), some (.ireturn), some (.aload_n 0), some (.iload_n 1), some (.iconst 0), some (.invokevirtual 118), none, none, some (.ifCond .ne 6), none, none],
  [some (.bipush (-3)), none, some (.ireturn), some (.iload_n 2), some (.aload_n 0), some (.getfield 12), none, none, some (.getfield 87), none, none, some (.getfield 100), none, none, some (.iload_n 1), some (.invokestatic 96)],
  [none, none, some (.if_icmp .lt 5), none, none, some (.iconst (-1)), some (.ireturn), some (.aload_n 0), some (.getfield 42), none, none, some (.iload_n 1), some (.invokevirtual 106), none, none, some (.aload_n 0)],
  [some (.getfield 42), none, none, some (.iconst 0), some (.invokevirtual 122), none, none, some (.iload_n 3), some (.ifCond .ne 13), none, none, some (.aload_n 0), some (.getfield 42), none, none, some (.getfield 125)],
  [none, none, some (.goto 10), none, none, some (.aload_n 0), some (.getfield 42), none, none, some (.getfield 128), none, none, some (.iload_n 2), some (.invokestatic 96), none, none],
  [some (.ireturn)]]
theorem q_code106_ok : q_dec prog_1_method_4_code q_code106 := q_chk_ok (by decide +kernel)
def q_code107 : List (List (Option Instr)) := [[some (.aload_n 0), some (.iload_n 1), some (.invokevirtual 83), none, none, some (.ifCond .eq 27), none, none, some (.iload_n 2), some (.ifCond .lt 23), none, none, some (.iload_n 2), some (.iconst 4), some (.if_icmp .ge 18), none],
  [none, some (.iload_n 3), some (.ifCond .lt 14), none, none, some (.iload_n 3), some (.getstatic 131), none, none, some (.iload_n 2), some (.invokestatic 96), none, none, some (.if_icmp .le 5), none, none],
  [some (.iconst (-1)), some (.ireturn), some (.aload_n 0), some (.iload_n 1), some (.iconst 0), some (.invokevirtual 118), none, none, some (.ifCond .ne 6), none, none, some (.bipush (-3)), none, some (.ireturn), some (.aload_n 0), some (.getfield 12)],
  [none, none, some (.getfield 134), none, none, some (.getfield 137), none, none, some (.iload_n 1), some (.iconst 4), some (.imul), some (.iload_n 2), some (.iadd), some (.invokestatic 96), none, none],
  [some (.istore 4), none, some (.aload_n 0), some (.getfield 12), none, none, some (.getfield 134), none, none, some (.getfield 137), none, none, some (.iload_n 1), some (.iconst 4), some (.imul), some (.iload_n 2)],
  [some (.iadd), some (.iload_n 3), some (.invokestatic 142), none, none, some (.iload 4), none, some (.ireturn)]]
theorem q_code107_ok : q_dec prog_1_method_5_code q_code107 := q_chk_ok (by decide +kernel)
def q_code108 : List (List (Option Instr)) := [[some (.aload_n 0), some (.iload_n 1), some (.invokevirtual 83), none, none, some (.ifCond .ne 5), none, none, some (.iconst (-1)), some (.ireturn), some (.aload_n 0), some (.iload_n 1), some (.iconst 0), some (.invokevirtual 118), none, none],
  [some (.ifCond .ne 6), none, none, some (.bipush (-3)), none, some (.ireturn), some (.iload_n 2), some (.ifCond .eq 7), none, none, some (.iconst 1), some (.goto 4), none, none, some (.iconst 0), some (.istore_n 3)],
  [some (.aload_n 0), some (.getfield 12), none, none, some (.getfield 134), none, none, some (.getfield 146), none, none, some (.iload_n 1), some (.invokestatic 96), none, none, some (.iload_n 3), some (.if_icmp .eq 7)],
  [none, none, some (.iconst 1), some (.goto 4), none, none, some (.iconst 0), some (.istore 4), none, some (.aload_n 0), some (.getfield 12), none, none, some (.getfield 134), none, none],
  [some (.getfield 146), none, none, some (.iload_n 1), some (.iload_n 3), some (.invokestatic 142), none, none, some (.iload 4), none, some (.ifCond .eq 7), none, none, some (.iconst 1), some (.goto 4), none],
  [none, some (.iconst 0), some (.ireturn)]]
theorem q_code108_ok : q_dec prog_1_method_6_code q_code108 := q_chk_ok (by decide +kernel)
def q_code109 : List (List (Option Instr)) := [[some (.aload_n 0), some (.iload_n 1), some (.invokevirtual 83), none, none, some (.ifCond .eq 14), none, none, some (.iload_n 2), some (.ifCond .lt 10), none, none, some (.iload_n 2), some (.sipush 999), none, none],
  [some (.if_icmp .le 13), none, none, some (.new 149), none, none, some (.dup), some (.ldc 151), none, some (.invokespecial 153), none, none, some (.athrow), some (.aload_n 0), some (.getfield 42), none],
  [none, some (.iload_n 1), some (.invokevirtual 106), none, none, some (.aload_n 0), some (.getfield 42), none, none, some (.iload_n 2), some (.invokevirtual 156), none, none, some (.i2l), some (.lreturn)]]
theorem q_code109_ok : q_dec prog_1_method_7_code q_code109 := q_chk_ok (by decide +kernel)
def q_code110 : List (List (Option Instr)) := [[some (.aload_n 0), some (.iload_n 1), some (.invokevirtual 83), none, none, some (.ifCond .eq 16), none, none, some (.iload_n 2), some (.bipush (-50)), none, some (.if_icmp .lt 10), none, none, some (.iload_n 2), some (.sipush 999)],
  [none, none, some (.if_icmp .le 5), none, none, some (.iconst (-1)), some (.ireturn), some (.aload_n 0), some (.iload_n 1), some (.iload_n 2), some (.invokevirtual 160), none, none, some (.ireturn)]]
theorem q_code110_ok : q_dec prog_1_method_8_code q_code110 := q_chk_ok (by decide +kernel)
def q_code111 : List (List (Option Instr)) := [[some (.aload_n 0), some (.iload_n 1), some (.invokevirtual 83), none, none, some (.ifCond .eq 12), none, none, some (.iload_n 2), some (.ifCond .lt 8), none, none, some (.iload_n 2), some (.iconst 2), some (.if_icmp .le 5), none],
  [none, some (.iconst (-1)), some (.ireturn), some (.aload_n 0), some (.getfield 42), none, none, some (.iload_n 1), some (.invokevirtual 106), none, none, some (.aload_n 0), some (.getfield 42), none, none, some (.invokevirtual 164)],
  [none, none, some (.iload_n 2), some (.ifCond .ne 13), none, none, some (.aload_n 0), some (.getfield 42), none, none, some (.getfield 167), none, none, some (.goto 32), none, none],
  [some (.iload_n 2), some (.iconst 1), some (.if_icmp .ne 13), none, none, some (.aload_n 0), some (.getfield 42), none, none, some (.getfield 170), none, none, some (.goto 17), none, none, some (.aload_n 0)],
  [some (.getfield 42), none, none, some (.aload_n 0), some (.getfield 42), none, none, some (.getfield 170), none, none, some (.invokevirtual 173), none, none, some (.ireturn)]]
theorem q_code111_ok : q_dec prog_1_method_9_code q_code111 := q_chk_ok (by decide +kernel)
def q_code112 : List (List (Option Instr)) := [[some (.aload_n 0), some (.iload_n 1), some (.invokevirtual 83), none, none, some (.ifCond .eq 8), none, none, some (.iload_n 2), some (.iconst (-1)), some (.if_icmp .ge 5), none, none, some (.iconst (-1)), some (.ireturn), some (.aload_n 0)],
  [some (.getfield 42), none, none, some (.iload_n 1), some (.invokevirtual 106), none, none, some (.aload_n 0), some (.getfield 42), none, none, some (.invokevirtual 164), none, none, some (.aload_n 0), some (.getfield 42)],
  [none, none, some (.iload_n 2), some (.invokevirtual 176), none, none, some (.ireturn)]]
theorem q_code112_ok : q_dec prog_1_method_10_code q_code112 := q_chk_ok (by decide +kernel)
def q_code113 : List (List (Option Instr)) := [[some (.aload_n 0), some (.iload_n 1), some (.invokevirtual 83), none, none, some (.ifCond .eq 22), none, none, some (.iload_n 2), some (.ifCond .lt 18), none, none, some (.iload_n 2), some (.bipush 100), none, some (.if_icmp .ge 12)],
  [none, none, some (.iload_n 3), some (.ifCond .lt 8), none, none, some (.iload_n 3), some (.iconst 2), some (.if_icmp .le 5), none, none, some (.iconst (-1)), some (.ireturn), some (.aload_n 0), some (.iload_n 1), some (.iconst 1)],
  [some (.invokevirtual 118), none, none, some (.ifCond .ne 6), none, none, some (.bipush (-3)), none, some (.ireturn), some (.aload_n 0), some (.getfield 42), none, none, some (.iload_n 1), some (.invokevirtual 106), none],
  [none, some (.aload_n 0), some (.getfield 42), none, none, some (.iload_n 2), some (.invokevirtual 179), none, none, some (.iload_n 3), some (.ifCond .ne 13), none, none, some (.aload_n 0), some (.getfield 42), none],
  [none, some (.invokevirtual 182), none, none, some (.goto 26), none, none, some (.iload_n 3), some (.iconst 1), some (.if_icmp .ne 13), none, none, some (.aload_n 0), some (.getfield 42), none, none],
  [some (.invokevirtual 185), none, none, some (.goto 11), none, none, some (.aload_n 0), some (.getfield 42), none, none, some (.iload_n 2), some (.invokevirtual 188), none, none, some (.ireturn)]]
theorem q_code113_ok : q_dec prog_1_method_11_code q_code113 := q_chk_ok (by decide +kernel)
def q_code114 : List (List (Option Instr)) := [[some (.aload_n 0), some (.iload_n 1), some (.invokevirtual 83), none, none, some (.ifCond .eq 41), none, none, some (.iload_n 2), some (.ifCond .lt 37), none, none, some (.iload_n 2), some (.iconst 1), some (.if_icmp .gt 32), none],
  [none, some (.iload_n 3), some (.iload_n 2), some (.ifCond .ne 7), none, none, some (.iconst 0), some (.goto 4), none, none, some (.iconst 1), some (.if_icmp .lt 19), none, none, some (.iload_n 3), some (.iload_n 2)],
  [some (.ifCond .ne 9), none, none, some (.sipush 500), none, none, some (.goto 5), none, none, some (.bipush 40), none, some (.if_icmp .le 5), none, none, some (.iconst (-1)), some (.ireturn)],
  [some (.aload_n 0), some (.iload_n 1), some (.invokevirtual 191), none, none, some (.astore 4), none, some (.aload 4), none, some (.ifnonnull 6), none, none, some (.bipush (-3)), none, some (.ireturn), some (.iload_n 2)],
  [some (.ifCond .ne 11), none, none, some (.aload 4), none, some (.getfield 195), none, none, some (.goto 8), none, none, some (.aload 4), none, some (.getfield 198), none, none],
  [some (.istore 5), none, some (.aload 4), none, some (.iload_n 2), some (.ifCond .ne 7), none, none, some (.iload_n 3), some (.goto 8), none, none, some (.aload 4), none, some (.getfield 195), none],
  [none, some (.iload_n 2), some (.ifCond .ne 11), none, none, some (.aload 4), none, some (.getfield 198), none, none, some (.goto 4), none, none, some (.iload_n 3), some (.invokevirtual 201), none],
  [none, some (.iload 5), none, some (.ireturn)]]
theorem q_code114_ok : q_dec prog_1_method_12_code q_code114 := q_chk_ok (by decide +kernel)
def q_code115 : List (List (Option Instr)) := [[some (.aload_n 0), some (.iload_n 1), some (.invokevirtual 83), none, none, some (.ifCond .eq 14), none, none, some (.iload_n 2), some (.iconst 1), some (.if_icmp .lt 9), none, none, some (.iload_n 2), some (.bipush 100), none],
  [some (.if_icmp .le 5), none, none, some (.iconst (-1)), some (.ireturn), some (.aload_n 0), some (.iload_n 1), some (.invokevirtual 191), none, none, some (.astore_n 3), some (.aload_n 3), some (.ifnonnull 6), none, none, some (.bipush (-3))],
  [none, some (.ireturn), some (.aload_n 0), some (.getfield 42), none, none, some (.iload_n 1), some (.invokevirtual 106), none, none, some (.aload_n 0), some (.getfield 42), none, none, some (.invokevirtual 164), none],
  [none, some (.iconst 0), some (.istore 4), none, some (.iload 4), none, some (.iload_n 2), some (.if_icmp .ge 24), none, none, some (.aload_n 3), some (.aload_n 0), some (.getfield 42), none, none, some (.aload_n 3)],
  [some (.getfield 195), none, none, some (.invokevirtual 205), none, none, some (.invokevirtual 208), none, none, some (.iinc 4 1), none, none, some (.goto (-24)), none, none, some (.aload_n 3)],
  [some (.getfield 195), none, none, some (.ireturn)]]
theorem q_code115_ok : q_dec prog_1_method_13_code q_code115 := q_chk_ok (by decide +kernel)
def q_code116 : List (List (Option Instr)) := [[some (.aload_n 0), some (.iload_n 1), some (.invokevirtual 83), none, none, some (.ifCond .eq 25), none, none, some (.iload_n 2), some (.ifCond .lt 21), none, none, some (.iload_n 2), some (.sipush 500), none, none],
  [some (.if_icmp .gt 14), none, none, some (.iload_n 3), some (.ifCond .lt 10), none, none, some (.iload_n 3), some (.sipush 200), none, none, some (.if_icmp .le 5), none, none, some (.iconst (-1)), some (.ireturn)],
  [some (.aload_n 0), some (.iload_n 1), some (.invokevirtual 191), none, none, some (.astore 4), none, some (.aload 4), none, some (.ifnonnull 6), none, none, some (.bipush (-3)), none, some (.ireturn), some (.aload_n 0)],
  [some (.getfield 42), none, none, some (.iload_n 1), some (.invokevirtual 106), none, none, some (.aload_n 0), some (.getfield 42), none, none, some (.invokevirtual 164), none, none, some (.aload_n 0), some (.getfield 49)],
  [none, none, some (.iload_n 2), some (.aload 4), none, some (.getfield 198), none, none, some (.invokevirtual 201), none, none, some (.iconst 0), some (.istore 5), none, some (.iload 5), none],
  [some (.iload_n 3), some (.if_icmp .gt 61), none, none, some (.aload_n 0), some (.getfield 49), none, none, some (.getfield 195), none, none, some (.aload_n 0), some (.getfield 42), none, none, some (.getfield 170)],
  [none, none, some (.isub), some (.invokestatic 211), none, none, some (.aload_n 0), some (.getfield 49), none, none, some (.getfield 198), none, none, some (.if_icmp .gt 6), none, none],
  [some (.iload 5), none, some (.ireturn), some (.aload_n 0), some (.getfield 49), none, none, some (.aload_n 0), some (.getfield 42), none, none, some (.aload_n 0), some (.getfield 49), none, none, some (.getfield 195)],
  [none, none, some (.invokevirtual 205), none, none, some (.invokevirtual 208), none, none, some (.iinc 5 1), none, none, some (.goto (-61)), none, none, some (.bipush (-4)), none],
  [some (.ireturn)]]
theorem q_code116_ok : q_dec prog_1_method_14_code q_code116 := q_chk_ok (by decide +kernel)
def q_code117 : List (List (Option Instr)) := [[some (.aload_n 0), some (.iload_n 1), some (.invokevirtual 83), none, none, some (.ifCond .eq 39), none, none, some (.iload_n 2), some (.invokestatic 216), none, none, some (.ifCond .eq 32), none, none, some (.iload_n 3)],
  [some (.invokestatic 216), none, none, some (.ifCond .eq 25), none, none, some (.iload_n 2), some (.bipush 100), none, some (.idiv), some (.iload_n 3), some (.bipush 100), none, some (.idiv), some (.if_icmp .gt 14), none],
  [none, some (.iload_n 2), some (.bipush 100), none, some (.irem), some (.iload_n 3), some (.bipush 100), none, some (.irem), some (.if_icmp .le 5), none, none, some (.iconst (-1)), some (.ireturn), some (.aload_n 0), some (.iload_n 1)],
  [some (.iconst 0), some (.invokevirtual 118), none, none, some (.ifCond .ne 6), none, none, some (.bipush (-3)), none, some (.ireturn), some (.aload_n 0), some (.getfield 12), none, none, some (.getfield 134), none],
  [none, some (.getfield 219), none, none, some (.iload_n 1), some (.iload_n 2), some (.invokestatic 142), none, none, some (.aload_n 0), some (.getfield 12), none, none, some (.getfield 134), none, none],
  [some (.getfield 222), none, none, some (.iload_n 1), some (.iload_n 3), some (.invokestatic 142), none, none, some (.iload_n 3), some (.bipush 100), none, some (.idiv), some (.iload_n 2), some (.bipush 100), none, some (.idiv)],
  [some (.isub), some (.iconst 1), some (.iadd), some (.iload_n 3), some (.bipush 100), none, some (.irem), some (.iload_n 2), some (.bipush 100), none, some (.irem), some (.isub), some (.iconst 1), some (.iadd), some (.imul), some (.ireturn)]]
theorem q_code117_ok : q_dec prog_1_method_15_code q_code117 := q_chk_ok (by decide +kernel)
def q_code118 : List (List (Option Instr)) := [[some (.iload_n 2), some (.ifCond .lt 23), none, none, some (.iload_n 2), some (.bipush 20), none, some (.if_icmp .ge 17), none, none, some (.iload_n 3), some (.ifCond .lt 13), none, none, some (.iload_n 3), some (.bipush 12)],
  [none, some (.if_icmp .ge 7), none, none, some (.iconst 1), some (.goto 4), none, none, some (.iconst 0), some (.istore 5), none, some (.iload_n 1), some (.ifCond .lt 26), none, none, some (.iload_n 1)],
  [some (.bipush 10), none, some (.if_icmp .ge 20), none, none, some (.iload 5), none, some (.ifCond .eq 15), none, none, some (.iload 4), none, some (.ifCond .lt 10), none, none, some (.iload 4)],
  [none, some (.bipush 30), none, some (.if_icmp .le 5), none, none, some (.iconst (-1)), some (.ireturn), some (.aload_n 0), some (.getfield 12), none, none, some (.getfield 225), none, none, some (.astore 6)],
  [none, some (.aload 6), none, some (.getfield 229), none, none, some (.iload_n 1), some (.invokestatic 96), none, none, some (.istore 7), none, some (.aload 6), none, some (.getfield 234), none],
  [none, some (.iload_n 1), some (.iload_n 2), some (.invokestatic 142), none, none, some (.aload 6), none, some (.getfield 237), none, none, some (.iload_n 1), some (.iload_n 3), some (.invokestatic 142), none, none],
  [some (.aload 6), none, some (.getfield 229), none, none, some (.iload_n 1), some (.iload 4), none, some (.invokestatic 142), none, none, some (.iload 7), none, some (.ireturn)]]
theorem q_code118_ok : q_dec prog_1_method_16_code q_code118 := q_chk_ok (by decide +kernel)
def q_code119 : List (List (Option Instr)) := [[some (.iload_n 1), some (.invokestatic 240), none, none, some (.ifCond .eq 23), none, none, some (.iload_n 2), some (.ifCond .lt 19), none, none, some (.iload_n 2), some (.bipush 7), none, some (.if_icmp .gt 13), none],
  [none, some (.iload_n 3), some (.ifCond .lt 9), none, none, some (.iload_n 3), some (.bipush 30), none, some (.if_icmp .le 5), none, none, some (.iconst (-1)), some (.ireturn), some (.aload_n 0), some (.getfield 12), none],
  [none, some (.getfield 225), none, none, some (.astore 4), none, some (.bipush 100), none, some (.aload 4), none, some (.getfield 243), none, none, some (.iload_n 1), some (.invokestatic 96), none],
  [none, some (.imul), some (.aload 4), none, some (.getfield 246), none, none, some (.iload_n 1), some (.invokestatic 96), none, none, some (.iadd), some (.istore 5), none, some (.aload 4), none],
  [some (.getfield 243), none, none, some (.iload_n 1), some (.iload_n 2), some (.invokestatic 142), none, none, some (.aload 4), none, some (.getfield 246), none, none, some (.iload_n 1), some (.iload_n 3), some (.invokestatic 142)],
  [none, none, some (.iload 5), none, some (.ireturn)]]
theorem q_code119_ok : q_dec prog_1_method_17_code q_code119 := q_chk_ok (by decide +kernel)
def q_code120 : List (List (Option Instr)) := [[some (.aload_n 0), some (.iload_n 1), some (.invokevirtual 83), none, none, some (.ifCond .eq 10), none, none, some (.iload_n 2), some (.invokestatic 240), none, none, some (.ifCond .ne 5), none, none, some (.iconst (-1))],
  [some (.ireturn), some (.aload_n 0), some (.iload_n 1), some (.iconst 0), some (.invokevirtual 118), none, none, some (.ifCond .ne 6), none, none, some (.bipush (-3)), none, some (.ireturn), some (.aload_n 0), some (.getfield 12), none],
  [none, some (.getfield 225), none, none, some (.iload_n 2), some (.aload_n 0), some (.getfield 67), none, none, some (.invokevirtual 249), none, none, some (.aload_n 0), some (.getfield 12), none, none],
  [some (.getfield 134), none, none, some (.iload_n 1), some (.aload_n 0), some (.getfield 67), none, none, some (.invokevirtual 253), none, none, some (.ireturn)]]
theorem q_code120_ok : q_dec prog_1_method_18_code q_code120 := q_chk_ok (by decide +kernel)
def q_code121 : List (List (Option Instr)) := [[some (.aload_n 0), some (.iload_n 1), some (.invokevirtual 71), none, none, some (.astore_n 2), some (.aload_n 2), some (.iconst (-1)), some (.invokestatic 75), none, none, some (.istore_n 3), some (.iload_n 3), some (.ifCond .ne 7), none, none],
  [some (.aload_n 2), some (.ifnonnull 5), none, none, some (.iload_n 3), some (.ireturn), some (.aload_n 0), some (.getfield 12), none, none, some (.getfield 225), none, none, some (.aload_n 2), some (.invokevirtual 257), none],
  [none, some (.aload_n 2), some (.getfield 261), none, none, some (.ireturn)]]
theorem q_code121_ok : q_dec prog_1_method_19_code q_code121 := q_chk_ok (by decide +kernel)
def q_code122 : List (List (Option Instr)) := [[some (.iload_n 1), some (.invokestatic 264), none, none, some (.ifCond .eq 10), none, none, some (.iload_n 2), some (.invokestatic 240), none, none, some (.ifCond .ne 5), none, none, some (.iconst (-1)), some (.ireturn)],
  [some (.aload_n 0), some (.getfield 12), none, none, some (.getfield 225), none, none, some (.iload_n 1), some (.bipush 12), none, some (.imul), some (.iload_n 2), some (.iadd), some (.invokevirtual 267), none, none],
  [some (.ireturn)]]
theorem q_code122_ok : q_dec prog_1_method_20_code q_code122 := q_chk_ok (by decide +kernel)
def q_code123 : List (List (Option Instr)) := [[some (.aload_n 0), some (.iload_n 1), some (.invokevirtual 83), none, none, some (.ifCond .eq 17), none, none, some (.iload_n 2), some (.invokestatic 264), none, none, some (.ifCond .eq 10), none, none, some (.iload_n 3)],
  [some (.invokestatic 240), none, none, some (.ifCond .ne 5), none, none, some (.iconst (-1)), some (.ireturn), some (.aload_n 0), some (.iload_n 1), some (.iload_n 2), some (.iload_n 3), some (.invokevirtual 270), none, none, some (.ireturn)]]
theorem q_code123_ok : q_dec prog_1_method_21_code q_code123 := q_chk_ok (by decide +kernel)
def q_code124 : List (List (Option Instr)) := [[some (.aload_n 0), some (.iload_n 1), some (.invokevirtual 83), none, none, some (.ifCond .eq 10), none, none, some (.iload_n 2), some (.invokestatic 264), none, none, some (.ifCond .ne 5), none, none, some (.iconst (-1))],
  [some (.ireturn), some (.iconst 0), some (.istore_n 3), some (.iconst 0), some (.istore 4), none, some (.iload 4), none, some (.bipush 12), none, some (.if_icmp .ge 20), none, none, some (.iload_n 3), some (.aload_n 0), some (.iload_n 1)],
  [some (.iload_n 2), some (.iload 4), none, some (.invokevirtual 270), none, none, some (.iadd), some (.istore_n 3), some (.iinc 4 1), none, none, some (.goto (-21)), none, none, some (.iload_n 3), some (.ireturn)]]
theorem q_code124_ok : q_dec prog_1_method_22_code q_code124 := q_chk_ok (by decide +kernel)
def q_code125 : List (List (Option Instr)) := [[some (.aload_n 0), some (.iload_n 1), some (.iload_n 2), some (.invokevirtual 274), none, none, some (.istore_n 3), some (.iload_n 3), some (.ifCond .eq 7), none, none, some (.iload_n 3), some (.goto 14), none, none, some (.aload_n 0)],
  [some (.getfield 56), none, none, some (.getfield 277), none, none, some (.iconst 0), some (.invokestatic 96), none, none, some (.ireturn)]]
theorem q_code125_ok : q_dec prog_1_method_23_code q_code125 := q_chk_ok (by decide +kernel)
def q_code126 : List (List (Option Instr)) := [[some (.iload_n 3), some (.iconst (-1)), some (.if_icmp .ge 5), none, none, some (.iconst (-1)), some (.ireturn), some (.aload_n 0), some (.iload_n 1), some (.iload_n 2), some (.invokevirtual 274), none, none, some (.istore 4), none, some (.iload 4)],
  [none, some (.ifCond .eq 8), none, none, some (.iload 4), none, some (.goto 11), none, none, some (.aload_n 0), some (.getfield 56), none, none, some (.iload_n 3), some (.invokevirtual 280), none],
  [none, some (.ireturn)]]
theorem q_code126_ok : q_dec prog_1_method_24_code q_code126 := q_chk_ok (by decide +kernel)
def q_code127 : List (List (Option Instr)) := [[some (.aload_n 0), some (.iload_n 1), some (.invokevirtual 71), none, none, some (.astore_n 3), some (.iload_n 2), some (.ifCond .lt 8), none, none, some (.iload_n 2), some (.iconst 1), some (.if_icmp .le 5), none, none, some (.iconst (-1))],
  [some (.ireturn), some (.aload_n 3), some (.iconst 0), some (.invokestatic 75), none, none, some (.istore 4), none, some (.iload 4), none, some (.ifCond .ne 7), none, none, some (.aload_n 3), some (.ifnonnull 6), none],
  [none, some (.iload 4), none, some (.ireturn), some (.aload_n 0), some (.aload_n 3), some (.invokevirtual 283), none, none, some (.ifCond .ne 6), none, none, some (.bipush (-13)), none, some (.ireturn), some (.aload_n 0)],
  [some (.getfield 42), none, none, some (.aload_n 3), some (.invokevirtual 287), none, none, some (.aload_n 0), some (.getfield 42), none, none, some (.invokevirtual 290), none, none, some (.istore 5), none],
  [some (.iload_n 2), some (.ifCond .ne 13), none, none, some (.aload_n 0), some (.getfield 42), none, none, some (.getfield 167), none, none, some (.goto 5), none, none, some (.iload 5), none],
  [some (.ireturn)]]
theorem q_code127_ok : q_dec prog_1_method_25_code q_code127 := q_chk_ok (by decide +kernel)
def q_code128 : List (List (Option Instr)) := [[some (.iload_n 1), some (.invokestatic 240), none, none, some (.ifCond .eq 14), none, none, some (.iload_n 2), some (.ifCond .lt 10), none, none, some (.iload_n 2), some (.sipush 2099), none, none, some (.if_icmp .le 5)],
  [none, none, some (.iconst (-1)), some (.ireturn), some (.aload_n 0), some (.getfield 12), none, none, some (.getfield 293), none, none, some (.astore_n 3), some (.bipush 100), none, some (.aload_n 3), some (.getfield 297)],
  [none, none, some (.iload_n 1), some (.invokestatic 96), none, none, some (.imul), some (.aload_n 3), some (.getfield 302), none, none, some (.iload_n 1), some (.invokestatic 96), none, none, some (.iadd)],
  [some (.istore 4), none, some (.aload_n 3), some (.getfield 297), none, none, some (.iload_n 1), some (.iload_n 2), some (.bipush 100), none, some (.idiv), some (.invokestatic 142), none, none, some (.aload_n 3), some (.getfield 302)],
  [none, none, some (.iload_n 1), some (.iload_n 2), some (.bipush 100), none, some (.irem), some (.invokestatic 142), none, none, some (.iload 4), none, some (.ireturn)]]
theorem q_code128_ok : q_dec prog_1_method_26_code q_code128 := q_chk_ok (by decide +kernel)
def q_code129 : List (List (Option Instr)) := [[some (.iload_n 1), some (.ifCond .lt 9), none, none, some (.iload_n 1), some (.bipush 30), none, some (.if_icmp .le 5), none, none, some (.iconst (-1)), some (.ireturn), some (.aload_n 0), some (.getfield 12), none, none],
  [some (.getfield 293), none, none, some (.getfield 305), none, none, some (.istore_n 2), some (.aload_n 0), some (.getfield 12), none, none, some (.getfield 293), none, none, some (.iload_n 1), some (.putfield 305)],
  [none, none, some (.iload_n 2), some (.ireturn)]]
theorem q_code129_ok : q_dec prog_1_method_27_code q_code129 := q_chk_ok (by decide +kernel)
def q_code130 : List (List (Option Instr)) := [[some (.iload_n 1), some (.iconst (-1)), some (.if_icmp .lt 9), none, none, some (.iload_n 1), some (.bipush 12), none, some (.if_icmp .lt 5), none, none, some (.iconst (-1)), some (.ireturn), some (.aload_n 0), some (.getfield 12), none],
  [none, some (.getfield 293), none, none, some (.invokevirtual 308), none, none, some (.iload_n 1), some (.ifCond .ge 16), none, none, some (.aload_n 0), some (.getfield 12), none, none, some (.getfield 293)],
  [none, none, some (.invokevirtual 311), none, none, some (.goto 14), none, none, some (.aload_n 0), some (.getfield 12), none, none, some (.getfield 293), none, none, some (.iload_n 1)],
  [some (.invokevirtual 314), none, none, some (.ireturn)]]
theorem q_code130_ok : q_dec prog_1_method_28_code q_code130 := q_chk_ok (by decide +kernel)
def q_code131 : List (List (Option Instr)) := [[some (.aload_n 0), some (.iload_n 1), some (.invokevirtual 83), none, none, some (.ifCond .eq 13), none, none, some (.iload_n 2), some (.ifCond .lt 9), none, none, some (.iload_n 2), some (.bipush 16), none, some (.if_icmp .lt 5)],
  [none, none, some (.iconst (-1)), some (.ireturn), some (.aload_n 0), some (.iload_n 1), some (.iload_n 2), some (.invokevirtual 317), none, none, some (.ireturn)]]
theorem q_code131_ok : q_dec prog_1_method_29_code q_code131 := q_chk_ok (by decide +kernel)
def q_code132 : List (List (Option Instr)) := [[some (.aload_n 0), some (.iload_n 1), some (.invokevirtual 83), none, none, some (.ifCond .eq 12), none, none, some (.iload_n 2), some (.ifCond .lt 8), none, none, some (.iload_n 2), some (.iconst 4), some (.if_icmp .lt 14), none],
  [none, some (.new 149), none, none, some (.dup), some (.ldc_w 320), none, none, some (.invokespecial 153), none, none, some (.athrow), some (.iconst 1), some (.iload_n 2), some (.ishl), some (.istore 4)],
  [none, some (.iload_n 3), some (.ifCond .ne 27), none, none, some (.aload_n 0), some (.iload_n 1), some (.iconst 2), some (.iload 4), none, some (.imul), some (.iconst 1), some (.isub), some (.invokevirtual 317), none, none],
  [some (.i2l), some (.aload_n 0), some (.iload_n 1), some (.iload 4), none, some (.iconst 1), some (.isub), some (.invokevirtual 317), none, none, some (.i2l), some (.lsub), some (.lreturn), some (.lconst 0), some (.lstore 5), none],
  [some (.iconst 0), some (.istore 7), none, some (.iload 7), none, some (.bipush 16), none, some (.if_icmp .ge 59), none, none, some (.iload 7), none, some (.iload 4), none, some (.iand), some (.ifCond .ne 45)],
  [none, none, some (.aload_n 0), some (.iload_n 1), some (.iload 7), none, some (.iload 4), none, some (.ior), some (.invokevirtual 317), none, none, some (.i2l), some (.aload_n 0), some (.iload_n 1), some (.iload 7)],
  [none, some (.invokevirtual 317), none, none, some (.i2l), some (.lsub), some (.lstore 8), none, some (.lload 5), none, some (.lload 8), none, some (.getstatic 322), none, none, some (.iload 7)],
  [none, some (.invokestatic 325), none, none, some (.invokestatic 96), none, none, some (.i2l), some (.lmul), some (.ladd), some (.lstore 5), none, some (.iinc 7 1), none, none, some (.goto (-60))],
  [none, none, some (.lload 5), none, some (.lreturn)]]
theorem q_code132_ok : q_dec prog_1_method_30_code q_code132 := q_chk_ok (by decide +kernel)
def q_code133 : List (List (Option Instr)) := [[some (.aload_n 0), some (.iload_n 1), some (.invokevirtual 83), none, none, some (.ifCond .ne 5), none, none, some (.iconst (-1)), some (.ireturn), some (.aload_n 0), some (.getfield 42), none, none, some (.iload_n 1), some (.invokevirtual 106)],
  [none, none, some (.aload_n 0), some (.getfield 42), none, none, some (.invokevirtual 330), none, none, some (.ireturn)]]
theorem q_code133_ok : q_dec prog_1_method_31_code q_code133 := q_chk_ok (by decide +kernel)
def q_code134 : List (List (Option Instr)) := [[some (.iload_n 3), some (.iconst (-1)), some (.if_icmp .ge 5), none, none, some (.iconst (-1)), some (.ireturn), some (.aload_n 0), some (.iload_n 1), some (.iload_n 2), some (.invokevirtual 333), none, none, some (.istore 4), none, some (.iload 4)],
  [none, some (.ifCond .eq 8), none, none, some (.iload 4), none, some (.goto 11), none, none, some (.aload_n 0), some (.getfield 63), none, none, some (.iload_n 3), some (.invokevirtual 336), none],
  [none, some (.ireturn)]]
theorem q_code134_ok : q_dec prog_1_method_32_code q_code134 := q_chk_ok (by decide +kernel)
def q_code135 : List (List (Option Instr)) := [[some (.aload_n 0), some (.iload_n 1), some (.iload_n 2), some (.invokevirtual 333), none, none, some (.istore_n 3), some (.iload_n 3), some (.ifCond .eq 7), none, none, some (.iload_n 3), some (.goto 10), none, none, some (.aload_n 0)],
  [some (.getfield 63), none, none, some (.invokevirtual 339), none, none, some (.ireturn)]]
theorem q_code135_ok : q_dec prog_1_method_33_code q_code135 := q_chk_ok (by decide +kernel)
def q_code136 : List (List (Option Instr)) := [[some (.aload_n 0), some (.getfield 16), none, none, some (.aload_n 0), some (.getfield 12), none, none, some (.invokevirtual 342), none, none, some (.aload_n 0), some (.iconst 1), some (.putfield 19), none, none],
  [some (.aload_n 0), some (.getfield 12), none, none, some (.getfield 87), none, none, some (.getfield 345), none, none, some (.ireturn)]]
theorem q_code136_ok : q_dec prog_1_method_34_code q_code136 := q_chk_ok (by decide +kernel)
def q_code137 : List (List (Option Instr)) := [[some (.aload_n 0), some (.getfield 19), none, none, some (.ifCond .ne 6), none, none, some (.bipush (-3)), none, some (.ireturn), some (.aload_n 0), some (.getfield 12), none, none, some (.aload_n 0), some (.getfield 16)],
  [none, none, some (.invokevirtual 342), none, none, some (.aload_n 0), some (.getfield 12), none, none, some (.getfield 87), none, none, some (.getfield 345), none, none, some (.ireturn)]]
theorem q_code137_ok : q_dec prog_1_method_35_code q_code137 := q_chk_ok (by decide +kernel)
def q_code138 : List (List (Option Instr)) := [[some (.iload_n 1), some (.ifCond .lt 9), none, none, some (.iload_n 1), some (.bipush 8), none, some (.if_icmp .le 5), none, none, some (.iconst (-1)), some (.ireturn), some (.iload_n 1), some (.ifCond .ne 14), none, none],
  [some (.aload_n 0), some (.getfield 12), none, none, some (.getfield 87), none, none, some (.getfield 345), none, none, some (.ireturn), some (.iload_n 1), some (.iconst 4), some (.if_icmp .gt 17), none, none],
  [some (.aload_n 0), some (.getfield 12), none, none, some (.getfield 87), none, none, some (.iload_n 1), some (.iconst 1), some (.isub), some (.invokevirtual 346), none, none, some (.ireturn), some (.iload_n 1), some (.iconst 5)],
  [some (.if_icmp .ne 21), none, none, some (.aload_n 0), some (.getfield 12), none, none, some (.getfield 134), none, none, some (.aload_n 0), some (.getfield 12), none, none, some (.getfield 87), none],
  [none, some (.invokevirtual 349), none, none, some (.ireturn), some (.iload_n 1), some (.bipush 6), none, some (.if_icmp .ne 14), none, none, some (.aload_n 0), some (.getfield 12), none, none, some (.getfield 225)],
  [none, none, some (.invokevirtual 353), none, none, some (.ireturn), some (.iload_n 1), some (.bipush 7), none, some (.if_icmp .ne 16), none, none, some (.aload_n 0), some (.getfield 12), none, none],
  [some (.getfield 225), none, none, some (.getfield 356), none, none, some (.goto 13), none, none, some (.aload_n 0), some (.getfield 12), none, none, some (.getfield 293), none, none],
  [some (.getfield 305), none, none, some (.ireturn)]]
theorem q_code138_ok : q_dec prog_1_method_36_code q_code138 := q_chk_ok (by decide +kernel)
def q_code139 : List (List (Option Instr)) := [[some (.aload_n 0), some (.iload_n 1), some (.invokevirtual 71), none, none, some (.astore 4), none, some (.aload 4), none, some (.ifnull 25), none, none, some (.iload_n 2), some (.ifCond .lt 21), none, none],
  [some (.iload_n 2), some (.iconst 1), some (.if_icmp .gt 16), none, none, some (.iload_n 2), some (.iconst 1), some (.if_icmp .ne 13), none, none, some (.aload_n 0), some (.iload_n 3), some (.invokevirtual 83), none, none, some (.ifCond .ne 5)],
  [none, none, some (.iconst (-1)), some (.ireturn), some (.iload_n 2), some (.ifCond .ne 11), none, none, some (.aload 4), none, some (.invokevirtual 359), none, none, some (.goto 18), none, none],
  [some (.aload 4), none, some (.aload_n 0), some (.iload_n 3), some (.invokevirtual 362), none, none, some (.aload_n 0), some (.iload_n 3), some (.invokevirtual 365), none, none, some (.invokevirtual 368), none, none, some (.iconst 0)],
  [some (.ireturn)]]
theorem q_code139_ok : q_dec prog_1_method_37_code q_code139 := q_chk_ok (by decide +kernel)
def q_code140 : List (List (Option Instr)) := [[some (.aload_n 0), some (.iload_n 1), some (.invokevirtual 71), none, none, some (.astore 4), none, some (.aload 4), none, some (.ifnull 18), none, none, some (.iload_n 2), some (.ifCond .lt 14), none, none],
  [some (.iload_n 2), some (.iconst 2), some (.if_icmp .gt 9), none, none, some (.iload_n 3), some (.bipush 120), none, some (.if_icmp .le 5), none, none, some (.iconst (-1)), some (.ireturn), some (.iload_n 3), some (.ifCond .ge 6), none],
  [none, some (.bipush (-14)), none, some (.ireturn), some (.aload 4), none, some (.iload_n 2), some (.iload_n 3), some (.invokevirtual 371), none, none, some (.iconst 0), some (.ireturn)]]
theorem q_code140_ok : q_dec prog_1_method_38_code q_code140 := q_chk_ok (by decide +kernel)
def q_code141 : List (List (Option Instr)) := [[some (.aload_n 0), some (.iload_n 1), some (.invokevirtual 71), none, none, some (.astore 4), none, some (.aload 4), none, some (.iconst (-1)), some (.invokestatic 75), none, none, some (.istore 5), none, some (.iload 5)],
  [none, some (.ifCond .ne 8), none, none, some (.aload 4), none, some (.ifnonnull 6), none, none, some (.iload 5), none, some (.ireturn), some (.iload_n 2), some (.ifCond .lt 12), none, none],
  [some (.iload_n 2), some (.aload 4), none, some (.getfield 261), none, none, some (.if_icmp .lt 6), none, none, some (.bipush (-13)), none, some (.ireturn), some (.aload 4), none, some (.getfield 374), none],
  [none, some (.iload_n 2), some (.aload 4), none, some (.iload_n 3), some (.invokevirtual 377), none, none, some (.invokestatic 142), none, none, some (.iconst 0), some (.ireturn)]]
theorem q_code141_ok : q_dec prog_1_method_39_code q_code141 := q_chk_ok (by decide +kernel)
def q_code142 : List (List (Option Instr)) := [[some (.aload_n 0), some (.iload_n 1), some (.invokevirtual 71), none, none, some (.astore_n 3), some (.aload_n 3), some (.ifnonnull 14), none, none, some (.new 149), none, none, some (.dup), some (.ldc_w 380), none],
  [none, some (.invokespecial 153), none, none, some (.athrow), some (.aload_n 3), some (.getfield 382), none, none, some (.ifCond .eq 15), none, none, some (.iload_n 2), some (.ifCond .lt 11), none, none],
  [some (.iload_n 2), some (.aload_n 3), some (.getfield 261), none, none, some (.if_icmp .lt 14), none, none, some (.new 385), none, none, some (.dup), some (.ldc_w 387), none, none, some (.invokespecial 389)],
  [none, none, some (.athrow), some (.aload_n 3), some (.getfield 374), none, none, some (.iload_n 2), some (.invokestatic 96), none, none, some (.i2l), some (.lreturn)]]
theorem q_code142_ok : q_dec prog_1_method_40_code q_code142 := q_chk_ok (by decide +kernel)
