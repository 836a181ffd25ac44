def q_code0 : List (List (Option Instr)) := [[some (.aload_n 0), some (.invokespecial 3), none, none, some (.aload_n 0), some (.iconst 0), some (.putfield 9), none, none, some (.aload_n 0), some (.iconst 0), some (.putfield 15), none, none, some (.aload_n 0), some (.iconst 0)],
  [some (.putfield 18), none, none, some (.aload_n 0), some (.iconst 0), some (.putfield 21), none, none, some (.aload_n 0), some (.iconst 0), some (.putfield 24), none, none, some (.aload_n 0), some (.iconst 0), some (.putfield 27)],
  [none, none, some (.aload_n 0), some (.iconst 0), some (.putfield 30), none, none, some (.aload_n 0), some (.bipush 7), none, some (.newarray .int), none, some (.putfield 34), none, none, some (.aload_n 0)],
  [some (.bipush 40), none, some (.newarray .int), none, some (.putfield 38), none, none, some (.aload_n 0), some (.bipush 40), none, some (.newarray .int), none, some (.putfield 41), none, none, some (.aload_n 0)],
  [some (.bipush 40), none, some (.newarray .int), none, some (.putfield 44), none, none, some (.aload_n 0), some (.sipush 160), none, none, some (.newarray .int), none, some (.putfield 47), none, none],
  [some (.aload_n 0), some (.bipush 40), none, some (.newarray .int), none, some (.putfield 50), none, none, some (.aload_n 0), some (.sipush 240), none, none, some (.newarray .int), none, some (.putfield 53), none],
  [none, some (.aload_n 0), some (.sipush 240), none, none, some (.newarray .int), none, some (.putfield 56), none, none, some (.aload_n 0), some (.sipush 4040), none, none, some (.newarray .int), none],
  [some (.putfield 59), none, none, some (.aload_n 0), some (.bipush 100), none, some (.newarray .int), none, some (.putfield 62), none, none, some (.aload_n 0), some (.sipush 1000), none, none, some (.newarray .int)],
  [none, some (.putfield 65), none, none, some (.aload_n 0), some (.aload_n 1), some (.putfield 68), none, none, some (.return_)]]
theorem q_code0_ok : q_dec prog_2_method_1_code q_code0 := f_all2_ok (by decide +kernel)
def q_code1 : List (List (Option Instr)) := [[some (.aload_n 0), some (.getfield 68), none, none, some (.getfield 72), none, none, some (.astore_n 2), some (.aload_n 0), some (.invokevirtual 78), none, none, some (.aload_n 2), some (.getfield 81), none, none],
  [some (.iload_n 1), some (.invokestatic 86), none, none, some (.iconst 3), some (.if_icmp .ne 7), none, none, some (.iconst 1), some (.goto 4), none, none, some (.iconst 0), some (.istore_n 3), some (.iload_n 3), some (.ifCond .eq 17)],
  [none, none, some (.aload_n 2), some (.getfield 90), none, none, some (.iload_n 1), some (.bipush 8), none, some (.imul), some (.invokestatic 86), none, none, some (.goto 4), none, none],
  [some (.iload_n 1), some (.istore 4), none, some (.aload_n 0), some (.aload_n 2), some (.getfield 81), none, none, some (.iload 4), none, some (.invokestatic 86), none, none, some (.iconst 2), some (.if_icmp .ne 7), none],
  [none, some (.iconst 1), some (.goto 4), none, none, some (.iconst 0), some (.putfield 30), none, none, some (.aload_n 0), some (.getfield 30), none, none, some (.ifCond .ne 10), none, none],
  [some (.aload_n 0), some (.iload 4), none, some (.invokevirtual 93), none, none, some (.return_), some (.aload_n 2), some (.getfield 97), none, none, some (.iload 4), none, some (.invokestatic 86), none, none],
  [some (.istore 5), none, some (.iconst 0), some (.istore 6), none, some (.iload 6), none, some (.iload 5), none, some (.if_icmp .ge 28), none, none, some (.aload_n 0), some (.aload_n 2), some (.getfield 90), none],
  [none, some (.iload 4), none, some (.bipush 8), none, some (.imul), some (.iload 6), none, some (.iadd), some (.invokestatic 86), none, none, some (.invokevirtual 93), none, none, some (.iinc 6 1)],
  [none, none, some (.goto (-29)), none, none, some (.return_)]]
theorem q_code1_ok : q_dec prog_2_method_2_code q_code1 := f_all2_ok (by decide +kernel)
def q_code2 : List (List (Option Instr)) := [[some (.aload_n 0), some (.invokevirtual 78), none, none, some (.iconst 0), some (.istore_n 2), some (.iload_n 2), some (.aload_n 1), some (.getfield 100), none, none, some (.if_icmp .ge 22), none, none, some (.aload_n 0), some (.aload_n 1)],
  [some (.getfield 105), none, none, some (.iload_n 2), some (.invokestatic 86), none, none, some (.iload_n 2), some (.invokevirtual 108), none, none, some (.iinc 2 1), none, none, some (.goto (-24)), none],
  [none, some (.return_)]]
theorem q_code2_ok : q_dec prog_2_method_3_code q_code2 := f_all2_ok (by decide +kernel)
def q_code3 : List (List (Option Instr)) := [[some (.aload_n 0), some (.iconst 0), some (.putfield 9), none, none, some (.aload_n 0), some (.iconst 0), some (.putfield 21), none, none, some (.aload_n 0), some (.iconst 0), some (.putfield 24), none, none, some (.aload_n 0)],
  [some (.getfield 38), none, none, some (.iconst 0), some (.invokestatic 112), none, none, some (.return_)]]
theorem q_code3_ok : q_dec prog_2_method_4_code q_code3 := f_all2_ok (by decide +kernel)
def q_code4 : List (List (Option Instr)) := [[some (.aload_n 0), some (.getfield 68), none, none, some (.getfield 72), none, none, some (.astore_n 2), some (.aload_n 2), some (.getfield 81), none, none, some (.iload_n 1), some (.invokestatic 86), none, none],
  [some (.ifCond .ne 25), none, none, some (.aload_n 0), some (.iload_n 1), some (.aload_n 0), some (.getfield 21), none, none, some (.invokevirtual 108), none, none, some (.aload_n 0), some (.dup), some (.getfield 21), none],
  [none, some (.iconst 1), some (.iadd), some (.putfield 21), none, none, some (.goto 102), none, none, some (.aload_n 2), some (.getfield 97), none, none, some (.iload_n 1), some (.invokestatic 86), none],
  [none, some (.istore_n 3), some (.iconst 0), some (.istore 4), none, some (.iload 4), none, some (.iload_n 3), some (.if_icmp .ge 67), none, none, some (.iload_n 1), some (.bipush 8), none, some (.imul), some (.iload 4)],
  [none, some (.iadd), some (.istore 5), none, some (.aload_n 0), some (.getfield 21), none, none, some (.aload_n 2), some (.getfield 118), none, none, some (.iload 5), none, some (.invokestatic 86), none],
  [none, some (.iadd), some (.istore 6), none, some (.aload_n 0), some (.getfield 38), none, none, some (.iload 6), none, some (.aload_n 2), some (.getfield 119), none, none, some (.iload 5), none],
  [some (.invokestatic 86), none, none, some (.invokestatic 120), none, none, some (.aload_n 0), some (.aload_n 2), some (.getfield 90), none, none, some (.iload 5), none, some (.invokestatic 86), none, none],
  [some (.iload 6), none, some (.invokevirtual 108), none, none, some (.iinc 4 1), none, none, some (.goto (-67)), none, none, some (.aload_n 0), some (.dup), some (.getfield 21), none, none],
  [some (.aload_n 2), some (.getfield 124), none, none, some (.iload_n 1), some (.invokestatic 86), none, none, some (.iadd), some (.putfield 21), none, none, some (.aload_n 0), some (.dup), some (.getfield 24), none],
  [none, some (.iconst 1), some (.iadd), some (.putfield 24), none, none, some (.aload_n 0), some (.getfield 34), none, none, some (.aload_n 0), some (.getfield 24), none, none, some (.aload_n 0), some (.getfield 9)],
  [none, none, some (.invokestatic 120), none, none, some (.return_)]]
theorem q_code4_ok : q_dec prog_2_method_5_code q_code4 := f_all2_ok (by decide +kernel)
def q_code5 : List (List (Option Instr)) := [[some (.aload_n 0), some (.getfield 44), none, none, some (.aload_n 0), some (.getfield 9), none, none, some (.iload_n 1), some (.invokestatic 120), none, none, some (.aload_n 0), some (.getfield 41), none, none],
  [some (.aload_n 0), some (.getfield 9), none, none, some (.iload_n 2), some (.invokestatic 120), none, none, some (.aload_n 0), some (.getfield 50), none, none, some (.aload_n 0), some (.getfield 9), none, none],
  [some (.aload_n 0), some (.getfield 68), none, none, some (.getfield 127), none, none, some (.getfield 130), none, none, some (.iload_n 1), some (.invokestatic 86), none, none, some (.invokestatic 120), none],
  [none, some (.iconst 0), some (.istore_n 3), some (.iload_n 3), some (.iconst 4), some (.if_icmp .ge 42), none, none, some (.aload_n 0), some (.getfield 47), none, none, some (.aload_n 0), some (.getfield 9), none, none],
  [some (.iconst 4), some (.imul), some (.iload_n 3), some (.iadd), some (.aload_n 0), some (.getfield 68), none, none, some (.getfield 127), none, none, some (.getfield 133), none, none, some (.iload_n 1), some (.iconst 4)],
  [some (.imul), some (.iload_n 3), some (.iadd), some (.invokestatic 86), none, none, some (.invokestatic 120), none, none, some (.iinc 3 1), none, none, some (.goto (-41)), none, none, some (.aload_n 0)],
  [some (.dup), some (.getfield 9), none, none, some (.iconst 1), some (.iadd), some (.putfield 9), none, none, some (.return_)]]
theorem q_code5_ok : q_dec prog_2_method_6_code q_code5 := f_all2_ok (by decide +kernel)
def q_code6 : List (List (Option Instr)) := [[some (.iconst 0), some (.istore_n 1), some (.iconst 0), some (.istore_n 2), some (.iload_n 2), some (.aload_n 0), some (.getfield 21), none, none, some (.if_icmp .ge 20), none, none, some (.iload_n 1), some (.aload_n 0), some (.getfield 38), none],
  [none, some (.iload_n 2), some (.invokestatic 86), none, none, some (.iadd), some (.istore_n 1), some (.iinc 2 1), none, none, some (.goto (-22)), none, none, some (.iload_n 1), some (.ireturn)]]
theorem q_code6_ok : q_dec prog_2_method_7_code q_code6 := f_all2_ok (by decide +kernel)
def q_code7 : List (List (Option Instr)) := [[some (.iconst 0), some (.istore_n 2), some (.iload_n 2), some (.aload_n 0), some (.getfield 9), none, none, some (.iconst 4), some (.imul), some (.if_icmp .ge 39), none, none, some (.iload_n 2), some (.iconst 4), some (.irem), some (.istore_n 3)],
  [some (.iload_n 1), some (.iload_n 3), some (.ishr), some (.iconst 1), some (.iand), some (.ifCond .eq 21), none, none, some (.aload_n 0), some (.getfield 47), none, none, some (.iload_n 2), some (.iload_n 3), some (.ifCond .ne 8), none],
  [none, some (.bipush 100), none, some (.goto 4), none, none, some (.iconst 0), some (.invokestatic 120), none, none, some (.iinc 2 1), none, none, some (.goto (-43)), none, none],
  [some (.return_)]]
theorem q_code7_ok : q_dec prog_2_method_8_code q_code7 := f_all2_ok (by decide +kernel)
def q_code8 : List (List (Option Instr)) := [[some (.iconst 0), some (.istore_n 3), some (.iload_n 3), some (.aload_n 0), some (.getfield 9), none, none, some (.if_icmp .ge 45), none, none, some (.aload_n 0), some (.getfield 47), none, none, some (.iload_n 3), some (.iconst 4)],
  [some (.imul), some (.iconst 0), some (.iadd), some (.aload_n 0), some (.getfield 68), none, none, some (.getfield 127), none, none, some (.aload_n 0), some (.getfield 44), none, none, some (.iload_n 3), some (.invokestatic 86)],
  [none, none, some (.aload_n 1), some (.invokevirtual 134), none, none, some (.iload_n 2), some (.imul), some (.bipush 100), none, some (.idiv), some (.invokestatic 120), none, none, some (.iinc 3 1), none],
  [none, some (.goto (-47)), none, none, some (.return_)]]
theorem q_code8_ok : q_dec prog_2_method_9_code q_code8 := f_all2_ok (by decide +kernel)
def q_code9 : List (List (Option Instr)) := [[some (.iload_n 1), some (.iconst 4), some (.imul), some (.istore_n 2), some (.aload_n 0), some (.getfield 47), none, none, some (.iload_n 2), some (.iconst 3), some (.iadd), some (.invokestatic 86), none, none, some (.istore_n 3), some (.aload_n 0)],
  [some (.getfield 47), none, none, some (.iload_n 2), some (.invokestatic 86), none, none, some (.bipush 100), none, some (.aload_n 0), some (.getfield 47), none, none, some (.iload_n 2), some (.iconst 1), some (.iadd)],
  [some (.invokestatic 86), none, none, some (.isub), some (.imul), some (.bipush 100), none, some (.aload_n 0), some (.getfield 47), none, none, some (.iload_n 2), some (.iconst 2), some (.iadd), some (.invokestatic 86), none],
  [none, some (.isub), some (.imul), some (.sipush 10000), none, none, some (.idiv), some (.istore 4), none, some (.aload_n 0), some (.getfield 50), none, none, some (.iload_n 1), some (.invokestatic 86), none],
  [none, some (.ifCond .eq 6), none, none, some (.iconst 0), some (.istore 4), none, some (.iconst 0), some (.istore 5), none, some (.iload 5), none, some (.bipush 6), none, some (.if_icmp .ge 113), none],
  [none, some (.aload_n 0), some (.getfield 68), none, none, some (.getfield 127), none, none, some (.getfield 138), none, none, some (.aload_n 0), some (.getfield 44), none, none, some (.iload_n 1)],
  [some (.invokestatic 86), none, none, some (.bipush 6), none, some (.imul), some (.iload 5), none, some (.iadd), some (.invokestatic 86), none, none, some (.istore 6), none, some (.aload_n 0), some (.getfield 68)],
  [none, none, some (.getfield 127), none, none, some (.getfield 141), none, none, some (.aload_n 0), some (.getfield 44), none, none, some (.iload_n 1), some (.invokestatic 86), none, none],
  [some (.bipush 6), none, some (.imul), some (.iload 5), none, some (.iadd), some (.invokestatic 86), none, none, some (.istore 7), none, some (.aload_n 0), some (.getfield 53), none, none, some (.iload_n 1)],
  [some (.bipush 6), none, some (.imul), some (.iload 5), none, some (.iadd), some (.iload 6), none, some (.iload 6), none, some (.iload_n 3), some (.imul), some (.bipush 100), none, some (.idiv), some (.isub)],
  [some (.invokestatic 120), none, none, some (.aload_n 0), some (.getfield 56), none, none, some (.iload_n 1), some (.bipush 6), none, some (.imul), some (.iload 5), none, some (.iadd), some (.iload 7), none],
  [some (.iload 4), none, some (.imul), some (.bipush 100), none, some (.idiv), some (.invokestatic 120), none, none, some (.iinc 5 1), none, none, some (.goto (-114)), none, none, some (.return_)]]
theorem q_code9_ok : q_dec prog_2_method_10_code q_code9 := f_all2_ok (by decide +kernel)
def q_code10 : List (List (Option Instr)) := [[some (.aload_n 0), some (.iload_n 1), some (.invokevirtual 144), none, none, some (.iconst 0), some (.istore_n 2), some (.iload_n 2), some (.bipush 100), none, some (.if_icmp .ge 28), none, none, some (.aload_n 0), some (.getfield 59), none],
  [none, some (.iload_n 2), some (.bipush 40), none, some (.imul), some (.iload_n 1), some (.iadd), some (.aload_n 0), some (.iload_n 1), some (.iload_n 2), some (.invokevirtual 147), none, none, some (.invokestatic 120), none, none],
  [some (.iinc 2 1), none, none, some (.goto (-28)), none, none, some (.return_)]]
theorem q_code10_ok : q_dec prog_2_method_11_code q_code10 := f_all2_ok (by decide +kernel)
def q_code11 : List (List (Option Instr)) := [[some (.iconst 0), some (.istore_n 1), some (.iload_n 1), some (.aload_n 0), some (.getfield 9), none, none, some (.if_icmp .ge 14), none, none, some (.aload_n 0), some (.iload_n 1), some (.invokevirtual 151), none, none, some (.iinc 1 1)],
  [none, none, some (.goto (-16)), none, none, some (.return_)]]
theorem q_code11_ok : q_dec prog_2_method_12_code q_code11 := f_all2_ok (by decide +kernel)
def q_code12 : List (List (Option Instr)) := [[some (.iconst 0), some (.istore_n 2), some (.iload_n 2), some (.aload_n 0), some (.getfield 9), none, none, some (.if_icmp .ge 32), none, none, some (.aload_n 0), some (.iload_n 2), some (.invokevirtual 144), none, none, some (.aload_n 0)],
  [some (.getfield 59), none, none, some (.sipush 4000), none, none, some (.iload_n 2), some (.iadd), some (.aload_n 0), some (.iload_n 2), some (.iload_n 1), some (.invokevirtual 147), none, none, some (.invokestatic 120), none],
  [none, some (.iinc 2 1), none, none, some (.goto (-34)), none, none, some (.return_)]]
theorem q_code12_ok : q_dec prog_2_method_13_code q_code12 := f_all2_ok (by decide +kernel)
def q_code13 : List (List (Option Instr)) := [[some (.iload_n 1), some (.bipush 6), none, some (.imul), some (.istore_n 3), some (.iload_n 2), some (.aload_n 0), some (.getfield 56), none, none, some (.iload_n 3), some (.invokestatic 86), none, none, some (.isub), some (.istore 4)],
  [none, some (.iload 4), none, some (.ifCond .le 14), none, none, some (.iconst 2), some (.iload 4), none, some (.imul), some (.bipush 20), none, some (.invokestatic 154), none, none, some (.ineg)],
  [some (.ireturn), some (.iload_n 3), some (.aload_n 0), some (.getfield 68), none, none, some (.getfield 72), none, none, some (.getfield 124), none, none, some (.aload_n 0), some (.getfield 44), none, none],
  [some (.iload_n 1), some (.invokestatic 86), none, none, some (.invokestatic 86), none, none, some (.iadd), some (.iconst 1), some (.isub), some (.istore 5), none, some (.iload 5), none, some (.iload_n 3), some (.if_icmp .le 45)],
  [none, none, some (.iload_n 2), some (.aload_n 0), some (.getfield 56), none, none, some (.iload 5), none, some (.invokestatic 86), none, none, some (.if_icmp .lt 26), none, none, some (.iload_n 2)],
  [some (.aload_n 0), some (.getfield 56), none, none, some (.iload 5), none, some (.iconst 1), some (.isub), some (.invokestatic 86), none, none, some (.if_icmp .gt 11), none, none, some (.aload_n 0), some (.iload 5)],
  [none, some (.iload_n 2), some (.invokevirtual 159), none, none, some (.ireturn), some (.iinc 5 (-1)), none, none, some (.goto (-45)), none, none, some (.iconst 0), some (.ireturn)]]
theorem q_code13_ok : q_dec prog_2_method_14_code q_code13 := f_all2_ok (by decide +kernel)
def q_code14 : List (List (Option Instr)) := [[some (.aload_n 0), some (.getfield 53), none, none, some (.iload_n 1), some (.invokestatic 86), none, none, some (.istore_n 3), some (.aload_n 0), some (.getfield 56), none, none, some (.iload_n 1), some (.iconst 1), some (.isub)],
  [some (.invokestatic 86), none, none, some (.aload_n 0), some (.getfield 56), none, none, some (.iload_n 1), some (.invokestatic 86), none, none, some (.isub), some (.istore 4), none, some (.iload 4), none],
  [some (.ifCond .ne 5), none, none, some (.iload_n 3), some (.ireturn), some (.iload_n 3), some (.iload_n 3), some (.aload_n 0), some (.getfield 53), none, none, some (.iload_n 1), some (.iconst 1), some (.isub), some (.invokestatic 86), none],
  [none, some (.isub), some (.iload_n 2), some (.aload_n 0), some (.getfield 56), none, none, some (.iload_n 1), some (.invokestatic 86), none, none, some (.isub), some (.imul), some (.iload 4), none, some (.idiv)],
  [some (.isub), some (.ireturn)]]
theorem q_code14_ok : q_dec prog_2_method_15_code q_code14 := f_all2_ok (by decide +kernel)
def q_code15 : List (List (Option Instr)) := [[some (.iconst 0), some (.istore_n 3), some (.iconst 0), some (.istore 4), none, some (.aload_n 0), some (.getfield 34), none, none, some (.iload_n 1), some (.iconst 1), some (.iadd), some (.invokestatic 86), none, none, some (.istore 5)],
  [none, some (.aload_n 0), some (.getfield 34), none, none, some (.iload_n 1), some (.invokestatic 86), none, none, some (.istore 6), none, some (.iload 6), none, some (.iload 5), none, some (.if_icmp .ge 93)],
  [none, none, some (.iload 4), none, some (.aload_n 0), some (.getfield 59), none, none, some (.iload_n 2), some (.iload 6), none, some (.iadd), some (.invokestatic 86), none, none, some (.iadd)],
  [some (.istore 4), none, some (.iload 6), none, some (.iconst 1), some (.iadd), some (.iload 5), none, some (.if_icmp .eq 26), none, none, some (.aload_n 0), some (.getfield 41), none, none, some (.iload 6)],
  [none, some (.iconst 1), some (.iadd), some (.invokestatic 86), none, none, some (.aload_n 0), some (.getfield 41), none, none, some (.iload 6), none, some (.invokestatic 86), none, none, some (.if_icmp .eq 39)],
  [none, none, some (.iload_n 3), some (.aload_n 0), some (.getfield 38), none, none, some (.aload_n 0), some (.getfield 41), none, none, some (.iload 6), none, some (.invokestatic 86), none, none],
  [some (.invokestatic 86), none, none, some (.ifCond .eq 12), none, none, some (.iload 4), none, some (.iconst (-1)), some (.invokestatic 162), none, none, some (.goto 5), none, none, some (.iload 4)],
  [none, some (.iadd), some (.istore_n 3), some (.iconst 0), some (.istore 4), none, some (.iinc 6 1), none, none, some (.goto (-94)), none, none, some (.iload_n 3), some (.ireturn)]]
theorem q_code15_ok : q_dec prog_2_method_16_code q_code15 := f_all2_ok (by decide +kernel)
def q_code16 : List (List (Option Instr)) := [[some (.aload_n 0), some (.getfield 30), none, none, some (.ifCond .ne 17), none, none, some (.aload_n 0), some (.iload_n 1), some (.invokevirtual 165), none, none, some (.aload_n 0), some (.iconst 0), some (.sipush 4000), none],
  [none, some (.invokevirtual 168), none, none, some (.ireturn), some (.aload_n 0), some (.invokevirtual 171), none, none, some (.aload_n 0), some (.iconst 0), some (.sipush 999), none, none, some (.invokevirtual 174), none],
  [none, some (.sipush 999), none, none, some (.istore_n 2), some (.iload_n 2), some (.ifCond .lt 18), none, none, some (.aload_n 0), some (.iload_n 2), some (.invokevirtual 177), none, none, some (.iload_n 1), some (.if_icmp .ge 9)],
  [none, none, some (.iinc 2 (-1)), none, none, some (.goto (-16)), none, none, some (.iload_n 2), some (.ireturn)]]
theorem q_code16_ok : q_dec prog_2_method_17_code q_code16 := f_all2_ok (by decide +kernel)
def q_code17 : List (List (Option Instr)) := [[some (.aload_n 0), some (.iload_n 1), some (.putfield 27), none, none, some (.aload_n 0), some (.getfield 65), none, none, some (.iconst 0), some (.invokestatic 112), none, none, some (.iconst 0), some (.istore_n 3), some (.iload_n 3)],
  [some (.aload_n 0), some (.getfield 24), none, none, some (.if_icmp .ge 50), none, none, some (.iconst 0), some (.istore 4), none, some (.iload 4), none, some (.bipush 100), none, some (.if_icmp .ge 28), none],
  [none, some (.aload_n 0), some (.getfield 62), none, none, some (.iload 4), none, some (.aload_n 0), some (.iload_n 3), some (.iload 4), none, some (.bipush 40), none, some (.imul), some (.invokevirtual 168), none],
  [none, some (.invokestatic 120), none, none, some (.iinc 4 1), none, none, some (.goto (-29)), none, none, some (.aload_n 0), some (.iload_n 1), some (.iload_n 2), some (.invokevirtual 181), none, none],
  [some (.iinc 3 1), none, none, some (.goto (-52)), none, none, some (.return_)]]
theorem q_code17_ok : q_dec prog_2_method_18_code q_code17 := f_all2_ok (by decide +kernel)
def q_code18 : List (List (Option Instr)) := [[some (.iconst 0), some (.istore_n 3), some (.iload_n 2), some (.istore 4), none, some (.iload 4), none, some (.iload_n 1), some (.if_icmp .lt 62), none, none, some (.iload_n 3), some (.iconst 1), some (.iadd), some (.bipush 100), none],
  [some (.if_icmp .ge 24), none, none, some (.aload_n 0), some (.getfield 62), none, none, some (.iload_n 3), some (.iconst 1), some (.iadd), some (.invokestatic 86), none, none, some (.iload 4), none, some (.if_icmp .lt 9)],
  [none, none, some (.iinc 3 1), none, none, some (.goto (-26)), none, none, some (.aload_n 0), some (.getfield 65), none, none, some (.iload 4), none, some (.iload_n 1), some (.isub)],
  [some (.aload_n 0), some (.getfield 65), none, none, some (.iload 4), none, some (.iload_n 1), some (.isub), some (.invokestatic 86), none, none, some (.iload_n 3), some (.iadd), some (.invokestatic 120), none, none],
  [some (.iinc 4 (-1)), none, none, some (.goto (-62)), none, none, some (.return_)]]
theorem q_code18_ok : q_dec prog_2_method_19_code q_code18 := f_all2_ok (by decide +kernel)
def q_code19 : List (List (Option Instr)) := [[some (.aload_n 0), some (.getfield 65), none, none, some (.iload_n 1), some (.aload_n 0), some (.getfield 27), none, none, some (.isub), some (.invokestatic 86), none, none, some (.ireturn)]]
theorem q_code19_ok : q_dec prog_2_method_20_code q_code19 := f_all2_ok (by decide +kernel)
def q_code20 : List (List (Option Instr)) := [[some (.iload_n 1), some (.aload_n 0), some (.iload_n 1), some (.invokevirtual 177), none, none, some (.imul), some (.ireturn)]]
theorem q_code20_ok : q_dec prog_2_method_21_code q_code20 := f_all2_ok (by decide +kernel)
def q_code21 : List (List (Option Instr)) := [[some (.aload_n 0), some (.invokevirtual 171), none, none, some (.aload_n 0), some (.iconst 0), some (.sipush 500), none, none, some (.invokevirtual 174), none, none, some (.aload_n 0), some (.invokevirtual 184), none, none],
  [some (.return_)]]
theorem q_code21_ok : q_dec prog_2_method_22_code q_code21 := f_all2_ok (by decide +kernel)
def q_code22 : List (List (Option Instr)) := [[some (.aload_n 0), some (.iconst 0), some (.putfield 15), none, none, some (.aload_n 0), some (.iconst 0), some (.putfield 18), none, none, some (.iconst 0), some (.istore_n 1), some (.iload_n 1), some (.sipush 500), none, none],
  [some (.if_icmp .gt 35), none, none, some (.aload_n 0), some (.iload_n 1), some (.invokevirtual 187), none, none, some (.aload_n 0), some (.getfield 15), none, none, some (.if_icmp .le 17), none, none, some (.aload_n 0)],
  [some (.aload_n 0), some (.iload_n 1), some (.invokevirtual 187), none, none, some (.putfield 15), none, none, some (.aload_n 0), some (.iload_n 1), some (.putfield 18), none, none, some (.iinc 1 1), none, none],
  [some (.goto (-36)), none, none, some (.return_)]]
theorem q_code22_ok : q_dec prog_2_method_23_code q_code22 := f_all2_ok (by decide +kernel)
def q_code23 : List (List (Option Instr)) := [[some (.iconst 0), some (.istore_n 2), some (.iconst 0), some (.istore_n 3), some (.iconst 1), some (.istore 4), none, some (.iload 4), none, some (.sipush 500), none, none, some (.if_icmp .ge 98), none, none, some (.iload 4)],
  [none, some (.iconst 1), some (.iadd), some (.istore_n 3), some (.iload_n 3), some (.sipush 500), none, none, some (.if_icmp .gt 23), none, none, some (.aload_n 0), some (.iload_n 3), some (.invokevirtual 187), none, none],
  [some (.aload_n 0), some (.iload 4), none, some (.invokevirtual 187), none, none, some (.if_icmp .ne 9), none, none, some (.iinc 3 1), none, none, some (.goto (-24)), none, none, some (.iload_n 3)],
  [some (.sipush 500), none, none, some (.if_icmp .le 7), none, none, some (.iconst 0), some (.goto 8), none, none, some (.aload_n 0), some (.iload_n 3), some (.invokevirtual 187), none, none, some (.istore 5)],
  [none, some (.aload_n 0), some (.iload 4), none, some (.invokevirtual 187), none, none, some (.aload_n 0), some (.iload 4), none, some (.iconst 1), some (.isub), some (.invokevirtual 187), none, none, some (.if_icmp .le 25)],
  [none, none, some (.aload_n 0), some (.iload 4), none, some (.invokevirtual 187), none, none, some (.iload 5), none, some (.if_icmp .le 14), none, none, some (.iload_n 2), some (.iload_n 1), some (.if_icmp .ne 6)],
  [none, none, some (.iload 4), none, some (.ireturn), some (.iinc 2 1), none, none, some (.iload_n 3), some (.istore 4), none, some (.goto (-100)), none, none, some (.iload_n 1), some (.ifCond .ge 7)],
  [none, none, some (.iload_n 2), some (.goto 5), none, none, some (.bipush (-4)), none, some (.ireturn)]]
theorem q_code23_ok : q_dec prog_2_method_24_code q_code23 := f_all2_ok (by decide +kernel)
def q_code24 : List (List (Option Instr)) := [[some (.iconst 0), some (.istore_n 1), some (.iconst 1), some (.istore_n 2), some (.iload_n 2), some (.aload_n 0), some (.getfield 9), none, none, some (.if_icmp .ge 38), none, none, some (.aload_n 0), some (.getfield 59), none, none],
  [some (.sipush 4000), none, none, some (.iload_n 2), some (.iadd), some (.invokestatic 86), none, none, some (.aload_n 0), some (.getfield 59), none, none, some (.sipush 4000), none, none, some (.iload_n 1)],
  [some (.iadd), some (.invokestatic 86), none, none, some (.if_icmp .ge 5), none, none, some (.iload_n 2), some (.istore_n 1), some (.iinc 2 1), none, none, some (.goto (-40)), none, none, some (.aload_n 0)],
  [some (.getfield 44), none, none, some (.iload_n 1), some (.invokestatic 86), none, none, some (.ireturn)]]
theorem q_code24_ok : q_dec prog_2_method_25_code q_code24 := f_all2_ok (by decide +kernel)
def q_code25 : List (List (Option Instr)) := [[some (.iconst 0), some (.istore_n 1), some (.iconst 0), some (.istore_n 2), some (.iload_n 2), some (.aload_n 0), some (.getfield 21), none, none, some (.if_icmp .ge 86), none, none, some (.iconst 0), some (.istore_n 3), some (.iconst 0), some (.istore 4)],
  [none, some (.iload 4), none, some (.aload_n 0), some (.getfield 9), none, none, some (.if_icmp .ge 42), none, none, some (.iload_n 3), some (.aload_n 0), some (.getfield 41), none, none, some (.iload 4)],
  [none, some (.invokestatic 86), none, none, some (.iload_n 2), some (.if_icmp .ne 19), none, none, some (.aload_n 0), some (.getfield 59), none, none, some (.sipush 4000), none, none, some (.iload 4)],
  [none, some (.iadd), some (.invokestatic 86), none, none, some (.goto 4), none, none, some (.iconst 0), some (.iadd), some (.istore_n 3), some (.iinc 4 1), none, none, some (.goto (-45)), none],
  [none, some (.iload_n 1), some (.aload_n 0), some (.getfield 38), none, none, some (.iload_n 2), some (.invokestatic 86), none, none, some (.ifCond .eq 12), none, none, some (.iload_n 3), some (.iconst (-1)), some (.if_icmp .ge 7)],
  [none, none, some (.iconst 1), some (.goto 4), none, none, some (.iconst 0), some (.iadd), some (.istore_n 1), some (.iinc 2 1), none, none, some (.goto (-88)), none, none, some (.iload_n 1)],
  [some (.ireturn)]]
theorem q_code25_ok : q_dec prog_2_method_26_code q_code25 := f_all2_ok (by decide +kernel)
def q_code26 : List (List (Option Instr)) := [[some (.iconst 0), some (.istore_n 2), some (.iconst 0), some (.istore_n 3), some (.iload_n 3), some (.aload_n 0), some (.getfield 9), none, none, some (.if_icmp .ge 32), none, none, some (.iload_n 2), some (.iload_n 1), some (.aload_n 0), some (.getfield 56)],
  [none, none, some (.iload_n 3), some (.bipush 6), none, some (.imul), some (.invokestatic 86), none, none, some (.if_icmp .le 7), none, none, some (.iconst 1), some (.goto 4), none, none],
  [some (.iconst 0), some (.iadd), some (.istore_n 2), some (.iinc 3 1), none, none, some (.goto (-34)), none, none, some (.iload_n 2), some (.ireturn)]]
theorem q_code26_ok : q_dec prog_2_method_27_code q_code26 := f_all2_ok (by decide +kernel)
def q_code27 : List (List (Option Instr)) := [[some (.aload_n 0), some (.invokevirtual 171), none, none, some (.iconst (-1)), some (.istore_n 1), some (.iconst 0), some (.istore_n 2), some (.iconst 1), some (.aload_n 0), some (.getfield 9), none, none, some (.ishl), some (.iconst 1), some (.isub)],
  [some (.istore_n 3), some (.iconst 2), some (.istore 4), none, some (.iload 4), none, some (.iload_n 3), some (.if_icmp .gt 56), none, none, some (.aload_n 0), some (.iconst 0), some (.putfield 27), none, none, some (.aload_n 0)],
  [some (.getfield 65), none, none, some (.iconst 0), some (.invokestatic 112), none, none, some (.aload_n 0), some (.iload 4), none, some (.invokevirtual 190), none, none, some (.aload_n 0), some (.iload_n 3), some (.iload 4)],
  [none, some (.isub), some (.invokevirtual 190), none, none, some (.aload_n 0), some (.invokevirtual 184), none, none, some (.aload_n 0), some (.getfield 15), none, none, some (.iload_n 1), some (.if_icmp .le 11), none],
  [none, some (.aload_n 0), some (.getfield 15), none, none, some (.istore_n 1), some (.iload 4), none, some (.istore_n 2), some (.iinc 4 2), none, none, some (.goto (-56)), none, none, some (.aload_n 0)],
  [some (.iload_n 1), some (.putfield 15), none, none, some (.iload_n 2), some (.ireturn)]]
theorem q_code27_ok : q_dec prog_2_method_28_code q_code27 := f_all2_ok (by decide +kernel)
def q_code28 : List (List (Option Instr)) := [[some (.iconst 0), some (.istore_n 2), some (.iload_n 2), some (.bipush 100), none, some (.if_icmp .ge 68), none, none, some (.iconst 0), some (.istore_n 3), some (.iconst 0), some (.istore 4), none, some (.iload 4), none, some (.aload_n 0)],
  [some (.getfield 9), none, none, some (.if_icmp .ge 39), none, none, some (.iload_n 3), some (.iload_n 1), some (.iload 4), none, some (.ishr), some (.iconst 1), some (.iand), some (.ifCond .eq 20), none, none],
  [some (.aload_n 0), some (.getfield 59), none, none, some (.iload_n 2), some (.bipush 40), none, some (.imul), some (.iload 4), none, some (.iadd), some (.invokestatic 86), none, none, some (.goto 4), none],
  [none, some (.iconst 0), some (.iadd), some (.istore_n 3), some (.iinc 4 1), none, none, some (.goto (-42)), none, none, some (.aload_n 0), some (.getfield 62), none, none, some (.iload_n 2), some (.iload_n 3)],
  [some (.invokestatic 120), none, none, some (.iinc 2 1), none, none, some (.goto (-68)), none, none, some (.aload_n 0), some (.iconst 0), some (.sipush 500), none, none, some (.invokevirtual 181), none],
  [none, some (.return_)]]
theorem q_code28_ok : q_dec prog_2_method_29_code q_code28 := f_all2_ok (by decide +kernel)
def q_code29 : List (List (Option Instr)) := [[some (.iconst 1), some (.aload_n 0), some (.getfield 9), none, none, some (.iadd), some (.aload_n 0), some (.invokevirtual 193), none, none, some (.iadd), some (.ireturn)]]
theorem q_code29_ok : q_dec prog_2_method_30_code q_code29 := f_all2_ok (by decide +kernel)
def q_code30 : List (List (Option Instr)) := [[some (.iload_n 1), some (.iconst 1), some (.if_icmp .lt 43), none, none, some (.iload_n 1), some (.aload_n 0), some (.getfield 9), none, none, some (.if_icmp .gt 35), none, none, some (.aload_n 0), some (.getfield 50), none],
  [none, some (.iload_n 1), some (.iconst 1), some (.isub), some (.aload_n 0), some (.getfield 50), none, none, some (.iload_n 1), some (.iconst 1), some (.isub), some (.invokestatic 86), none, none, some (.iconst 1), some (.iadd)],
  [some (.invokestatic 120), none, none, some (.aload_n 0), some (.iload_n 1), some (.iconst 1), some (.isub), some (.invokevirtual 151), none, none, some (.goto 31), none, none, some (.iload_n 1), some (.aload_n 0), some (.getfield 9)],
  [none, none, some (.if_icmp .le 23), none, none, some (.aload_n 0), some (.getfield 38), none, none, some (.aload_n 0), some (.iload_n 1), some (.aload_n 0), some (.getfield 9), none, none, some (.isub)],
  [some (.iconst 1), some (.isub), some (.invokevirtual 197), none, none, some (.iconst 0), some (.invokestatic 120), none, none, some (.return_)]]
theorem q_code30_ok : q_dec prog_2_method_31_code q_code30 := f_all2_ok (by decide +kernel)
def q_code31 : List (List (Option Instr)) := [[some (.iload_n 1), some (.iconst 1), some (.if_icmp .lt 43), none, none, some (.iload_n 1), some (.aload_n 0), some (.getfield 9), none, none, some (.if_icmp .gt 35), none, none, some (.aload_n 0), some (.getfield 50), none],
  [none, some (.iload_n 1), some (.iconst 1), some (.isub), some (.aload_n 0), some (.getfield 50), none, none, some (.iload_n 1), some (.iconst 1), some (.isub), some (.invokestatic 86), none, none, some (.iconst 1), some (.isub)],
  [some (.invokestatic 120), none, none, some (.aload_n 0), some (.iload_n 1), some (.iconst 1), some (.isub), some (.invokevirtual 151), none, none, some (.goto 20), none, none, some (.iload_n 1), some (.aload_n 0), some (.getfield 9)],
  [none, none, some (.if_icmp .le 12), none, none, some (.aload_n 0), some (.getfield 38), none, none, some (.iload_n 2), some (.iconst 1), some (.invokestatic 120), none, none, some (.return_)]]
theorem q_code31_ok : q_dec prog_2_method_32_code q_code31 := f_all2_ok (by decide +kernel)
def q_code32 : List (List (Option Instr)) := [[some (.iconst 0), some (.istore_n 2), some (.iconst 0), some (.istore_n 3), some (.iload_n 3), some (.aload_n 0), some (.getfield 21), none, none, some (.if_icmp .ge 30), none, none, some (.aload_n 0), some (.getfield 38), none, none],
  [some (.iload_n 3), some (.invokestatic 86), none, none, some (.ifCond .eq 13), none, none, some (.iload_n 2), some (.iload_n 1), some (.if_icmp .ne 5), none, none, some (.iload_n 3), some (.ireturn), some (.iinc 2 1), none],
  [none, some (.iinc 3 1), none, none, some (.goto (-32)), none, none, some (.iconst (-1)), some (.ireturn)]]
theorem q_code32_ok : q_dec prog_2_method_33_code q_code32 := f_all2_ok (by decide +kernel)
def q_code33 : List (List (Option Instr)) := [[some (.aload_n 0), some (.invokespecial 3), none, none, some (.aload_n 0), some (.sipush 240), none, none, some (.newarray .int), none, some (.putfield 9), none, none, some (.aload_n 0), some (.sipush 240), none],
  [none, some (.newarray .int), none, some (.putfield 15), none, none, some (.aload_n 0), some (.sipush 160), none, none, some (.newarray .int), none, some (.putfield 18), none, none, some (.aload_n 0)],
  [some (.bipush 40), none, some (.newarray .int), none, some (.putfield 21), none, none, some (.aload_n 0), some (.bipush 40), none, some (.newarray .int), none, some (.putfield 24), none, none, some (.aload_n 0)],
  [some (.bipush 40), none, some (.newarray .int), none, some (.putfield 27), none, none, some (.return_)]]
theorem q_code33_ok : q_dec prog_3_method_1_code q_code33 := f_all2_ok (by decide +kernel)
def q_code34 : List (List (Option Instr)) := [[some (.aload_n 1), some (.getfield 9), none, none, some (.aload_n 0), some (.getfield 9), none, none, some (.invokestatic 30), none, none, some (.aload_n 1), some (.getfield 15), none, none, some (.aload_n 0)],
  [some (.getfield 15), none, none, some (.invokestatic 30), none, none, some (.aload_n 1), some (.getfield 18), none, none, some (.aload_n 0), some (.getfield 18), none, none, some (.invokestatic 30), none],
  [none, some (.aload_n 1), some (.getfield 21), none, none, some (.aload_n 0), some (.getfield 21), none, none, some (.invokestatic 30), none, none, some (.aload_n 1), some (.getfield 24), none, none],
  [some (.aload_n 0), some (.getfield 24), none, none, some (.invokestatic 30), none, none, some (.aload_n 1), some (.getfield 27), none, none, some (.aload_n 0), some (.getfield 27), none, none, some (.invokestatic 30)],
  [none, none, some (.return_)]]
theorem q_code34_ok : q_dec prog_3_method_2_code q_code34 := f_all2_ok (by decide +kernel)
def q_code35 : List (List (Option Instr)) := [[some (.iconst 0), some (.istore_n 2), some (.iload_n 2), some (.iconst 4), some (.if_icmp .ge 31), none, none, some (.aload_n 0), some (.getfield 18), none, none, some (.iload_n 1), some (.iconst 4), some (.imul), some (.iload_n 2), some (.iadd)],
  [some (.iload_n 2), some (.ifCond .ne 8), none, none, some (.bipush 100), none, some (.goto 4), none, none, some (.iconst 0), some (.invokestatic 34), none, none, some (.iinc 2 1), none, none],
  [some (.goto (-30)), none, none, some (.aload_n 0), some (.getfield 21), none, none, some (.iload_n 1), some (.iconst 0), some (.invokestatic 34), none, none, some (.aload_n 0), some (.getfield 24), none, none],
  [some (.iload_n 1), some (.iconst (-1)), some (.invokestatic 34), none, none, some (.aload_n 0), some (.getfield 27), none, none, some (.iload_n 1), some (.iconst (-1)), some (.invokestatic 34), none, none, some (.return_)]]
theorem q_code35_ok : q_dec prog_3_method_3_code q_code35 := f_all2_ok (by decide +kernel)
def q_code36 : List (List (Option Instr)) := [[some (.iload_n 1), some (.bipush 6), none, some (.imul), some (.istore_n 3), some (.iload_n 3), some (.iload_n 2), some (.iadd), some (.iconst 1), some (.isub), some (.istore 4), none, some (.aload_n 0), some (.getfield 9), none, none],
  [some (.iload_n 3), some (.invokestatic 38), none, none, some (.ifCond .ne 40), none, none, some (.aload_n 0), some (.getfield 9), none, none, some (.iload 4), none, some (.invokestatic 38), none, none],
  [some (.bipush 60), none, some (.if_icmp .gt 26), none, none, some (.aload_n 0), some (.getfield 15), none, none, some (.iload_n 3), some (.invokestatic 38), none, none, some (.ifCond .eq 15), none, none],
  [some (.aload_n 0), some (.getfield 15), none, none, some (.iload 4), none, some (.invokestatic 38), none, none, some (.ifCond .eq 5), none, none, some (.iconst 0), some (.ireturn), some (.iload_n 3), some (.iconst 1)],
  [some (.iadd), some (.istore 5), none, some (.iload 5), none, some (.iload 4), none, some (.if_icmp .gt 57), none, none, some (.aload_n 0), some (.getfield 9), none, none, some (.iload 5), none],
  [some (.invokestatic 38), none, none, some (.aload_n 0), some (.getfield 9), none, none, some (.iload 5), none, some (.iconst 1), some (.isub), some (.invokestatic 38), none, none, some (.if_icmp .le 26), none],
  [none, some (.aload_n 0), some (.getfield 15), none, none, some (.iload 5), none, some (.invokestatic 38), none, none, some (.aload_n 0), some (.getfield 15), none, none, some (.iload 5), none],
  [some (.iconst 1), some (.isub), some (.invokestatic 38), none, none, some (.if_icmp .lt 5), none, none, some (.iconst 0), some (.ireturn), some (.iinc 5 1), none, none, some (.goto (-58)), none, none],
  [some (.iconst 1), some (.ireturn)]]
theorem q_code36_ok : q_dec prog_3_method_4_code q_code36 := f_all2_ok (by decide +kernel)
def q_code37 : List (List (Option Instr)) := [[some (.aload_n 0), some (.getfield 9), none, none, some (.iload_n 1), some (.bipush 6), none, some (.imul), some (.iload_n 2), some (.iadd), some (.iconst 1), some (.isub), some (.invokestatic 38), none, none, some (.ireturn)]]
theorem q_code37_ok : q_dec prog_3_method_5_code q_code37 := f_all2_ok (by decide +kernel)
def q_code38 : List (List (Option Instr)) := [[some (.aload_n 0), some (.getfield 24), none, none, some (.iload_n 1), some (.invokestatic 38), none, none, some (.istore_n 3), some (.aload_n 0), some (.getfield 27), none, none, some (.iload_n 1), some (.invokestatic 38), none],
  [none, some (.istore 4), none, some (.iload_n 3), some (.ifCond .lt 8), none, none, some (.iload 4), none, some (.ifCond .ge 6), none, none, some (.bipush 100), none, some (.ireturn), some (.iconst 0)],
  [some (.istore 5), none, some (.iconst 0), some (.istore 6), none, some (.iload_n 3), some (.bipush 100), none, some (.idiv), some (.istore 7), none, some (.iload 7), none, some (.iload 4), none, some (.bipush 100)],
  [none, some (.idiv), some (.if_icmp .gt 59), none, none, some (.iload_n 3), some (.bipush 100), none, some (.irem), some (.istore 8), none, some (.iload 8), none, some (.iload 4), none, some (.bipush 100)],
  [none, some (.irem), some (.if_icmp .gt 37), none, none, some (.iinc 5 1), none, none, some (.iload 6), none, some (.aload_n 2), some (.iload 8), none, some (.bipush 20), none, some (.imul)],
  [some (.iload 7), none, some (.iadd), some (.invokestatic 38), none, none, some (.ifCond .ne 7), none, none, some (.iconst 1), some (.goto 4), none, none, some (.iconst 0), some (.iadd), some (.istore 6)],
  [none, some (.iinc 8 1), none, none, some (.goto (-41)), none, none, some (.iinc 7 1), none, none, some (.goto (-63)), none, none, some (.iload 5), none, some (.ifCond .ne 8)],
  [none, none, some (.bipush 100), none, some (.goto 11), none, none, some (.iload 6), none, some (.bipush 100), none, some (.imul), some (.iload 5), none, some (.idiv), some (.ireturn)]]
theorem q_code38_ok : q_dec prog_3_method_6_code q_code38 := f_all2_ok (by decide +kernel)
def q_code39 : List (List (Option Instr)) := [[some (.iconst 0), some (.istore_n 2), some (.iconst 0), some (.istore_n 3), some (.iload_n 3), some (.aload_n 1), some (.getfield 42), none, none, some (.if_icmp .ge 34), none, none, some (.aload_n 1), some (.getfield 48), none, none],
  [some (.iload_n 3), some (.invokestatic 38), none, none, some (.ifCond .ne 17), none, none, some (.aload_n 0), some (.getfield 21), none, none, some (.iload_n 3), some (.invokestatic 38), none, none, some (.ifCond .eq 6)],
  [none, none, some (.iinc 2 1), none, none, some (.iinc 3 1), none, none, some (.goto (-36)), none, none, some (.iload_n 2), some (.ireturn)]]
theorem q_code39_ok : q_dec prog_3_method_7_code q_code39 := f_all2_ok (by decide +kernel)
def q_code40 : List (List (Option Instr)) := [[some (.aload_n 0), some (.invokespecial 3), none, none, some (.aload_n 0), some (.iconst 0), some (.putfield 9), none, none, some (.aload_n 0), some (.bipush 81), none, some (.newarray .int), none, some (.putfield 15), none],
  [none, some (.aload_n 0), some (.sipush 9801), none, none, some (.newarray .int), none, some (.putfield 19), none, none, some (.aload_n 0), some (.sipush 600), none, none, some (.newarray .int), none],
  [some (.putfield 22), none, none, some (.return_)]]
theorem q_code40_ok : q_dec prog_4_method_1_code q_code40 := f_all2_ok (by decide +kernel)
def q_code41 : List (List (Option Instr)) := [[some (.aload_n 0), some (.iconst 0), some (.putfield 9), none, none, some (.aload_n 1), some (.invokevirtual 25), none, none, some (.istore_n 3), some (.iconst 0), some (.istore 4), none, some (.iload 4), none, some (.iload_n 3)],
  [some (.if_icmp .ge 61), none, none, some (.aload_n 1), some (.iload 4), none, some (.aload_n 1), some (.getfield 31), none, none, some (.isub), some (.iconst 1), some (.isub), some (.invokevirtual 34), none, none],
  [some (.istore 5), none, some (.aload_n 1), some (.iload 4), none, some (.invokevirtual 38), none, none, some (.aload_n 1), some (.bipush (-128)), none, some (.bipush 127), none, some (.invokevirtual 42), none, none],
  [some (.aload_n 1), some (.aload_n 2), some (.invokestatic 46), none, none, some (.ifCond .eq 10), none, none, some (.aload_n 0), some (.aload_n 1), some (.iload 4), none, some (.invokevirtual 50), none, none, some (.aload_n 1)],
  [some (.iload 4), none, some (.iload 5), none, some (.invokevirtual 54), none, none, some (.iinc 4 1), none, none, some (.goto (-61)), none, none, some (.return_)]]
theorem q_code41_ok : q_dec prog_4_method_2_code q_code41 := f_all2_ok (by decide +kernel)
def q_code42 : List (List (Option Instr)) := [[some (.iconst 0), some (.istore_n 2), some (.iload_n 2), some (.iconst 1), some (.iadd), some (.aload_n 1), some (.getfield 57), none, none, some (.if_icmp .ge 36), none, none, some (.aload_n 0), some (.aload_n 1), some (.getfield 62), none],
  [none, some (.iload_n 2), some (.invokestatic 65), none, none, some (.invokevirtual 69), none, none, some (.aload_n 1), some (.getfield 62), none, none, some (.iload_n 2), some (.iconst 1), some (.iadd), some (.invokestatic 65)],
  [none, none, some (.if_icmp .eq 5), none, none, some (.iconst 0), some (.ireturn), some (.iinc 2 2), none, none, some (.goto (-40)), none, none, some (.iconst 1), some (.ireturn)]]
theorem q_code42_ok : q_dec prog_4_method_3_code q_code42 := f_all2_ok (by decide +kernel)
def q_code43 : List (List (Option Instr)) := [[some (.aload_n 0), some (.getfield 15), none, none, some (.aload_n 0), some (.getfield 9), none, none, some (.iload_n 2), some (.invokestatic 72), none, none, some (.iconst 0), some (.istore_n 3), some (.iload_n 3), some (.bipush 121)],
  [none, some (.if_icmp .ge 30), none, none, some (.aload_n 0), some (.getfield 19), none, none, some (.aload_n 0), some (.getfield 9), none, none, some (.bipush 121), none, some (.imul), some (.iload_n 3)],
  [some (.iadd), some (.aload_n 1), some (.iload_n 3), some (.invokevirtual 69), none, none, some (.invokestatic 72), none, none, some (.iinc 3 1), none, none, some (.goto (-30)), none, none, some (.aload_n 0)],
  [some (.dup), some (.getfield 9), none, none, some (.iconst 1), some (.iadd), some (.putfield 9), none, none, some (.return_)]]
theorem q_code43_ok : q_dec prog_4_method_4_code q_code43 := f_all2_ok (by decide +kernel)
def q_code44 : List (List (Option Instr)) := [[some (.iload_n 1), some (.ifCond .ge 10), none, none, some (.aload_n 0), some (.getfield 9), none, none, some (.goto 24), none, none, some (.iload_n 1), some (.aload_n 0), some (.getfield 9), none, none],
  [some (.if_icmp .ge 14), none, none, some (.aload_n 0), some (.getfield 15), none, none, some (.iload_n 1), some (.invokestatic 65), none, none, some (.goto 5), none, none, some (.bipush (-4)), none],
  [some (.ireturn)]]
theorem q_code44_ok : q_dec prog_4_method_5_code q_code44 := f_all2_ok (by decide +kernel)
def q_code45 : List (List (Option Instr)) := [[some (.aload_n 0), some (.getfield 9), none, none, some (.ifCond .ne 6), none, none, some (.bipush (-4)), none, some (.ireturn), some (.iconst 0), some (.istore_n 1), some (.aload_n 0), some (.getfield 9), none, none],
  [some (.iconst 1), some (.iadd), some (.istore_n 2), some (.iconst 0), some (.istore_n 3), some (.iload_n 3), some (.bipush 121), none, some (.if_icmp .ge 27), none, none, some (.aload_n 0), some (.iload_n 3), some (.invokevirtual 76), none, none],
  [some (.istore 4), none, some (.iload 4), none, some (.iload_n 2), some (.if_icmp .ge 8), none, none, some (.iload 4), none, some (.istore_n 2), some (.iload_n 3), some (.istore_n 1), some (.iinc 3 1), none, none],
  [some (.goto (-27)), none, none, some (.iload_n 1), some (.ireturn)]]
theorem q_code45_ok : q_dec prog_4_method_6_code q_code45 := f_all2_ok (by decide +kernel)
def q_code46 : List (List (Option Instr)) := [[some (.aload_n 0), some (.getfield 22), none, none, some (.iconst 0), some (.invokestatic 79), none, none, some (.iconst 0), some (.istore_n 2), some (.iconst 0), some (.istore_n 3), some (.iload_n 3), some (.aload_n 0), some (.getfield 9), none],
  [none, some (.if_icmp .ge 58), none, none, some (.aload_n 0), some (.getfield 19), none, none, some (.iload_n 3), some (.bipush 121), none, some (.imul), some (.iload_n 1), some (.iadd), some (.invokestatic 65), none],
  [none, some (.istore 4), none, some (.aload_n 0), some (.getfield 22), none, none, some (.iload 4), none, some (.aload_n 0), some (.getfield 22), none, none, some (.iload 4), none, some (.invokestatic 65)],
  [none, none, some (.iconst 1), some (.iadd), some (.invokestatic 72), none, none, some (.iload_n 2), some (.aload_n 0), some (.getfield 22), none, none, some (.iload 4), none, some (.invokestatic 65), none],
  [none, some (.invokestatic 85), none, none, some (.istore_n 2), some (.iinc 3 1), none, none, some (.goto (-60)), none, none, some (.iload_n 2), some (.ireturn)]]
theorem q_code46_ok : q_dec prog_4_method_7_code q_code46 := f_all2_ok (by decide +kernel)
def q_code47 : List (List (Option Instr)) := [[some (.aload_n 0), some (.invokespecial 3), none, none, some (.aload_n 0), some (.new 9), none, none, some (.dup), some (.invokespecial 11), none, none, some (.putfield 12), none, none, some (.aload_n 0)],
  [some (.new 18), none, none, some (.dup), some (.invokespecial 20), none, none, some (.putfield 21), none, none, some (.aload_n 0), some (.bipush 40), none, some (.anewarray 25), none, none],
  [some (.putfield 27), none, none, some (.aload_n 0), some (.new 31), none, none, some (.dup), some (.invokespecial 33), none, none, some (.putfield 34), none, none, some (.aload_n 0), some (.new 38)],
  [none, none, some (.dup), some (.invokespecial 40), none, none, some (.putfield 41), none, none, some (.iconst 0), some (.istore_n 1), some (.iload_n 1), some (.bipush 40), none, some (.if_icmp .ge 22), none],
  [none, some (.aload_n 0), some (.getfield 27), none, none, some (.iload_n 1), some (.new 25), none, none, some (.dup), some (.invokespecial 45), none, none, some (.aastore), some (.iinc 1 1), none],
  [none, some (.goto (-22)), none, none, some (.return_)]]
theorem q_code47_ok : q_dec prog_5_method_1_code q_code47 := f_all2_ok (by decide +kernel)
def q_code48 : List (List (Option Instr)) := [[some (.aload_n 0), some (.getfield 12), none, none, some (.aload_n 1), some (.getfield 12), none, none, some (.invokevirtual 46), none, none, some (.aload_n 0), some (.getfield 21), none, none, some (.aload_n 1)],
  [some (.getfield 21), none, none, some (.invokevirtual 50), none, none, some (.iconst 0), some (.istore_n 2), some (.iload_n 2), some (.aload_n 0), some (.getfield 27), none, none, some (.arraylength), some (.if_icmp .ge 48), none],
  [none, some (.iload_n 2), some (.aload_n 1), some (.getfield 27), none, none, some (.arraylength), some (.if_icmp .ge 39), none, none, some (.aload_n 0), some (.getfield 27), none, none, some (.iload_n 2), some (.aaload)],
  [some (.astore_n 3), some (.aload_n 1), some (.getfield 27), none, none, some (.iload_n 2), some (.aaload), some (.astore 4), none, some (.aload_n 3), some (.ifnull 14), none, none, some (.aload 4), none, some (.ifnull 9)],
  [none, none, some (.aload_n 3), some (.aload 4), none, some (.invokevirtual 53), none, none, some (.iinc 2 1), none, none, some (.goto (-51)), none, none, some (.aload_n 0), some (.getfield 34)],
  [none, none, some (.aload_n 1), some (.getfield 34), none, none, some (.invokevirtual 56), none, none, some (.aload_n 0), some (.getfield 41), none, none, some (.aload_n 1), some (.getfield 41), none],
  [none, some (.invokevirtual 59), none, none, some (.return_)]]
theorem q_code48_ok : q_dec prog_5_method_2_code q_code48 := f_all2_ok (by decide +kernel)
def q_code49 : List (List (Option Instr)) := [[some (.aload_n 0), some (.getfield 12), none, none, some (.iload_n 1), some (.iload_n 2), some (.invokevirtual 62), none, none, some (.istore_n 3), some (.aload_n 0), some (.getfield 21), none, none, some (.iload_n 3), some (.invokevirtual 66)],
  [none, none, some (.iload_n 3), some (.ifCond .lt 32), none, none, some (.iload_n 3), some (.aload_n 0), some (.getfield 27), none, none, some (.arraylength), some (.if_icmp .ge 23), none, none, some (.aload_n 0)],
  [some (.getfield 27), none, none, some (.iload_n 3), some (.aaload), some (.ifnull 14), none, none, some (.aload_n 0), some (.getfield 27), none, none, some (.iload_n 3), some (.aaload), some (.iconst 0), some (.iconst 5)],
  [some (.invokevirtual 69), none, none, some (.iload_n 3), some (.ireturn)]]
theorem q_code49_ok : q_dec prog_5_method_3_code q_code49 := f_all2_ok (by decide +kernel)
def q_code50 : List (List (Option Instr)) := [[some (.aload_n 0), some (.invokespecial 3), none, none, some (.aload_n 0), some (.iconst 0), some (.putfield 9), none, none, some (.aload_n 0), some (.bipush 40), none, some (.newarray .int), none, some (.putfield 15), none],
  [none, some (.aload_n 0), some (.bipush 40), none, some (.newarray .int), none, some (.putfield 19), none, none, some (.aload_n 0), some (.bipush 40), none, some (.newarray .int), none, some (.putfield 22), none],
  [none, some (.aload_n 0), some (.bipush 40), none, some (.newarray .int), none, some (.putfield 25), none, none, some (.aload_n 0), some (.sipush 320), none, none, some (.newarray .int), none, some (.putfield 28)],
  [none, none, some (.aload_n 0), some (.sipush 320), none, none, some (.newarray .int), none, some (.putfield 31), none, none, some (.aload_n 0), some (.sipush 320), none, none, some (.newarray .int)],
  [none, some (.putfield 34), none, none, some (.return_)]]
theorem q_code50_ok : q_dec prog_6_method_1_code q_code50 := f_all2_ok (by decide +kernel)
def q_code51 : List (List (Option Instr)) := [[some (.aload_n 0), some (.aload_n 1), some (.getfield 9), none, none, some (.putfield 9), none, none, some (.aload_n 1), some (.getfield 15), none, none, some (.aload_n 0), some (.getfield 15), none, none],
  [some (.invokestatic 37), none, none, some (.aload_n 1), some (.getfield 19), none, none, some (.aload_n 0), some (.getfield 19), none, none, some (.invokestatic 37), none, none, some (.aload_n 1), some (.getfield 22)],
  [none, none, some (.aload_n 0), some (.getfield 22), none, none, some (.invokestatic 37), none, none, some (.aload_n 1), some (.getfield 25), none, none, some (.aload_n 0), some (.getfield 25), none],
  [none, some (.invokestatic 37), none, none, some (.aload_n 1), some (.getfield 28), none, none, some (.aload_n 0), some (.getfield 28), none, none, some (.invokestatic 37), none, none, some (.aload_n 1)],
  [some (.getfield 31), none, none, some (.aload_n 0), some (.getfield 31), none, none, some (.invokestatic 37), none, none, some (.aload_n 1), some (.getfield 34), none, none, some (.aload_n 0), some (.getfield 34)],
  [none, none, some (.invokestatic 37), none, none, some (.return_)]]
theorem q_code51_ok : q_dec prog_6_method_2_code q_code51 := f_all2_ok (by decide +kernel)
def q_code52 : List (List (Option Instr)) := [[some (.aload_n 0), some (.getfield 9), none, none, some (.istore_n 3), some (.aload_n 0), some (.getfield 15), none, none, some (.iload_n 3), some (.iload_n 1), some (.invokestatic 41), none, none, some (.aload_n 0), some (.getfield 19)],
  [none, none, some (.iload_n 3), some (.iload_n 2), some (.invokestatic 41), none, none, some (.aload_n 0), some (.getfield 22), none, none, some (.iload_n 3), some (.iconst (-1)), some (.invokestatic 41), none, none],
  [some (.aload_n 0), some (.getfield 25), none, none, some (.iload_n 3), some (.iconst 0), some (.invokestatic 41), none, none, some (.aload_n 0), some (.dup), some (.getfield 9), none, none, some (.iconst 1), some (.iadd)],
  [some (.putfield 9), none, none, some (.iload_n 3), some (.ireturn)]]
theorem q_code52_ok : q_dec prog_6_method_3_code q_code52 := f_all2_ok (by decide +kernel)
def q_code53 : List (List (Option Instr)) := [[some (.iload_n 2), some (.ifCond .lt 23), none, none, some (.iload_n 2), some (.iload_n 1), some (.if_icmp .ge 18), none, none, some (.aload_n 0), some (.getfield 22), none, none, some (.iload_n 2), some (.invokestatic 45), none],
  [none, some (.ifCond .ge 7), none, none, some (.iconst 1), some (.goto 4), none, none, some (.iconst 0), some (.istore 5), none, some (.iload 5), none, some (.ifCond .eq 25), none, none],
  [some (.aload_n 0), some (.getfield 15), none, none, some (.iload_n 1), some (.invokestatic 45), none, none, some (.aload_n 0), some (.getfield 15), none, none, some (.iload_n 2), some (.invokestatic 45), none, none],
  [some (.invokestatic 49), none, none, some (.ifCond .ne 5), none, none, some (.iconst 0), some (.ireturn), some (.iload_n 1), some (.bipush 8), none, some (.imul), some (.aload_n 0), some (.getfield 25), none, none],
  [some (.iload_n 1), some (.invokestatic 45), none, none, some (.iadd), some (.istore 6), none, some (.aload_n 0), some (.getfield 28), none, none, some (.iload 6), none, some (.iload_n 2), some (.invokestatic 41), none],
  [none, some (.aload_n 0), some (.getfield 31), none, none, some (.iload 6), none, some (.iload_n 3), some (.invokestatic 41), none, none, some (.aload_n 0), some (.getfield 34), none, none, some (.iload 6)],
  [none, some (.iload 4), none, some (.invokestatic 41), none, none, some (.aload_n 0), some (.getfield 25), none, none, some (.iload_n 1), some (.aload_n 0), some (.getfield 25), none, none, some (.iload_n 1)],
  [some (.invokestatic 45), none, none, some (.iconst 1), some (.iadd), some (.invokestatic 41), none, none, some (.aload_n 0), some (.getfield 22), none, none, some (.iload_n 2), some (.iload_n 1), some (.invokestatic 41), none],
  [none, some (.iconst 1), some (.ireturn)]]
theorem q_code53_ok : q_dec prog_6_method_4_code q_code53 := f_all2_ok (by decide +kernel)
def q_code54 : List (List (Option Instr)) := [[some (.iload_n 0), some (.iconst 1), some (.if_icmp .ne 7), none, none, some (.iload_n 1), some (.ifCond .eq 27), none, none, some (.iload_n 0), some (.iconst 2), some (.if_icmp .ne 12), none, none, some (.iload_n 1), some (.ifCond .eq 18)],
  [none, none, some (.iload_n 1), some (.iconst 1), some (.if_icmp .eq 13), none, none, some (.iload_n 0), some (.iconst 3), some (.if_icmp .ne 12), none, none, some (.iload_n 1), some (.iconst 3), some (.if_icmp .eq 7), none],
  [none, some (.iconst 1), some (.goto 4), none, none, some (.iconst 0), some (.ireturn)]]
theorem q_code54_ok : q_dec prog_6_method_5_code q_code54 := f_all2_ok (by decide +kernel)
def q_code55 : List (List (Option Instr)) := [[some (.aload_n 0), some (.iload_n 1), some (.putfield 9), none, none, some (.iconst 0), some (.istore_n 2), some (.iload_n 2), some (.iload_n 1), some (.if_icmp .ge 30), none, none, some (.aload_n 0), some (.getfield 22), none, none],
  [some (.iload_n 2), some (.invokestatic 45), none, none, some (.iload_n 1), some (.if_icmp .lt 12), none, none, some (.aload_n 0), some (.getfield 22), none, none, some (.iload_n 2), some (.iconst (-1)), some (.invokestatic 41), none],
  [none, some (.iinc 2 1), none, none, some (.goto (-29)), none, none, some (.return_)]]
theorem q_code55_ok : q_dec prog_6_method_6_code q_code55 := f_all2_ok (by decide +kernel)
def q_code56 : List (List (Option Instr)) := [[some (.iconst 0), some (.istore_n 2), some (.iconst 0), some (.istore_n 3), some (.iload_n 3), some (.aload_n 0), some (.getfield 9), none, none, some (.if_icmp .ge 24), none, none, some (.aload_n 0), some (.getfield 15), none, none],
  [some (.iload_n 3), some (.invokestatic 45), none, none, some (.iload_n 1), some (.if_icmp .ne 6), none, none, some (.iinc 2 1), none, none, some (.iinc 3 1), none, none, some (.goto (-26)), none],
  [none, some (.iload_n 2), some (.ireturn)]]
theorem q_code56_ok : q_dec prog_6_method_7_code q_code56 := f_all2_ok (by decide +kernel)
def q_code57 : List (List (Option Instr)) := [[some (.aload_n 0), some (.invokespecial 3), none, none, some (.aload_n 0), some (.iconst 0), some (.putfield 9), none, none, some (.aload_n 0), some (.iconst 0), some (.putfield 15), none, none, some (.aload_n 0), some (.iconst 0)],
  [some (.putfield 18), none, none, some (.aload_n 0), some (.iconst 0), some (.putfield 21), none, none, some (.aload_n 0), some (.iconst 0), some (.putfield 24), none, none, some (.aload_n 0), some (.iconst 0), some (.putfield 28)],
  [none, none, some (.aload_n 0), some (.iconst 0), some (.putfield 31), none, none, some (.aload_n 0), some (.iconst 0), some (.putfield 34), none, none, some (.aload_n 0), some (.iconst 0), some (.putfield 37), none],
  [none, some (.aload_n 0), some (.bipush 120), none, some (.newarray .int), none, some (.putfield 40), none, none, some (.aload_n 0), some (.bipush 120), none, some (.newarray .int), none, some (.putfield 44), none],
  [none, some (.aload_n 0), some (.bipush 121), none, some (.newarray .int), none, some (.putfield 47), none, none, some (.aload_n 0), some (.bipush 120), none, some (.newarray .int), none, some (.putfield 50), none],
  [none, some (.aload_n 0), some (.bipush 120), none, some (.newarray .int), none, some (.putfield 53), none, none, some (.aload_n 0), some (.bipush 120), none, some (.newarray .int), none, some (.putfield 56), none],
  [none, some (.aload_n 0), some (.bipush 120), none, some (.newarray .int), none, some (.putfield 59), none, none, some (.return_)]]
theorem q_code57_ok : q_dec prog_7_method_1_code q_code57 := f_all2_ok (by decide +kernel)
def q_code58 : List (List (Option Instr)) := [[some (.aload_n 0), some (.aload_n 1), some (.invokevirtual 62), none, none, some (.ifCond .ne 12), none, none, some (.sipush (-1000)), none, none, some (.aload_n 0), some (.getfield 15), none, none, some (.isub)],
  [some (.ireturn), some (.aload_n 2), some (.getfield 66), none, none, some (.getfield 72), none, none, some (.istore_n 3), some (.iconst 0), some (.istore 4), none, some (.iload 4), none, some (.aload_n 0), some (.getfield 34)],
  [none, none, some (.if_icmp .ge 41), none, none, some (.aload_n 0), some (.aload_n 2), some (.iload 4), none, some (.invokevirtual 75), none, none, some (.ifCond .ne 25), none, none, some (.aload_n 2)],
  [some (.getfield 66), none, none, some (.iload_n 3), some (.invokevirtual 79), none, none, some (.sipush (-2000)), none, none, some (.aload_n 0), some (.getfield 40), none, none, some (.iload 4), none],
  [some (.invokestatic 83), none, none, some (.isub), some (.ireturn), some (.iinc 4 1), none, none, some (.goto (-44)), none, none, some (.aload_n 2), some (.getfield 66), none, none, some (.getfield 72)],
  [none, none, some (.iload_n 3), some (.isub), some (.ireturn)]]
theorem q_code58_ok : q_dec prog_7_method_2_code q_code58 := f_all2_ok (by decide +kernel)
def q_code59 : List (List (Option Instr)) := [[some (.aload_n 0), some (.aload_n 1), some (.getfield 87), none, none, some (.putfield 9), none, none, some (.aload_n 0), some (.iconst 0), some (.putfield 18), none, none, some (.aload_n 0), some (.iconst 0), some (.putfield 34)],
  [none, none, some (.aload_n 0), some (.iconst 0), some (.putfield 37), none, none, some (.aload_n 0), some (.iconst 0), some (.putfield 15), none, none, some (.aload_n 0), some (.getfield 15), none, none],
  [some (.aload_n 0), some (.getfield 9), none, none, some (.if_icmp .ge 36), none, none, some (.aload_n 0), some (.aload_n 1), some (.getfield 90), none, none, some (.aload_n 0), some (.getfield 15), none, none],
  [some (.invokestatic 83), none, none, some (.invokevirtual 93), none, none, some (.ifCond .ne 5), none, none, some (.iconst 0), some (.ireturn), some (.aload_n 0), some (.dup), some (.getfield 15), none, none],
  [some (.iconst 1), some (.iadd), some (.putfield 15), none, none, some (.goto (-41)), none, none, some (.aload_n 0), some (.getfield 18), none, none, some (.ifCond .ne 14), none, none, some (.aload_n 0)],
  [some (.getfield 34), none, none, some (.ifCond .le 7), none, none, some (.iconst 1), some (.goto 4), none, none, some (.iconst 0), some (.ireturn)]]
theorem q_code59_ok : q_dec prog_7_method_3_code q_code59 := f_all2_ok (by decide +kernel)
def q_code60 : List (List (Option Instr)) := [[some (.aload_n 0), some (.getfield 18), none, none, some (.ifCond .ne 9), none, none, some (.aload_n 0), some (.iload_n 1), some (.invokevirtual 97), none, none, some (.ireturn), some (.iload_n 1), some (.bipush 48), none],
  [some (.if_icmp .lt 13), none, none, some (.iload_n 1), some (.bipush 57), none, some (.if_icmp .gt 7), none, none, some (.iconst 1), some (.goto 4), none, none, some (.iconst 0), some (.istore_n 2), some (.aload_n 0)],
  [some (.getfield 18), none, none, some (.iconst 1), some (.if_icmp .ne 24), none, none, some (.iload_n 2), some (.ifCond .eq 14), none, none, some (.aload_n 0), some (.iload_n 1), some (.bipush 48), none, some (.isub)],
  [some (.invokevirtual 100), none, none, some (.goto 8), none, none, some (.aload_n 0), some (.iload_n 1), some (.invokevirtual 103), none, none, some (.ireturn), some (.iload_n 2), some (.ifCond .eq 52), none, none],
  [some (.aload_n 0), some (.getfield 18), none, none, some (.iconst 2), some (.if_icmp .ne 44), none, none, some (.aload_n 0), some (.getfield 53), none, none, some (.aload_n 0), some (.getfield 37), none, none],
  [some (.iconst 1), some (.isub), some (.bipush 10), none, some (.aload_n 0), some (.getfield 53), none, none, some (.aload_n 0), some (.getfield 37), none, none, some (.iconst 1), some (.isub), some (.invokestatic 83), none],
  [none, some (.imul), some (.iload_n 1), some (.iadd), some (.bipush 48), none, some (.isub), some (.invokestatic 106), none, none, some (.aload_n 0), some (.iconst 3), some (.putfield 18), none, none, some (.iconst 1)],
  [some (.ireturn), some (.iload_n 1), some (.bipush 47), none, some (.if_icmp .ne 10), none, none, some (.aload_n 0), some (.invokevirtual 110), none, none, some (.goto 47), none, none, some (.iload_n 1), some (.bipush 93)],
  [none, some (.if_icmp .ne 10), none, none, some (.aload_n 0), some (.invokevirtual 114), none, none, some (.goto 34), none, none, some (.iload_n 1), some (.bipush 32), none, some (.if_icmp .ne 10), none],
  [none, some (.aload_n 0), some (.invokevirtual 117), none, none, some (.goto 21), none, none, some (.iload_n 1), some (.bipush 59), none, some (.if_icmp .ne 14), none, none, some (.aload_n 0), some (.invokevirtual 120)],
  [none, none, some (.ifCond .eq 7), none, none, some (.iconst 1), some (.goto 4), none, none, some (.iconst 0), some (.ireturn)]]
theorem q_code60_ok : q_dec prog_7_method_4_code q_code60 := f_all2_ok (by decide +kernel)
def q_code61 : List (List (Option Instr)) := [[some (.iload_n 1), some (.bipush 99), none, some (.if_icmp .eq 23), none, none, some (.iload_n 1), some (.bipush 114), none, some (.if_icmp .eq 17), none, none, some (.iload_n 1), some (.bipush 102), none, some (.if_icmp .eq 11)],
  [none, none, some (.iload_n 1), some (.bipush 98), none, some (.if_icmp .eq 5), none, none, some (.iconst 0), some (.ireturn), some (.aload_n 0), some (.getfield 40), none, none, some (.aload_n 0), some (.getfield 34)],
  [none, none, some (.aload_n 0), some (.getfield 15), none, none, some (.invokestatic 106), none, none, some (.aload_n 0), some (.getfield 44), none, none, some (.aload_n 0), some (.getfield 34), none],
  [none, some (.iload_n 1), some (.invokestatic 106), none, none, some (.aload_n 0), some (.iload_n 1), some (.putfield 21), none, none, some (.aload_n 0), some (.iconst 0), some (.putfield 24), none, none, some (.aload_n 0)],
  [some (.iconst 0), some (.putfield 28), none, none, some (.aload_n 0), some (.iconst 1), some (.putfield 31), none, none, some (.aload_n 0), some (.iconst 1), some (.putfield 18), none, none, some (.iconst 1), some (.ireturn)]]
theorem q_code61_ok : q_dec prog_7_method_5_code q_code61 := f_all2_ok (by decide +kernel)
def q_code62 : List (List (Option Instr)) := [[some (.aload_n 0), some (.getfield 53), none, none, some (.aload_n 0), some (.getfield 37), none, none, some (.iload_n 1), some (.invokestatic 106), none, none, some (.aload_n 0), some (.getfield 56), none, none],
  [some (.aload_n 0), some (.getfield 37), none, none, some (.aload_n 0), some (.getfield 31), none, none, some (.iconst 1), some (.isub), some (.invokestatic 106), none, none, some (.aload_n 0), some (.getfield 59), none],
  [none, some (.aload_n 0), some (.getfield 37), none, none, some (.aload_n 0), some (.getfield 28), none, none, some (.invokestatic 106), none, none, some (.aload_n 0), some (.dup), some (.getfield 37), none],
  [none, some (.iconst 1), some (.iadd), some (.putfield 37), none, none, some (.aload_n 0), some (.iload_n 1), some (.ifCond .ne 7), none, none, some (.iconst 3), some (.goto 4), none, none, some (.iconst 2)],
  [some (.putfield 18), none, none, some (.iconst 1), some (.ireturn)]]
theorem q_code62_ok : q_dec prog_7_method_6_code q_code62 := f_all2_ok (by decide +kernel)
def q_code63 : List (List (Option Instr)) := [[some (.iload_n 1), some (.bipush 91), none, some (.if_icmp .ne 19), none, none, some (.aload_n 0), some (.getfield 21), none, none, some (.bipush 114), none, some (.if_icmp .ne 10), none, none, some (.aload_n 0)],
  [some (.getfield 28), none, none, some (.ifCond .eq 5), none, none, some (.iconst 0), some (.ireturn), some (.aload_n 0), some (.iconst 1), some (.putfield 28), none, none, some (.iconst 1), some (.ireturn)]]
theorem q_code63_ok : q_dec prog_7_method_7_code q_code63 := f_all2_ok (by decide +kernel)
def q_code64 : List (List (Option Instr)) := [[some (.aload_n 0), some (.getfield 21), none, none, some (.bipush 99), none, some (.if_icmp .ne 10), none, none, some (.aload_n 0), some (.getfield 24), none, none, some (.ifCond .eq 5), none, none],
  [some (.iconst 0), some (.ireturn), some (.aload_n 0), some (.iconst 1), some (.putfield 24), none, none, some (.aload_n 0), some (.iconst 1), some (.putfield 18), none, none, some (.iconst 1), some (.ireturn)]]
theorem q_code64_ok : q_dec prog_7_method_8_code q_code64 := f_all2_ok (by decide +kernel)
def q_code65 : List (List (Option Instr)) := [[some (.aload_n 0), some (.getfield 28), none, none, some (.ifCond .ne 5), none, none, some (.iconst 0), some (.ireturn), some (.aload_n 0), some (.iconst 0), some (.putfield 28), none, none, some (.aload_n 0), some (.iconst 3)],
  [some (.putfield 18), none, none, some (.iconst 1), some (.ireturn)]]
theorem q_code65_ok : q_dec prog_7_method_9_code q_code65 := f_all2_ok (by decide +kernel)
def q_code66 : List (List (Option Instr)) := [[some (.aload_n 0), some (.getfield 21), none, none, some (.bipush 98), none, some (.if_icmp .eq 19), none, none, some (.aload_n 0), some (.getfield 21), none, none, some (.bipush 99), none, some (.if_icmp .ne 12)],
  [none, none, some (.aload_n 0), some (.getfield 24), none, none, some (.ifCond .ne 5), none, none, some (.iconst 0), some (.ireturn), some (.aload_n 0), some (.getfield 28), none, none, some (.ifCond .ne 13)],
  [none, none, some (.aload_n 0), some (.dup), some (.getfield 31), none, none, some (.iconst 1), some (.iadd), some (.putfield 31), none, none, some (.aload_n 0), some (.iconst 0), some (.putfield 24), none],
  [none, some (.aload_n 0), some (.iconst 1), some (.putfield 18), none, none, some (.iconst 1), some (.ireturn)]]
theorem q_code66_ok : q_dec prog_7_method_10_code q_code66 := f_all2_ok (by decide +kernel)
def q_code67 : List (List (Option Instr)) := [[some (.aload_n 0), some (.getfield 28), none, none, some (.ifCond .ne 19), none, none, some (.aload_n 0), some (.getfield 21), none, none, some (.bipush 99), none, some (.if_icmp .ne 12), none, none],
  [some (.aload_n 0), some (.getfield 24), none, none, some (.ifCond .ne 5), none, none, some (.iconst 0), some (.ireturn), some (.aload_n 0), some (.getfield 50), none, none, some (.aload_n 0), some (.getfield 34), none],
  [none, some (.aload_n 0), some (.getfield 31), none, none, some (.invokestatic 106), none, none, some (.aload_n 0), some (.dup), some (.getfield 34), none, none, some (.iconst 1), some (.iadd), some (.putfield 34)],
  [none, none, some (.aload_n 0), some (.getfield 47), none, none, some (.aload_n 0), some (.getfield 34), none, none, some (.aload_n 0), some (.getfield 37), none, none, some (.invokestatic 106), none],
  [none, some (.aload_n 0), some (.iconst 0), some (.putfield 18), none, none, some (.iconst 1), some (.ireturn)]]
theorem q_code67_ok : q_dec prog_7_method_11_code q_code67 := f_all2_ok (by decide +kernel)
def q_code68 : List (List (Option Instr)) := [[some (.aload_n 1), some (.getfield 66), none, none, some (.getfield 72), none, none, some (.bipush 40), none, some (.if_icmp .lt 5), none, none, some (.iconst 0), some (.ireturn), some (.aload_n 0), some (.getfield 47)],
  [none, none, some (.iload_n 2), some (.invokestatic 83), none, none, some (.istore_n 3), some (.aload_n 0), some (.getfield 47), none, none, some (.iload_n 2), some (.iconst 1), some (.iadd), some (.invokestatic 83), none],
  [none, some (.iload_n 3), some (.isub), some (.istore 4), none, some (.aload_n 0), some (.getfield 44), none, none, some (.iload_n 2), some (.invokestatic 83), none, none, some (.istore 5), none, some (.iload 5)],
  [none, some (.bipush 99), none, some (.if_icmp .ne 14), none, none, some (.aload_n 0), some (.aload_n 1), some (.iload_n 3), some (.iload 4), none, some (.iconst 2), some (.idiv), some (.invokevirtual 123), none, none],
  [some (.ireturn), some (.iload 5), none, some (.bipush 114), none, some (.if_icmp .ne 36), none, none, some (.iload 4), none, some (.bipush 8), none, some (.if_icmp .gt 27), none, none, some (.aload_n 0)],
  [some (.aload_n 1), some (.iconst 1), some (.aload_n 0), some (.getfield 50), none, none, some (.iload_n 2), some (.invokestatic 83), none, none, some (.iload_n 3), some (.iload 4), none, some (.invokevirtual 127), none, none],
  [some (.ifCond .eq 7), none, none, some (.iconst 1), some (.goto 4), none, none, some (.iconst 0), some (.ireturn), some (.iload 5), none, some (.bipush 102), none, some (.if_icmp .ne 30), none, none],
  [some (.iload 4), none, some (.bipush 6), none, some (.if_icmp .gt 21), none, none, some (.aload_n 0), some (.aload_n 1), some (.iconst 2), some (.iload 4), none, some (.iload_n 3), some (.iload 4), none, some (.invokevirtual 127)],
  [none, none, some (.ifCond .eq 7), none, none, some (.iconst 1), some (.goto 4), none, none, some (.iconst 0), some (.ireturn), some (.aload_n 0), some (.aload_n 1), some (.iconst 3), some (.iconst 1), some (.iload_n 3)],
  [some (.iload 4), none, some (.invokevirtual 127), none, none, some (.ireturn)]]
theorem q_code68_ok : q_dec prog_7_method_12_code q_code68 := f_all2_ok (by decide +kernel)
def q_code69 : List (List (Option Instr)) := [[some (.iload_n 3), some (.iconst 2), some (.if_icmp .lt 9), none, none, some (.iload_n 3), some (.bipush 6), none, some (.if_icmp .le 5), none, none, some (.iconst 0), some (.ireturn), some (.aload_n 1), some (.iconst 0), some (.iload_n 3)],
  [some (.invokevirtual 131), none, none, some (.istore 4), none, some (.iconst 0), some (.istore 5), none, some (.iload 5), none, some (.iload_n 3), some (.if_icmp .ge 73), none, none, some (.aload_n 1), some (.getfield 135)],
  [none, none, some (.getfield 139), none, none, some (.iload 4), none, some (.bipush 6), none, some (.imul), some (.iload 5), none, some (.iadd), some (.aload_n 0), some (.getfield 53), none],
  [none, some (.iload_n 2), some (.iconst 2), some (.iload 5), none, some (.imul), some (.iadd), some (.invokestatic 83), none, none, some (.invokestatic 106), none, none, some (.aload_n 1), some (.getfield 135), none],
  [none, some (.getfield 144), none, none, some (.iload 4), none, some (.bipush 6), none, some (.imul), some (.iload 5), none, some (.iadd), some (.aload_n 0), some (.getfield 53), none, none],
  [some (.iload_n 2), some (.iconst 2), some (.iload 5), none, some (.imul), some (.iadd), some (.iconst 1), some (.iadd), some (.invokestatic 83), none, none, some (.invokestatic 106), none, none, some (.iinc 5 1), none],
  [none, some (.goto (-73)), none, none, some (.aload_n 1), some (.getfield 135), none, none, some (.iload 4), none, some (.iload_n 3), some (.invokevirtual 147), none, none, some (.ireturn)]]
theorem q_code69_ok : q_dec prog_7_method_13_code q_code69 := f_all2_ok (by decide +kernel)
def q_code70 : List (List (Option Instr)) := [[some (.aload_n 1), some (.iload_n 2), some (.iload_n 3), some (.invokevirtual 131), none, none, some (.istore 6), none, some (.iload 4), none, some (.istore 7), none, some (.iload 7), none, some (.iload 4), none],
  [some (.iload 5), none, some (.iadd), some (.if_icmp .ge 50), none, none, some (.aload_n 1), some (.getfield 66), none, none, some (.iload 6), none, some (.aload_n 0), some (.getfield 53), none, none],
  [some (.iload 7), none, some (.invokestatic 83), none, none, some (.aload_n 0), some (.getfield 56), none, none, some (.iload 7), none, some (.invokestatic 83), none, none, some (.aload_n 0), some (.getfield 59)],
  [none, none, some (.iload 7), none, some (.invokestatic 83), none, none, some (.invokevirtual 151), none, none, some (.ifCond .ne 5), none, none, some (.iconst 0), some (.ireturn), some (.iinc 7 1)],
  [none, none, some (.goto (-54)), none, none, some (.iconst 1), some (.ireturn)]]
theorem q_code70_ok : q_dec prog_7_method_14_code q_code70 := f_all2_ok (by decide +kernel)
def q_code71 : List (List (Option Instr)) := [[some (.aload_n 0), some (.invokespecial 3), none, none, some (.aload_n 0), some (.bipush 10), none, some (.newarray .int), none, some (.putfield 9), none, none, some (.aload_n 0), some (.bipush 10), none, some (.newarray .int)],
  [none, some (.putfield 15), none, none, some (.aload_n 0), some (.bipush 10), none, some (.newarray .int), none, some (.putfield 18), none, none, some (.aload_n 0), some (.bipush 12), none, some (.newarray .int)],
  [none, some (.putfield 21), none, none, some (.aload_n 0), some (.bipush 12), none, some (.newarray .int), none, some (.putfield 24), none, none, some (.aload_n 0), some (.bipush 120), none, some (.newarray .int)],
  [none, some (.putfield 27), none, none, some (.aload_n 0), some (.iconst 0), some (.putfield 30), none, none, some (.aload_n 0), some (.iconst 0), some (.putfield 34), none, none, some (.return_)]]
theorem q_code71_ok : q_dec prog_8_method_1_code q_code71 := f_all2_ok (by decide +kernel)
def q_code72 : List (List (Option Instr)) := [[some (.aload_n 1), some (.getfield 9), none, none, some (.aload_n 0), some (.getfield 9), none, none, some (.invokestatic 37), none, none, some (.aload_n 1), some (.getfield 15), none, none, some (.aload_n 0)],
  [some (.getfield 15), none, none, some (.invokestatic 37), none, none, some (.aload_n 1), some (.getfield 18), none, none, some (.aload_n 0), some (.getfield 18), none, none, some (.invokestatic 37), none],
  [none, some (.aload_n 1), some (.getfield 21), none, none, some (.aload_n 0), some (.getfield 21), none, none, some (.invokestatic 37), none, none, some (.aload_n 1), some (.getfield 24), none, none],
  [some (.aload_n 0), some (.getfield 24), none, none, some (.invokestatic 37), none, none, some (.aload_n 1), some (.getfield 27), none, none, some (.aload_n 0), some (.getfield 27), none, none, some (.invokestatic 37)],
  [none, none, some (.aload_n 0), some (.aload_n 1), some (.getfield 30), none, none, some (.putfield 30), none, none, some (.aload_n 0), some (.aload_n 1), some (.getfield 34), none, none, some (.putfield 34)],
  [none, none, some (.return_)]]
theorem q_code72_ok : q_dec prog_8_method_2_code q_code72 := f_all2_ok (by decide +kernel)
def q_code73 : List (List (Option Instr)) := [[some (.iconst 0), some (.istore_n 1), some (.iconst 0), some (.istore_n 2), some (.iload_n 2), some (.bipush 10), none, some (.if_icmp .ge 23), none, none, some (.aload_n 0), some (.getfield 18), none, none, some (.iload_n 2), some (.invokestatic 41)],
  [none, none, some (.ifCond .le 6), none, none, some (.iinc 1 1), none, none, some (.iinc 2 1), none, none, some (.goto (-23)), none, none, some (.iload_n 1), some (.ireturn)]]
theorem q_code73_ok : q_dec prog_8_method_3_code q_code73 := f_all2_ok (by decide +kernel)
def q_code74 : List (List (Option Instr)) := [[some (.aload_n 2), some (.iconst 0), some (.invokestatic 45), none, none, some (.iconst 0), some (.istore_n 3), some (.iload_n 3), some (.bipush 10), none, some (.if_icmp .ge 27), none, none, some (.aload_n 0), some (.getfield 18), none],
  [none, some (.iload_n 3), some (.invokestatic 41), none, none, some (.ifCond .le 10), none, none, some (.aload_n 0), some (.iload_n 3), some (.iload_n 1), some (.aload_n 2), some (.invokevirtual 51), none, none, some (.iinc 3 1)],
  [none, none, some (.goto (-27)), none, none, some (.return_)]]
theorem q_code74_ok : q_dec prog_8_method_4_code q_code74 := f_all2_ok (by decide +kernel)
def q_code75 : List (List (Option Instr)) := [[some (.aload_n 0), some (.getfield 21), none, none, some (.iload_n 2), some (.invokestatic 41), none, none, some (.istore 4), none, some (.aload_n 0), some (.getfield 18), none, none, some (.iload_n 1), some (.invokestatic 41)],
  [none, none, some (.aload_n 0), some (.getfield 24), none, none, some (.iload_n 2), some (.invokestatic 41), none, none, some (.imul), some (.bipush 10), none, some (.idiv), some (.istore 5), none],
  [some (.iconst 0), some (.istore 6), none, some (.iload 6), none, some (.iload 5), none, some (.if_icmp .gt 90), none, none, some (.aload_n 0), some (.getfield 9), none, none, some (.iload_n 1), some (.invokestatic 41)],
  [none, none, some (.iload 6), none, some (.getstatic 55), none, none, some (.iload 4), none, some (.invokestatic 41), none, none, some (.imul), some (.iadd), some (.istore 7), none],
  [some (.aload_n 0), some (.getfield 15), none, none, some (.iload_n 1), some (.invokestatic 41), none, none, some (.iload 6), none, some (.getstatic 58), none, none, some (.iload 4), none, some (.invokestatic 41)],
  [none, none, some (.imul), some (.iadd), some (.istore 8), none, some (.iload 7), none, some (.ifCond .lt 35), none, none, some (.iload 7), none, some (.bipush 20), none, some (.if_icmp .ge 28)],
  [none, none, some (.iload 8), none, some (.ifCond .lt 23), none, none, some (.iload 8), none, some (.bipush 12), none, some (.if_icmp .ge 16), none, none, some (.aload_n 3), some (.iload 8)],
  [none, some (.bipush 20), none, some (.imul), some (.iload 7), none, some (.iadd), some (.iconst 1), some (.invokestatic 61), none, none, some (.iinc 6 1), none, none, some (.goto (-91)), none],
  [none, some (.return_)]]
theorem q_code75_ok : q_dec prog_8_method_5_code q_code75 := f_all2_ok (by decide +kernel)
def q_code76 : List (List (Option Instr)) := [[some (.aload_n 1), some (.getfield 65), none, none, some (.aload_n 0), some (.getfield 27), none, none, some (.invokestatic 37), none, none, some (.aload_n 0), some (.aload_n 1), some (.getfield 70), none, none],
  [some (.putfield 30), none, none, some (.aload_n 0), some (.aload_n 1), some (.invokevirtual 73), none, none, some (.putfield 34), none, none, some (.return_)]]
theorem q_code76_ok : q_dec prog_8_method_6_code q_code76 := f_all2_ok (by decide +kernel)
def q_code77 : List (List (Option Instr)) := [[some (.iload_n 1), some (.ifCond .lt 11), none, none, some (.iload_n 1), some (.aload_n 0), some (.getfield 30), none, none, some (.if_icmp .lt 5), none, none, some (.iconst 0), some (.ireturn), some (.aload_n 0), some (.getfield 27)],
  [none, none, some (.iload_n 1), some (.invokestatic 41), none, none, some (.aload_n 0), some (.getfield 34), none, none, some (.if_icmp .ne 11), none, none, some (.aload_n 0), some (.iload_n 1), some (.invokevirtual 77)],
  [none, none, some (.goto 12), none, none, some (.aload_n 0), some (.getfield 27), none, none, some (.iload_n 1), some (.invokestatic 41), none, none, some (.i2l), some (.lstore_n 2), some (.lload_n 2)],
  [some (.lconst 0), some (.lcmp), some (.ifCond .ge 7), none, none, some (.iconst 0), some (.goto 18), none, none, some (.lload_n 2), some (.ldc2_w 81), none, none, some (.lcmp), some (.ifCond .le 8), none],
  [none, some (.bipush 100), none, some (.goto 5), none, none, some (.lload_n 2), some (.l2i), some (.ireturn)]]
theorem q_code77_ok : q_dec prog_8_method_7_code q_code77 := f_all2_ok (by decide +kernel)
def q_code78 : List (List (Option Instr)) := [[some (.iload_n 1), some (.istore_n 2), some (.iload_n 2), some (.ifCond .lt 24), none, none, some (.aload_n 0), some (.getfield 27), none, none, some (.iload_n 2), some (.invokestatic 41), none, none, some (.aload_n 0), some (.getfield 34)],
  [none, none, some (.if_icmp .ne 9), none, none, some (.iinc 2 (-1)), none, none, some (.goto (-22)), none, none, some (.iload_n 1), some (.istore_n 3), some (.iload_n 3), some (.aload_n 0), some (.getfield 30)],
  [none, none, some (.if_icmp .ge 24), none, none, some (.aload_n 0), some (.getfield 27), none, none, some (.iload_n 3), some (.invokestatic 41), none, none, some (.aload_n 0), some (.getfield 34), none],
  [none, some (.if_icmp .ne 9), none, none, some (.iinc 3 1), none, none, some (.goto (-26)), none, none, some (.iload_n 2), some (.ifCond .ge 13), none, none, some (.iload_n 3), some (.aload_n 0)],
  [some (.getfield 30), none, none, some (.if_icmp .lt 5), none, none, some (.lconst 0), some (.lreturn), some (.aload_n 0), some (.getfield 27), none, none, some (.iload_n 2), some (.ifCond .ge 7), none, none],
  [some (.iload_n 3), some (.goto 4), none, none, some (.iload_n 2), some (.invokestatic 41), none, none, some (.i2l), some (.lstore 4), none, some (.aload_n 0), some (.getfield 27), none, none, some (.iload_n 3)],
  [some (.aload_n 0), some (.getfield 30), none, none, some (.if_icmp .lt 7), none, none, some (.iload_n 2), some (.goto 4), none, none, some (.iload_n 3), some (.invokestatic 41), none, none, some (.i2l)],
  [some (.lstore 6), none, some (.lload 4), none, some (.lload 6), none, some (.ladd), some (.ldc2_w 83), none, none, some (.ldiv), some (.lreturn)]]
theorem q_code78_ok : q_dec prog_8_method_8_code q_code78 := f_all2_ok (by decide +kernel)
def q_code79 : List (List (Option Instr)) := [[some (.aload_n 0), some (.invokespecial 3), none, none, some (.aload_n 0), some (.iconst 0), some (.putfield 9), none, none, some (.aload_n 0), some (.iconst 5), some (.putfield 15), none, none, some (.aload_n 0), some (.iconst 0)],
  [some (.putfield 18), none, none, some (.aload_n 0), some (.iconst 0), some (.putfield 22), none, none, some (.aload_n 0), some (.iconst 0), some (.putfield 25), none, none, some (.return_)]]
theorem q_code79_ok : q_dec prog_9_method_1_code q_code79 := f_all2_ok (by decide +kernel)
def q_code80 : List (List (Option Instr)) := [[some (.aload_n 0), some (.aload_n 1), some (.getfield 9), none, none, some (.putfield 9), none, none, some (.aload_n 0), some (.aload_n 1), some (.getfield 15), none, none, some (.putfield 15), none, none],
  [some (.aload_n 0), some (.aload_n 1), some (.getfield 18), none, none, some (.putfield 18), none, none, some (.aload_n 0), some (.aload_n 1), some (.getfield 22), none, none, some (.putfield 22), none, none],
  [some (.aload_n 0), some (.aload_n 1), some (.getfield 25), none, none, some (.putfield 25), none, none, some (.return_)]]
theorem q_code80_ok : q_dec prog_9_method_2_code q_code80 := f_all2_ok (by decide +kernel)
def q_code81 : List (List (Option Instr)) := [[some (.aload_n 0), some (.iload_n 1), some (.putfield 9), none, none, some (.aload_n 0), some (.iload_n 2), some (.putfield 15), none, none, some (.aload_n 0), some (.iconst 0), some (.putfield 18), none, none, some (.aload_n 0)],
  [some (.iconst 0), some (.putfield 22), none, none, some (.aload_n 0), some (.iconst 0), some (.putfield 25), none, none, some (.return_)]]
theorem q_code81_ok : q_dec prog_9_method_3_code q_code81 := f_all2_ok (by decide +kernel)
def q_code82 : List (List (Option Instr)) := [[some (.aload_n 0), some (.getfield 22), none, none, some (.ifCond .eq 27), none, none, some (.iload_n 1), some (.aload_n 0), some (.getfield 25), none, none, some (.if_icmp .ge 19), none, none, some (.aload_n 0)],
  [some (.aload_n 0), some (.getfield 18), none, none, some (.ifCond .ne 7), none, none, some (.iconst 1), some (.goto 4), none, none, some (.iconst 0), some (.putfield 18), none, none, some (.aload_n 0)],
  [some (.iconst 1), some (.putfield 22), none, none, some (.aload_n 0), some (.iload_n 1), some (.putfield 25), none, none, some (.aload_n 0), some (.dup), some (.getfield 9), none, none, some (.aload_n 0), some (.getfield 18)],
  [none, none, some (.ifCond .eq 11), none, none, some (.aload_n 0), some (.getfield 15), none, none, some (.ineg), some (.goto 7), none, none, some (.aload_n 0), some (.getfield 15), none],
  [none, some (.iadd), some (.putfield 9), none, none, some (.aload_n 0), some (.getfield 9), none, none, some (.ifCond .ge 27), none, none, some (.aload_n 0), some (.iconst 0), some (.putfield 9), none],
  [none, some (.aload_n 0), some (.aload_n 0), some (.getfield 18), none, none, some (.ifCond .ne 7), none, none, some (.iconst 1), some (.goto 4), none, none, some (.iconst 0), some (.putfield 18), none],
  [none, some (.goto 36), none, none, some (.aload_n 0), some (.getfield 9), none, none, some (.sipush 500), none, none, some (.if_icmp .le 26), none, none, some (.aload_n 0), some (.sipush 500)],
  [none, none, some (.putfield 9), none, none, some (.aload_n 0), some (.aload_n 0), some (.getfield 18), none, none, some (.ifCond .ne 7), none, none, some (.iconst 1), some (.goto 4), none],
  [none, some (.iconst 0), some (.putfield 18), none, none, some (.return_)]]
theorem q_code82_ok : q_dec prog_9_method_4_code q_code82 := f_all2_ok (by decide +kernel)
def q_code83 : List (List (Option Instr)) := [[some (.aload_n 0), some (.invokespecial 3), none, none, some (.aload_n 0), some (.iconst 0), some (.putfield 9), none, none, some (.aload_n 0), some (.iconst 0), some (.putfield 15), none, none, some (.aload_n 0), some (.iconst 0)],
  [some (.putfield 18), none, none, some (.aload_n 0), some (.iconst 0), some (.putfield 22), none, none, some (.aload_n 0), some (.iconst 0), some (.putfield 25), none, none, some (.aload_n 0), some (.iconst 0), some (.putfield 28)],
  [none, none, some (.aload_n 0), some (.bipush 120), none, some (.newarray .int), none, some (.putfield 31), none, none, some (.return_)]]
theorem q_code83_ok : q_dec prog_10_method_1_code q_code83 := f_all2_ok (by decide +kernel)
def q_code84 : List (List (Option Instr)) := [[some (.aload_n 0), some (.getfield 9), none, none, some (.ifCond .ne 14), none, none, some (.aload_n 0), some (.getfield 15), none, none, some (.ifCond .ne 7), none, none, some (.iconst 1), some (.goto 4)],
  [none, none, some (.iconst 0), some (.ireturn)]]
theorem q_code84_ok : q_dec prog_10_method_2_code q_code84 := f_all2_ok (by decide +kernel)
def q_code85 : List (List (Option Instr)) := [[some (.aload_n 0), some (.iconst 0), some (.putfield 9), none, none, some (.aload_n 0), some (.iconst 0), some (.putfield 15), none, none, some (.return_)]]
theorem q_code85_ok : q_dec prog_10_method_3_code q_code85 := f_all2_ok (by decide +kernel)
def q_code86 : List (List (Option Instr)) := [[some (.aload_n 0), some (.iconst 1), some (.putfield 9), none, none, some (.aload_n 0), some (.iconst 0), some (.putfield 15), none, none, some (.aload_n 0), some (.iload_n 1), some (.putfield 18), none, none, some (.aload_n 0)],
  [some (.iload_n 2), some (.putfield 22), none, none, some (.return_)]]
theorem q_code86_ok : q_dec prog_10_method_4_code q_code86 := f_all2_ok (by decide +kernel)
def q_code87 : List (List (Option Instr)) := [[some (.aload_n 0), some (.iconst 0), some (.putfield 9), none, none, some (.aload_n 0), some (.iconst 1), some (.putfield 15), none, none, some (.aload_n 0), some (.iload_n 1), some (.putfield 25), none, none, some (.aload_n 0)],
  [some (.iload_n 2), some (.putfield 28), none, none, some (.aload_n 0), some (.getfield 31), none, none, some (.iconst 0), some (.invokestatic 35), none, none, some (.return_)]]
theorem q_code87_ok : q_dec prog_10_method_5_code q_code87 := f_all2_ok (by decide +kernel)
def q_code88 : List (List (Option Instr)) := [[some (.aload_n 0), some (.getfield 25), none, none, some (.ifCond .ne 8), none, none, some (.iload_n 1), some (.i2b), some (.goto 17), none, none, some (.aload_n 0), some (.getfield 25), none, none],
  [some (.iconst 1), some (.if_icmp .ne 8), none, none, some (.iload_n 1), some (.i2s), some (.goto 4), none, none, some (.iload_n 1), some (.ireturn)]]
theorem q_code88_ok : q_dec prog_10_method_6_code q_code88 := f_all2_ok (by decide +kernel)
def q_code89 : List (List (Option Instr)) := [[some (.aload_n 0), some (.getfield 25), none, none, some (.ifCond .ne 8), none, none, some (.bipush (-128)), none, some (.goto 19), none, none, some (.aload_n 0), some (.getfield 25), none, none],
  [some (.iconst 1), some (.if_icmp .ne 9), none, none, some (.sipush (-32768)), none, none, some (.goto 5), none, none, some (.ldc 41), none, some (.ireturn)]]
theorem q_code89_ok : q_dec prog_10_method_7_code q_code89 := f_all2_ok (by decide +kernel)
def q_code90 : List (List (Option Instr)) := [[some (.iload_n 1), some (.ifCond .lt 33), none, none, some (.iload_n 2), some (.ifCond .lt 29), none, none, some (.iload_n 1), some (.i2l), some (.iload_n 2), some (.i2l), some (.ladd), some (.aload_n 0), some (.getfield 28), none],
  [none, some (.aload_n 0), some (.getfield 31), none, none, some (.arraylength), some (.invokestatic 42), none, none, some (.i2l), some (.lcmp), some (.ifCond .gt 7), none, none, some (.iconst 1), some (.goto 4)],
  [none, none, some (.iconst 0), some (.ireturn)]]
theorem q_code90_ok : q_dec prog_10_method_8_code q_code90 := f_all2_ok (by decide +kernel)
def q_code91 : List (List (Option Instr)) := [[some (.iconst 0), some (.istore_n 2), some (.iload_n 2), some (.aload_n 0), some (.getfield 28), none, none, some (.if_icmp .ge 23), none, none, some (.aload_n 0), some (.getfield 31), none, none, some (.iload_n 2), some (.invokestatic 48)],
  [none, none, some (.iload_n 1), some (.if_icmp .ne 5), none, none, some (.iload_n 2), some (.ireturn), some (.iinc 2 1), none, none, some (.goto (-25)), none, none, some (.aload_n 0), some (.getfield 28)],
  [none, none, some (.ireturn)]]
theorem q_code91_ok : q_dec prog_10_method_9_code q_code91 := f_all2_ok (by decide +kernel)
def q_code92 : List (List (Option Instr)) := [[some (.aload_n 0), some (.invokespecial 3), none, none, some (.aload_n 0), some (.bipush 12), none, some (.newarray .int), none, some (.putfield 9), none, none, some (.aload_n 0), some (.bipush 12), none, some (.newarray .int)],
  [none, some (.putfield 15), none, none, some (.aload_n 0), some (.iconst 0), some (.putfield 18), none, none, some (.aload_n 0), some (.sipush 403), none, none, some (.newarray .int), none, some (.putfield 22)],
  [none, none, some (.return_)]]
theorem q_code92_ok : q_dec prog_11_method_1_code q_code92 := f_all2_ok (by decide +kernel)
def q_code93 : List (List (Option Instr)) := [[some (.aload_n 1), some (.getfield 9), none, none, some (.aload_n 0), some (.getfield 9), none, none, some (.invokestatic 25), none, none, some (.aload_n 1), some (.getfield 15), none, none, some (.aload_n 0)],
  [some (.getfield 15), none, none, some (.invokestatic 25), none, none, some (.aload_n 0), some (.aload_n 1), some (.getfield 18), none, none, some (.putfield 18), none, none, some (.return_)]]
theorem q_code93_ok : q_dec prog_11_method_2_code q_code93 := f_all2_ok (by decide +kernel)
def q_code94 : List (List (Option Instr)) := [[some (.aload_n 0), some (.getfield 22), none, none, some (.iconst 0), some (.invokestatic 29), none, none, some (.bipush 11), none, some (.istore_n 1), some (.iload_n 1), some (.ifCond .lt 88), none, none, some (.iconst 0)],
  [some (.istore_n 2), some (.iload_n 2), some (.aload_n 0), some (.getfield 18), none, none, some (.if_icmp .gt 72), none, none, some (.iload_n 2), some (.aload_n 0), some (.getfield 9), none, none, some (.iload_n 1), some (.invokestatic 35)],
  [none, none, some (.iadd), some (.istore_n 3), some (.iconst 0), some (.istore 4), none, some (.aload_n 0), some (.iload_n 3), some (.invokevirtual 39), none, none, some (.istore 5), none, some (.iload 5), none],
  [some (.iload_n 3), some (.if_icmp .gt 24), none, none, some (.iload 4), none, some (.aload_n 0), some (.iload_n 1), some (.iload_n 3), some (.iload 5), none, some (.invokevirtual 43), none, none, some (.invokestatic 47), none],
  [none, some (.istore 4), none, some (.iinc 5 1), none, none, some (.goto (-24)), none, none, some (.aload_n 0), some (.getfield 22), none, none, some (.iload_n 1), some (.bipush 31), none],
  [some (.imul), some (.iload_n 2), some (.iadd), some (.iload 4), none, some (.invokestatic 53), none, none, some (.iinc 2 1), none, none, some (.goto (-74)), none, none, some (.iinc 1 (-1)), none],
  [none, some (.goto (-86)), none, none, some (.return_)]]
theorem q_code94_ok : q_dec prog_11_method_3_code q_code94 := f_all2_ok (by decide +kernel)
def q_code95 : List (List (Option Instr)) := [[some (.iconst 0), some (.iload_n 1), some (.aload_n 0), some (.getfield 18), none, none, some (.isub), some (.invokestatic 47), none, none, some (.ireturn)]]
theorem q_code95_ok : q_dec prog_11_method_4_code q_code95 := f_all2_ok (by decide +kernel)
def q_code96 : List (List (Option Instr)) := [[some (.iload_n 3), some (.aload_n 0), some (.getfield 15), none, none, some (.iload_n 1), some (.invokestatic 35), none, none, some (.imul), some (.aload_n 0), some (.getfield 22), none, none, some (.iload_n 1), some (.iconst 1)],
  [some (.iadd), some (.bipush 31), none, some (.imul), some (.iload_n 2), some (.iadd), some (.iload_n 3), some (.isub), some (.invokestatic 35), none, none, some (.iadd), some (.ireturn)]]
theorem q_code96_ok : q_dec prog_11_method_5_code q_code96 := f_all2_ok (by decide +kernel)
def q_code97 : List (List (Option Instr)) := [[some (.aload_n 0), some (.getfield 22), none, none, some (.iconst 0), some (.invokestatic 35), none, none, some (.ireturn)]]
theorem q_code97_ok : q_dec prog_11_method_6_code q_code97 := f_all2_ok (by decide +kernel)
def q_code98 : List (List (Option Instr)) := [[some (.iconst 0), some (.istore_n 2), some (.iconst 0), some (.istore_n 3), some (.iconst 0), some (.istore 4), none, some (.iload 4), none, some (.iload_n 1), some (.if_icmp .gt 76), none, none, some (.iload_n 2), some (.aload_n 0), some (.getfield 9)],
  [none, none, some (.iload 4), none, some (.invokestatic 35), none, none, some (.iadd), some (.istore 5), none, some (.aload_n 0), some (.getfield 22), none, none, some (.iload 4), none],
  [some (.bipush 31), none, some (.imul), some (.iload_n 2), some (.iadd), some (.invokestatic 35), none, none, some (.istore 6), none, some (.aload_n 0), some (.iload 5), none, some (.invokevirtual 39), none, none],
  [some (.istore_n 3), some (.iload_n 3), some (.iload 5), none, some (.if_icmp .ge 23), none, none, some (.aload_n 0), some (.iload 4), none, some (.iload 5), none, some (.iload_n 3), some (.invokevirtual 43), none, none],
  [some (.iload 6), none, some (.if_icmp .eq 9), none, none, some (.iinc 3 1), none, none, some (.goto (-23)), none, none, some (.iload 5), none, some (.iload_n 3), some (.isub), some (.istore_n 2)],
  [some (.iinc 4 1), none, none, some (.goto (-76)), none, none, some (.iload_n 3), some (.ireturn)]]
theorem q_code98_ok : q_dec prog_11_method_7_code q_code98 := f_all2_ok (by decide +kernel)
def q_code99 : List (List (Option Instr)) := [[some (.aload_n 0), some (.invokespecial 3), none, none, some (.aload_n 0), some (.iconst 0), some (.putfield 9), none, none, some (.aload_n 0), some (.bipush 31), none, some (.newarray .int), none, some (.putfield 15), none],
  [none, some (.aload_n 0), some (.bipush 31), none, some (.newarray .int), none, some (.putfield 19), none, none, some (.aload_n 0), some (.bipush 31), none, some (.newarray .int), none, some (.putfield 22), none],
  [none, some (.return_)]]
theorem q_code99_ok : q_dec prog_12_method_1_code q_code99 := f_all2_ok (by decide +kernel)
def q_code100 : List (List (Option Instr)) := [[some (.aload_n 0), some (.aload_n 1), some (.getfield 25), none, none, some (.putfield 9), none, none, some (.aload_n 0), some (.getfield 15), none, none, some (.aload_n 0), some (.getfield 9), none, none],
  [some (.iconst 0), some (.invokestatic 30), none, none, some (.aload_n 0), some (.getfield 19), none, none, some (.aload_n 0), some (.getfield 9), none, none, some (.iconst 0), some (.invokestatic 30), none, none],
  [some (.aload_n 0), some (.getfield 22), none, none, some (.aload_n 0), some (.getfield 9), none, none, some (.aload_n 0), some (.getfield 9), none, none, some (.invokestatic 30), none, none, some (.aload_n 0)],
  [some (.getfield 9), none, none, some (.iconst 1), some (.isub), some (.istore 4), none, some (.iload 4), none, some (.ifCond .lt 18), none, none, some (.aload_n 0), some (.iload 4), none, some (.aload_n 1)],
  [some (.iload_n 2), some (.iload_n 3), some (.invokevirtual 34), none, none, some (.iinc 4 (-1)), none, none, some (.goto (-17)), none, none, some (.return_)]]
theorem q_code100_ok : q_dec prog_12_method_2_code q_code100 := f_all2_ok (by decide +kernel)
def q_code101 : List (List (Option Instr)) := [[some (.iconst 0), some (.istore 5), none, some (.iconst 0), some (.istore 6), none, some (.iload_n 1), some (.iconst 1), some (.iadd), some (.istore 7), none, some (.iload 7), none, some (.aload_n 0), some (.getfield 9), none],
  [none, some (.if_icmp .gt 202), none, none, some (.iload 7), none, some (.iconst 1), some (.isub), some (.iload_n 1), some (.isub), some (.iload_n 3), some (.imul), some (.bipush 50), none, some (.invokestatic 38), none],
  [none, some (.istore 8), none, some (.iload 5), none, some (.aload_n 2), some (.getfield 44), none, none, some (.iload 7), none, some (.iconst 1), some (.isub), some (.invokestatic 47), none, none],
  [some (.bipush 100), none, some (.iload 8), none, some (.isub), some (.imul), some (.bipush 100), none, some (.idiv), some (.iadd), some (.istore 5), none, some (.iload 7), none, some (.aload_n 0), some (.getfield 9)],
  [none, none, some (.if_icmp .ge 7), none, none, some (.iconst 1), some (.goto 4), none, none, some (.iconst 0), some (.istore 9), none, some (.iload 5), none, some (.aload_n 0), some (.getfield 15)],
  [none, none, some (.iload 7), none, some (.invokestatic 47), none, none, some (.iadd), some (.iload 9), none, some (.ifCond .eq 8), none, none, some (.iload 4), none, some (.goto 4)],
  [none, none, some (.iconst 0), some (.isub), some (.istore 10), none, some (.aload_n 0), some (.getfield 19), none, none, some (.iload 7), none, some (.invokestatic 47), none, none, some (.iload 9)],
  [none, some (.ifCond .eq 7), none, none, some (.iconst 1), some (.goto 4), none, none, some (.iconst 0), some (.iadd), some (.istore 11), none, some (.iload 10), none, some (.aload_n 0), some (.getfield 15)],
  [none, none, some (.iload_n 1), some (.invokestatic 47), none, none, some (.if_icmp .gt 29), none, none, some (.iload 10), none, some (.aload_n 0), some (.getfield 15), none, none, some (.iload_n 1)],
  [some (.invokestatic 47), none, none, some (.if_icmp .ne 20), none, none, some (.iload 11), none, some (.aload_n 0), some (.getfield 19), none, none, some (.iload_n 1), some (.invokestatic 47), none, none],
  [some (.if_icmp .gt 7), none, none, some (.iconst 1), some (.goto 4), none, none, some (.iconst 0), some (.istore 12), none, some (.iload 6), none, some (.ifCond .eq 8), none, none, some (.iload 12)],
  [none, some (.ifCond .eq 36), none, none, some (.aload_n 0), some (.getfield 15), none, none, some (.iload_n 1), some (.iload 10), none, some (.invokestatic 30), none, none, some (.aload_n 0), some (.getfield 19)],
  [none, none, some (.iload_n 1), some (.iload 11), none, some (.invokestatic 30), none, none, some (.aload_n 0), some (.getfield 22), none, none, some (.iload_n 1), some (.iload 7), none, some (.invokestatic 30)],
  [none, none, some (.iconst 1), some (.istore 6), none, some (.iinc 7 1), none, none, some (.goto (-205)), none, none, some (.return_)]]
theorem q_code101_ok : q_dec prog_12_method_3_code q_code101 := f_all2_ok (by decide +kernel)
def q_code102 : List (List (Option Instr)) := [[some (.iload_n 1), some (.ifCond .ge 12), none, none, some (.aload_n 0), some (.getfield 19), none, none, some (.iconst 0), some (.invokestatic 47), none, none, some (.ireturn), some (.iload_n 1), some (.aload_n 0), some (.getfield 19)],
  [none, none, some (.iconst 0), some (.invokestatic 47), none, none, some (.if_icmp .lt 6), none, none, some (.bipush (-4)), none, some (.ireturn), some (.aload_n 0), some (.getfield 22), none, none],
  [some (.iconst 0), some (.invokestatic 47), none, none, some (.istore_n 2), some (.iconst 0), some (.istore_n 3), some (.iload_n 3), some (.iload_n 1), some (.if_icmp .ge 18), none, none, some (.aload_n 0), some (.getfield 22), none, none],
  [some (.iload_n 2), some (.invokestatic 47), none, none, some (.istore_n 2), some (.iinc 3 1), none, none, some (.goto (-17)), none, none, some (.iload_n 2), some (.ireturn)]]
theorem q_code102_ok : q_dec prog_12_method_4_code q_code102 := f_all2_ok (by decide +kernel)
def q_code103 : List (List (Option Instr)) := [[some (.aload_n 0), some (.invokespecial 3), none, none, some (.new 9), none, none, some (.dup), some (.invokespecial 11), none, none, some (.astore_n 1), some (.aload_n 0), some (.aload_n 1), some (.putfield 12), none],
  [none, some (.aload_n 0), some (.new 9), none, none, some (.dup), some (.invokespecial 11), none, none, some (.putfield 16), none, none, some (.aload_n 0), some (.iconst 0), some (.putfield 19), none],
  [none, some (.aload_n 0), some (.bipush 8), none, some (.anewarray 23), none, none, some (.putfield 25), none, none, some (.iconst 0), some (.istore_n 2), some (.iload_n 2), some (.bipush 8), none, some (.if_icmp .ge 22)],
  [none, none, some (.aload_n 0), some (.getfield 25), none, none, some (.iload_n 2), some (.new 23), none, none, some (.dup), some (.invokespecial 29), none, none, some (.aastore), some (.iinc 2 1)],
  [none, none, some (.goto (-22)), none, none, some (.aload_n 0), some (.new 30), none, none, some (.dup), some (.invokespecial 32), none, none, some (.putfield 33), none, none],
  [some (.aload_n 0), some (.new 37), none, none, some (.dup), some (.aload_n 1), some (.invokespecial 39), none, none, some (.putfield 42), none, none, some (.aload_n 0), some (.new 46), none, none],
  [some (.dup), some (.invokespecial 48), none, none, some (.putfield 49), none, none, some (.aload_n 0), some (.new 53), none, none, some (.dup), some (.invokespecial 55), none, none, some (.putfield 56)],
  [none, none, some (.aload_n 0), some (.new 60), none, none, some (.dup), some (.invokespecial 62), none, none, some (.putfield 63), none, none, some (.aload_n 0), some (.sipush 240), none],
  [none, some (.newarray .int), none, some (.putfield 67), none, none, some (.return_)]]
theorem q_code103_ok : q_dec prog_1_method_1_code q_code103 := f_all2_ok (by decide +kernel)
def q_code104 : List (List (Option Instr)) := [[some (.aload_n 0), some (.iload_n 1), some (.invokevirtual 71), none, none, some (.astore_n 2), some (.aload_n 2), some (.iconst 0), some (.invokestatic 75), none, none, some (.istore_n 3), some (.iload_n 3), some (.ifCond .ne 7), none, none],
  [some (.aload_n 2), some (.ifnonnull 5), none, none, some (.iload_n 3), some (.ireturn), some (.aload_n 0), some (.getfield 33), none, none, some (.aload_n 2), some (.aload_n 0), some (.getfield 12), none, none, some (.invokevirtual 79)],
  [none, none, some (.ireturn)]]
theorem q_code104_ok : q_dec prog_1_method_2_code q_code104 := f_all2_ok (by decide +kernel)
def q_code105 : List (List (Option Instr)) := [[some (.aload_n 0), some (.iload_n 1), some (.invokevirtual 83), none, none, some (.ifCond .eq 12), none, none, some (.iload_n 2), some (.ifCond .lt 8), none, none, some (.iload_n 2), some (.iconst 4), some (.if_icmp .le 5), none],
  [none, some (.iconst (-1)), some (.ireturn), some (.aload_n 0), some (.getfield 12), none, none, some (.getfield 87), none, none, some (.astore_n 3), some (.iload_n 2), some (.ifCond .ne 12), none, none, some (.aload_n 3)],
  [some (.getfield 91), none, none, some (.iload_n 1), some (.invokestatic 96), none, none, some (.ireturn), some (.iload_n 2), some (.iconst 3), some (.if_icmp .ne 12), none, none, some (.aload_n 3), some (.getfield 100), none],
  [none, some (.iload_n 1), some (.invokestatic 96), none, none, some (.ireturn), some (.iload_n 2), some (.iconst 4), some (.if_icmp .ne 26), none, none, some (.aload_n 3), some (.getfield 103), none, none, some (.iload_n 1)],
  [some (.invokestatic 96), none, none, some (.istore 4), none, some (.iload 4), none, some (.ifCond .ge 8), none, none, some (.bipush (-4)), none, some (.goto 5), none, none, some (.iload 4)],
  [none, some (.ireturn), some (.aload_n 0), some (.getfield 42), none, none, some (.iload_n 1), some (.invokevirtual 106), none, none, some (.iload_n 2), some (.iconst 1), some (.if_icmp .ne 13), none, none, some (.aload_n 0)],
  [some (.getfield 42), none, none, some (.getfield 110), none, none, some (.goto 10), none, none, some (.aload_n 0), some (.getfield 42), none, none, some (.invokevirtual 114), none, none],
  [some (.ireturn)]]
theorem q_code105_ok : q_dec prog_1_method_3_code q_code105 := f_all2_ok (by decide +kernel)
def q_code106 : List (List (Option Instr)) := [[some (.aload_n 0), some (.iload_n 1), some (.invokevirtual 83), none, none, some (.ifCond .eq 16), none, none, some (.iload_n 2), some (.ifCond .lt 12), none, none, some (.iload_n 3), some (.ifCond .lt 8), none, none],
  [some (.iload_n 3), some (.iconst 1), some (.if_icmp .le 5), none, none, some (.iconst (-1)), some (.ireturn), some (.aload_n 0), some (.iload_n 1), some (.iconst 0), some (.invokevirtual 118), none, none, some (.ifCond .ne 6), none, none],
  [some (.bipush (-3)), none, some (.ireturn), some (.iload_n 2), some (.aload_n 0), some (.getfield 12), none, none, some (.getfield 87), none, none, some (.getfield 100), none, none, some (.iload_n 1), some (.invokestatic 96)],
  [none, none, some (.if_icmp .lt 5), none, none, some (.iconst (-1)), some (.ireturn), some (.aload_n 0), some (.getfield 42), none, none, some (.iload_n 1), some (.invokevirtual 106), none, none, some (.aload_n 0)],
  [some (.getfield 42), none, none, some (.iconst 0), some (.invokevirtual 122), none, none, some (.iload_n 3), some (.ifCond .ne 13), none, none, some (.aload_n 0), some (.getfield 42), none, none, some (.getfield 125)],
  [none, none, some (.goto 10), none, none, some (.aload_n 0), some (.getfield 42), none, none, some (.getfield 128), none, none, some (.iload_n 2), some (.invokestatic 96), none, none],
  [some (.ireturn)]]
theorem q_code106_ok : q_dec prog_1_method_4_code q_code106 := f_all2_ok (by decide +kernel)
def q_code107 : List (List (Option Instr)) := [[some (.aload_n 0), some (.iload_n 1), some (.invokevirtual 83), none, none, some (.ifCond .eq 27), none, none, some (.iload_n 2), some (.ifCond .lt 23), none, none, some (.iload_n 2), some (.iconst 4), some (.if_icmp .ge 18), none],
  [none, some (.iload_n 3), some (.ifCond .lt 14), none, none, some (.iload_n 3), some (.getstatic 131), none, none, some (.iload_n 2), some (.invokestatic 96), none, none, some (.if_icmp .le 5), none, none],
  [some (.iconst (-1)), some (.ireturn), some (.aload_n 0), some (.iload_n 1), some (.iconst 0), some (.invokevirtual 118), none, none, some (.ifCond .ne 6), none, none, some (.bipush (-3)), none, some (.ireturn), some (.aload_n 0), some (.getfield 12)],
  [none, none, some (.getfield 134), none, none, some (.getfield 137), none, none, some (.iload_n 1), some (.iconst 4), some (.imul), some (.iload_n 2), some (.iadd), some (.invokestatic 96), none, none],
  [some (.istore 4), none, some (.aload_n 0), some (.getfield 12), none, none, some (.getfield 134), none, none, some (.getfield 137), none, none, some (.iload_n 1), some (.iconst 4), some (.imul), some (.iload_n 2)],
  [some (.iadd), some (.iload_n 3), some (.invokestatic 142), none, none, some (.iload 4), none, some (.ireturn)]]
theorem q_code107_ok : q_dec prog_1_method_5_code q_code107 := f_all2_ok (by decide +kernel)
def q_code108 : List (List (Option Instr)) := [[some (.aload_n 0), some (.iload_n 1), some (.invokevirtual 83), none, none, some (.ifCond .ne 5), none, none, some (.iconst (-1)), some (.ireturn), some (.aload_n 0), some (.iload_n 1), some (.iconst 0), some (.invokevirtual 118), none, none],
  [some (.ifCond .ne 6), none, none, some (.bipush (-3)), none, some (.ireturn), some (.iload_n 2), some (.ifCond .eq 7), none, none, some (.iconst 1), some (.goto 4), none, none, some (.iconst 0), some (.istore_n 3)],
  [some (.aload_n 0), some (.getfield 12), none, none, some (.getfield 134), none, none, some (.getfield 146), none, none, some (.iload_n 1), some (.invokestatic 96), none, none, some (.iload_n 3), some (.if_icmp .eq 7)],
  [none, none, some (.iconst 1), some (.goto 4), none, none, some (.iconst 0), some (.istore 4), none, some (.aload_n 0), some (.getfield 12), none, none, some (.getfield 134), none, none],
  [some (.getfield 146), none, none, some (.iload_n 1), some (.iload_n 3), some (.invokestatic 142), none, none, some (.iload 4), none, some (.ifCond .eq 7), none, none, some (.iconst 1), some (.goto 4), none],
  [none, some (.iconst 0), some (.ireturn)]]
theorem q_code108_ok : q_dec prog_1_method_6_code q_code108 := f_all2_ok (by decide +kernel)
def q_code109 : List (List (Option Instr)) := [[some (.aload_n 0), some (.iload_n 1), some (.invokevirtual 83), none, none, some (.ifCond .eq 14), none, none, some (.iload_n 2), some (.ifCond .lt 10), none, none, some (.iload_n 2), some (.sipush 999), none, none],
  [some (.if_icmp .le 13), none, none, some (.new 149), none, none, some (.dup), some (.ldc 151), none, some (.invokespecial 153), none, none, some (.athrow), some (.aload_n 0), some (.getfield 42), none],
  [none, some (.iload_n 1), some (.invokevirtual 106), none, none, some (.aload_n 0), some (.getfield 42), none, none, some (.iload_n 2), some (.invokevirtual 156), none, none, some (.i2l), some (.lreturn)]]
theorem q_code109_ok : q_dec prog_1_method_7_code q_code109 := f_all2_ok (by decide +kernel)
def q_code110 : List (List (Option Instr)) := [[some (.aload_n 0), some (.iload_n 1), some (.invokevirtual 83), none, none, some (.ifCond .eq 16), none, none, some (.iload_n 2), some (.bipush (-50)), none, some (.if_icmp .lt 10), none, none, some (.iload_n 2), some (.sipush 999)],
  [none, none, some (.if_icmp .le 5), none, none, some (.iconst (-1)), some (.ireturn), some (.aload_n 0), some (.iload_n 1), some (.iload_n 2), some (.invokevirtual 160), none, none, some (.ireturn)]]
theorem q_code110_ok : q_dec prog_1_method_8_code q_code110 := f_all2_ok (by decide +kernel)
def q_code111 : List (List (Option Instr)) := [[some (.aload_n 0), some (.iload_n 1), some (.invokevirtual 83), none, none, some (.ifCond .eq 12), none, none, some (.iload_n 2), some (.ifCond .lt 8), none, none, some (.iload_n 2), some (.iconst 2), some (.if_icmp .le 5), none],
  [none, some (.iconst (-1)), some (.ireturn), some (.aload_n 0), some (.getfield 42), none, none, some (.iload_n 1), some (.invokevirtual 106), none, none, some (.aload_n 0), some (.getfield 42), none, none, some (.invokevirtual 164)],
  [none, none, some (.iload_n 2), some (.ifCond .ne 13), none, none, some (.aload_n 0), some (.getfield 42), none, none, some (.getfield 167), none, none, some (.goto 32), none, none],
  [some (.iload_n 2), some (.iconst 1), some (.if_icmp .ne 13), none, none, some (.aload_n 0), some (.getfield 42), none, none, some (.getfield 170), none, none, some (.goto 17), none, none, some (.aload_n 0)],
  [some (.getfield 42), none, none, some (.aload_n 0), some (.getfield 42), none, none, some (.getfield 170), none, none, some (.invokevirtual 173), none, none, some (.ireturn)]]
theorem q_code111_ok : q_dec prog_1_method_9_code q_code111 := f_all2_ok (by decide +kernel)
def q_code112 : List (List (Option Instr)) := [[some (.aload_n 0), some (.iload_n 1), some (.invokevirtual 83), none, none, some (.ifCond .eq 8), none, none, some (.iload_n 2), some (.iconst (-1)), some (.if_icmp .ge 5), none, none, some (.iconst (-1)), some (.ireturn), some (.aload_n 0)],
  [some (.getfield 42), none, none, some (.iload_n 1), some (.invokevirtual 106), none, none, some (.aload_n 0), some (.getfield 42), none, none, some (.invokevirtual 164), none, none, some (.aload_n 0), some (.getfield 42)],
  [none, none, some (.iload_n 2), some (.invokevirtual 176), none, none, some (.ireturn)]]
theorem q_code112_ok : q_dec prog_1_method_10_code q_code112 := f_all2_ok (by decide +kernel)
def q_code113 : List (List (Option Instr)) := [[some (.aload_n 0), some (.iload_n 1), some (.invokevirtual 83), none, none, some (.ifCond .eq 22), none, none, some (.iload_n 2), some (.ifCond .lt 18), none, none, some (.iload_n 2), some (.bipush 100), none, some (.if_icmp .ge 12)],
  [none, none, some (.iload_n 3), some (.ifCond .lt 8), none, none, some (.iload_n 3), some (.iconst 2), some (.if_icmp .le 5), none, none, some (.iconst (-1)), some (.ireturn), some (.aload_n 0), some (.iload_n 1), some (.iconst 1)],
  [some (.invokevirtual 118), none, none, some (.ifCond .ne 6), none, none, some (.bipush (-3)), none, some (.ireturn), some (.aload_n 0), some (.getfield 42), none, none, some (.iload_n 1), some (.invokevirtual 106), none],
  [none, some (.aload_n 0), some (.getfield 42), none, none, some (.iload_n 2), some (.invokevirtual 179), none, none, some (.iload_n 3), some (.ifCond .ne 13), none, none, some (.aload_n 0), some (.getfield 42), none],
  [none, some (.invokevirtual 182), none, none, some (.goto 26), none, none, some (.iload_n 3), some (.iconst 1), some (.if_icmp .ne 13), none, none, some (.aload_n 0), some (.getfield 42), none, none],
  [some (.invokevirtual 185), none, none, some (.goto 11), none, none, some (.aload_n 0), some (.getfield 42), none, none, some (.iload_n 2), some (.invokevirtual 188), none, none, some (.ireturn)]]
theorem q_code113_ok : q_dec prog_1_method_11_code q_code113 := f_all2_ok (by decide +kernel)
def q_code114 : List (List (Option Instr)) := [[some (.aload_n 0), some (.iload_n 1), some (.invokevirtual 83), none, none, some (.ifCond .eq 41), none, none, some (.iload_n 2), some (.ifCond .lt 37), none, none, some (.iload_n 2), some (.iconst 1), some (.if_icmp .gt 32), none],
  [none, some (.iload_n 3), some (.iload_n 2), some (.ifCond .ne 7), none, none, some (.iconst 0), some (.goto 4), none, none, some (.iconst 1), some (.if_icmp .lt 19), none, none, some (.iload_n 3), some (.iload_n 2)],
  [some (.ifCond .ne 9), none, none, some (.sipush 500), none, none, some (.goto 5), none, none, some (.bipush 40), none, some (.if_icmp .le 5), none, none, some (.iconst (-1)), some (.ireturn)],
  [some (.aload_n 0), some (.iload_n 1), some (.invokevirtual 191), none, none, some (.astore 4), none, some (.aload 4), none, some (.ifnonnull 6), none, none, some (.bipush (-3)), none, some (.ireturn), some (.iload_n 2)],
  [some (.ifCond .ne 11), none, none, some (.aload 4), none, some (.getfield 195), none, none, some (.goto 8), none, none, some (.aload 4), none, some (.getfield 198), none, none],
  [some (.istore 5), none, some (.aload 4), none, some (.iload_n 2), some (.ifCond .ne 7), none, none, some (.iload_n 3), some (.goto 8), none, none, some (.aload 4), none, some (.getfield 195), none],
  [none, some (.iload_n 2), some (.ifCond .ne 11), none, none, some (.aload 4), none, some (.getfield 198), none, none, some (.goto 4), none, none, some (.iload_n 3), some (.invokevirtual 201), none],
  [none, some (.iload 5), none, some (.ireturn)]]
theorem q_code114_ok : q_dec prog_1_method_12_code q_code114 := f_all2_ok (by decide +kernel)
def q_code115 : List (List (Option Instr)) := [[some (.aload_n 0), some (.iload_n 1), some (.invokevirtual 83), none, none, some (.ifCond .eq 14), none, none, some (.iload_n 2), some (.iconst 1), some (.if_icmp .lt 9), none, none, some (.iload_n 2), some (.bipush 100), none],
  [some (.if_icmp .le 5), none, none, some (.iconst (-1)), some (.ireturn), some (.aload_n 0), some (.iload_n 1), some (.invokevirtual 191), none, none, some (.astore_n 3), some (.aload_n 3), some (.ifnonnull 6), none, none, some (.bipush (-3))],
  [none, some (.ireturn), some (.aload_n 0), some (.getfield 42), none, none, some (.iload_n 1), some (.invokevirtual 106), none, none, some (.aload_n 0), some (.getfield 42), none, none, some (.invokevirtual 164), none],
  [none, some (.iconst 0), some (.istore 4), none, some (.iload 4), none, some (.iload_n 2), some (.if_icmp .ge 24), none, none, some (.aload_n 3), some (.aload_n 0), some (.getfield 42), none, none, some (.aload_n 3)],
  [some (.getfield 195), none, none, some (.invokevirtual 205), none, none, some (.invokevirtual 208), none, none, some (.iinc 4 1), none, none, some (.goto (-24)), none, none, some (.aload_n 3)],
  [some (.getfield 195), none, none, some (.ireturn)]]
theorem q_code115_ok : q_dec prog_1_method_13_code q_code115 := f_all2_ok (by decide +kernel)
def q_code116 : List (List (Option Instr)) := [[some (.aload_n 0), some (.iload_n 1), some (.invokevirtual 83), none, none, some (.ifCond .eq 25), none, none, some (.iload_n 2), some (.ifCond .lt 21), none, none, some (.iload_n 2), some (.sipush 500), none, none],
  [some (.if_icmp .gt 14), none, none, some (.iload_n 3), some (.ifCond .lt 10), none, none, some (.iload_n 3), some (.sipush 200), none, none, some (.if_icmp .le 5), none, none, some (.iconst (-1)), some (.ireturn)],
  [some (.aload_n 0), some (.iload_n 1), some (.invokevirtual 191), none, none, some (.astore 4), none, some (.aload 4), none, some (.ifnonnull 6), none, none, some (.bipush (-3)), none, some (.ireturn), some (.aload_n 0)],
  [some (.getfield 42), none, none, some (.iload_n 1), some (.invokevirtual 106), none, none, some (.aload_n 0), some (.getfield 42), none, none, some (.invokevirtual 164), none, none, some (.aload_n 0), some (.getfield 49)],
  [none, none, some (.iload_n 2), some (.aload 4), none, some (.getfield 198), none, none, some (.invokevirtual 201), none, none, some (.iconst 0), some (.istore 5), none, some (.iload 5), none],
  [some (.iload_n 3), some (.if_icmp .gt 61), none, none, some (.aload_n 0), some (.getfield 49), none, none, some (.getfield 195), none, none, some (.aload_n 0), some (.getfield 42), none, none, some (.getfield 170)],
  [none, none, some (.isub), some (.invokestatic 211), none, none, some (.aload_n 0), some (.getfield 49), none, none, some (.getfield 198), none, none, some (.if_icmp .gt 6), none, none],
  [some (.iload 5), none, some (.ireturn), some (.aload_n 0), some (.getfield 49), none, none, some (.aload_n 0), some (.getfield 42), none, none, some (.aload_n 0), some (.getfield 49), none, none, some (.getfield 195)],
  [none, none, some (.invokevirtual 205), none, none, some (.invokevirtual 208), none, none, some (.iinc 5 1), none, none, some (.goto (-61)), none, none, some (.bipush (-4)), none],
  [some (.ireturn)]]
theorem q_code116_ok : q_dec prog_1_method_14_code q_code116 := f_all2_ok (by decide +kernel)
