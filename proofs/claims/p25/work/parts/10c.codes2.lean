def q_code223 : List (List (Option Instr)) := [[some (.bipush 28), none, some (.iload_n 1), some (.imul), some (.bipush 20), none, some (.iadd), some (.istore_n 3), some (.aload_n 0), some (.getfield 9), none, none, some (.iload_n 3), some (.iaload), some (.ifCond .ne 6), none],
  [none, some (.bipush 100), none, some (.ireturn), some (.iconst 0), some (.istore 4), none, some (.iconst 0), some (.istore 5), none, some (.aload_n 0), some (.getfield 9), none, none, some (.iload_n 3), some (.iconst 1)],
  [some (.iadd), some (.iaload), some (.istore 6), none, some (.iload 6), none, some (.aload_n 0), some (.getfield 9), none, none, some (.iload_n 3), some (.iconst 3), some (.iadd), some (.iaload), some (.if_icmp .gt 63), none],
  [none, some (.aload_n 0), some (.getfield 9), none, none, some (.iload_n 3), some (.iconst 2), some (.iadd), some (.iaload), some (.istore 7), none, some (.iload 7), none, some (.aload_n 0), some (.getfield 9), none],
  [none, some (.iload_n 3), some (.iconst 4), some (.iadd), some (.iaload), some (.if_icmp .gt 34), none, none, some (.iinc 4 1), none, none, some (.iload 5), none, some (.aload_n 0), some (.iload 6), none],
  [some (.iload 7), none, some (.iload_n 2), some (.invokevirtual 280), none, none, some (.ifCond .eq 7), none, none, some (.iconst 0), some (.goto 4), none, none, some (.iconst 1), some (.iadd), some (.istore 5)],
  [none, some (.iinc 7 1), none, none, some (.goto (-41)), none, none, some (.iinc 6 1), none, none, some (.goto (-70)), none, none, some (.bipush 100), none, some (.iload 5)],
  [none, some (.imul), some (.iload 4), none, some (.idiv), some (.ireturn)]]
theorem q_code223_ok : q_dec prog_14_method_58_code q_code223 := f_all2_ok (by decide +kernel)
def q_code224 : List (List (Option Instr)) := [[some (.aload_n 0), some (.iload_n 1), some (.invokevirtual 175), none, none, some (.ifCond .eq 15), none, none, some (.iload_n 2), some (.i2l), some (.lconst 0), some (.ldc2_w 276), none, none, some (.invokestatic 83), none],
  [none, some (.ifCond .ne 5), none, none, some (.iconst (-1)), some (.ireturn), some (.aload_n 0), some (.iload_n 1), some (.invokevirtual 99), none, none, some (.ifCond .ne 12), none, none, some (.aload_n 0), some (.iload_n 1)],
  [some (.iload_n 2), some (.invokevirtual 186), none, none, some (.goto 5), none, none, some (.bipush (-3)), none, some (.ireturn)]]
theorem q_code224_ok : q_dec prog_14_method_59_code q_code224 := f_all2_ok (by decide +kernel)
def q_code225 : List (List (Option Instr)) := [[some (.aload_n 0), some (.iload_n 1), some (.iconst (-1)), some (.invokevirtual 166), none, none, some (.istore_n 2), some (.iload_n 2), some (.ifCond .eq 5), none, none, some (.iload_n 2), some (.ireturn), some (.aload_n 0), some (.getfield 9), none],
  [none, some (.sipush 1200), none, none, some (.aload_n 0), some (.getfield 22), none, none, some (.iload_n 1), some (.iaload), some (.iastore), some (.aload_n 0), some (.getfield 9), none, none, some (.sipush 1201)],
  [none, none, some (.aload_n 0), some (.getfield 19), none, none, some (.iload_n 1), some (.iaload), some (.iastore), some (.iconst 0), some (.istore_n 3), some (.iload_n 3), some (.bipush 120), none, some (.if_icmp .ge 30), none],
  [none, some (.aload_n 0), some (.getfield 9), none, none, some (.sipush 1202), none, none, some (.iload_n 3), some (.iadd), some (.aload_n 0), some (.getfield 25), none, none, some (.bipush 120), none],
  [some (.iload_n 1), some (.imul), some (.iload_n 3), some (.iadd), some (.iaload), some (.iastore), some (.iinc 3 1), none, none, some (.goto (-30)), none, none, some (.aload_n 0), some (.getfield 22), none, none],
  [some (.iload_n 1), some (.iaload), some (.ireturn)]]
theorem q_code225_ok : q_dec prog_14_method_60_code q_code225 := f_all2_ok (by decide +kernel)
def q_code226 : List (List (Option Instr)) := [[some (.aload_n 0), some (.getfield 9), none, none, some (.sipush 1202), none, none, some (.iload_n 1), some (.iadd), some (.iaload), some (.aload_n 0), some (.getfield 9), none, none, some (.sipush 1201), none],
  [none, some (.iaload), some (.ifCond .ne 8), none, none, some (.bipush (-128)), none, some (.goto 24), none, none, some (.aload_n 0), some (.getfield 9), none, none, some (.sipush 1201), none],
  [none, some (.iaload), some (.iconst 1), some (.if_icmp .ne 9), none, none, some (.sipush (-32768)), none, none, some (.goto 6), none, none, some (.ldc_w 283), none, none, some (.if_icmp .ne 7)],
  [none, none, some (.iconst 1), some (.goto 4), none, none, some (.iconst 0), some (.ireturn)]]
theorem q_code226_ok : q_dec prog_14_method_61_code q_code226 := f_all2_ok (by decide +kernel)
def q_code227 : List (List (Option Instr)) := [[some (.iload_n 1), some (.aload_n 0), some (.getfield 9), none, none, some (.sipush 1200), none, none, some (.iaload), some (.if_icmp .lt 5), none, none, some (.iconst 0), some (.ireturn), some (.iload_n 1), some (.istore_n 2)],
  [some (.iload_n 1), some (.istore_n 3), some (.iload_n 2), some (.ifCond .lt 17), none, none, some (.aload_n 0), some (.iload_n 2), some (.invokevirtual 284), none, none, some (.ifCond .eq 9), none, none, some (.iinc 2 (-1)), none],
  [none, some (.goto (-15)), none, none, some (.iload_n 3), some (.aload_n 0), some (.getfield 9), none, none, some (.sipush 1200), none, none, some (.iaload), some (.if_icmp .ge 17), none, none],
  [some (.aload_n 0), some (.iload_n 3), some (.invokevirtual 284), none, none, some (.ifCond .eq 9), none, none, some (.iinc 3 1), none, none, some (.goto (-23)), none, none, some (.iload_n 2), some (.ifCond .ge 17)],
  [none, none, some (.iload_n 3), some (.aload_n 0), some (.getfield 9), none, none, some (.sipush 1200), none, none, some (.iaload), some (.if_icmp .ne 5), none, none, some (.iconst 0), some (.ireturn)],
  [some (.iload_n 2), some (.ifCond .ge 17), none, none, some (.aload_n 0), some (.getfield 9), none, none, some (.sipush 1202), none, none, some (.iload_n 3), some (.iadd), some (.iaload), some (.i2l), some (.goto 14)],
  [none, none, some (.aload_n 0), some (.getfield 9), none, none, some (.sipush 1202), none, none, some (.iload_n 2), some (.iadd), some (.iaload), some (.i2l), some (.lstore 4), none, some (.iload_n 3)],
  [some (.aload_n 0), some (.getfield 9), none, none, some (.sipush 1200), none, none, some (.iaload), some (.if_icmp .ne 8), none, none, some (.lload 4), none, some (.goto 14), none, none],
  [some (.aload_n 0), some (.getfield 9), none, none, some (.sipush 1202), none, none, some (.iload_n 3), some (.iadd), some (.iaload), some (.i2l), some (.lstore 6), none, some (.lload 4), none, some (.lload 6)],
  [none, some (.ladd), some (.ldc2_w 242), none, none, some (.ldiv), some (.lstore 8), none, some (.lload 8), none, some (.lconst 0), some (.lcmp), some (.ifCond .ge 7), none, none, some (.iconst 0)],
  [some (.goto 20), none, none, some (.lload 8), none, some (.ldc2_w 204), none, none, some (.lcmp), some (.ifCond .le 8), none, none, some (.bipush 100), none, some (.goto 6), none],
  [none, some (.lload 8), none, some (.l2i), some (.ireturn)]]
theorem q_code227_ok : q_dec prog_14_method_62_code q_code227 := f_all2_ok (by decide +kernel)
def q_code228 : List (List (Option Instr)) := [[some (.iload_n 1), some (.i2l), some (.lconst 0), some (.ldc2_w 272), none, none, some (.invokestatic 83), none, none, some (.ifCond .eq 28), none, none, some (.iload_n 2), some (.i2l), some (.lconst 0), some (.ldc2_w 276)],
  [none, none, some (.invokestatic 83), none, none, some (.ifCond .eq 16), none, none, some (.aload_n 0), some (.bipush 12), none, some (.iload_n 1), some (.imul), some (.iload_n 2), some (.iadd), some (.invokevirtual 287)],
  [none, none, some (.goto 4), none, none, some (.iconst (-1)), some (.ireturn)]]
theorem q_code228_ok : q_dec prog_14_method_63_code q_code228 := f_all2_ok (by decide +kernel)
def q_code229 : List (List (Option Instr)) := [[some (.aload_n 0), some (.iload_n 3), some (.putfield 46), none, none, some (.aload_n 0), some (.aload_n 0), some (.bipush 12), none, some (.iload_n 2), some (.imul), some (.iload_n 3), some (.iadd), some (.invokevirtual 287), none, none],
  [some (.putfield 189), none, none, some (.aload_n 0), some (.iload_n 1), some (.invokevirtual 290), none, none, some (.istore 4), none, some (.aload_n 0), some (.iconst (-1)), some (.putfield 46), none, none, some (.iload 4)],
  [none, some (.ireturn)]]
theorem q_code229_ok : q_dec prog_14_method_64_code q_code229 := f_all2_ok (by decide +kernel)
def q_code230 : List (List (Option Instr)) := [[some (.aload_n 0), some (.iload_n 1), some (.invokevirtual 175), none, none, some (.ifCond .eq 37), none, none, some (.iload_n 2), some (.i2l), some (.lconst 0), some (.ldc2_w 272), none, none, some (.invokestatic 83), none],
  [none, some (.ifCond .eq 25), none, none, some (.iload_n 3), some (.i2l), some (.lconst 0), some (.ldc2_w 276), none, none, some (.invokestatic 83), none, none, some (.ifCond .eq 13), none, none],
  [some (.aload_n 0), some (.iload_n 1), some (.iload_n 2), some (.iload_n 3), some (.invokevirtual 293), none, none, some (.goto 4), none, none, some (.iconst (-1)), some (.ireturn)]]
theorem q_code230_ok : q_dec prog_14_method_65_code q_code230 := f_all2_ok (by decide +kernel)
def q_code231 : List (List (Option Instr)) := [[some (.aload_n 0), some (.iload_n 1), some (.invokevirtual 175), none, none, some (.ifCond .eq 15), none, none, some (.iload_n 2), some (.i2l), some (.lconst 0), some (.ldc2_w 272), none, none, some (.invokestatic 83), none],
  [none, some (.ifCond .ne 5), none, none, some (.iconst (-1)), some (.ireturn), some (.iconst 0), some (.istore_n 3), some (.iconst 0), some (.istore 4), none, some (.iload 4), none, some (.bipush 12), none, some (.if_icmp .ge 20)],
  [none, none, some (.iload_n 3), some (.aload_n 0), some (.iload_n 1), some (.iload_n 2), some (.iload 4), none, some (.invokevirtual 293), none, none, some (.iadd), some (.istore_n 3), some (.iinc 4 1), none, none],
  [some (.goto (-21)), none, none, some (.iload_n 3), some (.ireturn)]]
theorem q_code231_ok : q_dec prog_14_method_66_code q_code231 := f_all2_ok (by decide +kernel)
def q_code232 : List (List (Option Instr)) := [[some (.iload_n 1), some (.invokestatic 163), none, none, some (.ifCond .eq 17), none, none, some (.iload_n 2), some (.ifCond .lt 13), none, none, some (.iload_n 2), some (.sipush 10000), none, none, some (.idiv)],
  [some (.bipush 20), none, some (.if_icmp .le 5), none, none, some (.iconst (-1)), some (.ireturn), some (.aload_n 0), some (.iload_n 1), some (.iconst 1), some (.invokevirtual 166), none, none, some (.istore_n 3), some (.iload_n 3), some (.ifCond .eq 5)],
  [none, none, some (.iload_n 3), some (.ireturn), some (.aload_n 0), some (.getfield 22), none, none, some (.iload_n 1), some (.iaload), some (.i2l), some (.lconst 1), some (.ldc2_w 278), none, none, some (.invokestatic 83)],
  [none, none, some (.ifCond .ne 6), none, none, some (.bipush (-13)), none, some (.ireturn), some (.iconst 0), some (.istore 4), none, some (.iload 4), none, some (.aload_n 0), some (.getfield 22), none],
  [none, some (.iload_n 1), some (.iaload), some (.if_icmp .ge 35), none, none, some (.aload_n 0), some (.getfield 25), none, none, some (.bipush 120), none, some (.iload_n 1), some (.imul), some (.iload 4), none],
  [some (.iadd), some (.iaload), some (.i2l), some (.lconst 0), some (.ldc2_w 232), none, none, some (.invokestatic 83), none, none, some (.ifCond .ne 6), none, none, some (.bipush (-13)), none, some (.ireturn)],
  [some (.iinc 4 1), none, none, some (.goto (-40)), none, none, some (.iconst 0), some (.ireturn)]]
theorem q_code232_ok : q_dec prog_14_method_67_code q_code232 := f_all2_ok (by decide +kernel)
def q_code233 : List (List (Option Instr)) := [[some (.aload_n 0), some (.getfield 25), none, none, some (.aload_n 0), some (.getfield 296), none, none, some (.iload_n 1), some (.iadd), some (.iaload), some (.bipush 100), none, some (.bipush 50), none, some (.aload_n 0)],
  [some (.getfield 299), none, none, some (.iload_n 2), some (.imul), some (.invokestatic 151), none, none, some (.isub), some (.imul), some (.bipush 100), none, some (.idiv), some (.ireturn)]]
theorem q_code233_ok : q_dec prog_14_method_68_code q_code233 := f_all2_ok (by decide +kernel)
def q_code234 : List (List (Option Instr)) := [[some (.aload_n 0), some (.iload_n 1), some (.iload_n 2), some (.invokevirtual 302), none, none, some (.aload_n 0), some (.getfield 62), none, none, some (.bipush 32), none, some (.iload_n 1), some (.iconst 1), some (.iadd), some (.imul)],
  [some (.iload_n 2), some (.iadd), some (.iconst 1), some (.iadd), some (.iaload), some (.iadd), some (.istore_n 3), some (.aload_n 0), some (.iload_n 1), some (.iconst 0), some (.invokevirtual 302), none, none, some (.aload_n 0), some (.getfield 305), none],
  [none, some (.isub), some (.aload_n 0), some (.getfield 62), none, none, some (.bipush 32), none, some (.iload_n 1), some (.iconst 1), some (.iadd), some (.imul), some (.iconst 1), some (.iadd), some (.iaload), some (.iadd)],
  [some (.istore 4), none, some (.iload 4), none, some (.iload_n 3), some (.if_icmp .gt 42), none, none, some (.iload 4), none, some (.iload_n 3), some (.if_icmp .ne 40), none, none, some (.aload_n 0), some (.getfield 65)],
  [none, none, some (.bipush 32), none, some (.iload_n 1), some (.iconst 1), some (.iadd), some (.imul), some (.iconst 1), some (.iadd), some (.iaload), some (.iconst 1), some (.iadd), some (.aload_n 0), some (.getfield 65), none],
  [none, some (.bipush 32), none, some (.iload_n 1), some (.iconst 1), some (.iadd), some (.imul), some (.iload_n 2), some (.iadd), some (.iconst 1), some (.iadd), some (.iaload), some (.if_icmp .ge 7), none, none, some (.iconst 1)],
  [some (.goto 4), none, none, some (.iconst 0), some (.ireturn)]]
theorem q_code234_ok : q_dec prog_14_method_69_code q_code234 := f_all2_ok (by decide +kernel)
def q_code235 : List (List (Option Instr)) := [[some (.aload_n 0), some (.iload_n 2), some (.sipush 10000), none, none, some (.idiv), some (.putfield 299), none, none, some (.aload_n 0), some (.iload_n 2), some (.sipush 10000), none, none, some (.irem), some (.putfield 305)],
  [none, none, some (.aload_n 0), some (.bipush 120), none, some (.iload_n 1), some (.imul), some (.putfield 296), none, none, some (.iconst 0), some (.istore_n 3), some (.iload_n 3), some (.bipush 32), none, some (.if_icmp .ge 43)],
  [none, none, some (.aload_n 0), some (.getfield 62), none, none, some (.bipush 32), none, some (.aload_n 0), some (.getfield 22), none, none, some (.iload_n 1), some (.iaload), some (.imul), some (.iload_n 3)],
  [some (.iadd), some (.iconst 0), some (.iastore), some (.aload_n 0), some (.getfield 65), none, none, some (.bipush 32), none, some (.aload_n 0), some (.getfield 22), none, none, some (.iload_n 1), some (.iaload), some (.imul)],
  [some (.iload_n 3), some (.iadd), some (.iconst 0), some (.iastore), some (.iinc 3 1), none, none, some (.goto (-43)), none, none, some (.aload_n 0), some (.getfield 22), none, none, some (.iload_n 1), some (.iaload)],
  [some (.iconst 1), some (.isub), some (.istore_n 3), some (.iload_n 3), some (.ifCond .lt 135), none, none, some (.iconst 0), some (.istore 4), none, some (.iload 4), none, some (.iload_n 3), some (.if_icmp .gt 120), none, none],
  [some (.aload_n 0), some (.iload_n 3), some (.iload 4), none, some (.invokevirtual 308), none, none, some (.istore 5), none, some (.bipush 32), none, some (.iload_n 3), some (.iconst 1), some (.iadd), some (.imul), some (.iload 5)],
  [none, some (.ifCond .eq 7), none, none, some (.iconst 1), some (.goto 7), none, none, some (.iload 4), none, some (.iconst 1), some (.iadd), some (.iadd), some (.istore 6), none, some (.aload_n 0)],
  [some (.getfield 62), none, none, some (.bipush 32), none, some (.iload_n 3), some (.imul), some (.iload 4), none, some (.iadd), some (.aload_n 0), some (.iload_n 3), some (.iload 5), none, some (.ifCond .eq 7), none],
  [none, some (.iconst 0), some (.goto 5), none, none, some (.iload 4), none, some (.invokevirtual 302), none, none, some (.iload 5), none, some (.ifCond .eq 10), none, none, some (.aload_n 0)],
  [some (.getfield 305), none, none, some (.goto 4), none, none, some (.iconst 0), some (.isub), some (.aload_n 0), some (.getfield 62), none, none, some (.iload 6), none, some (.iaload), some (.iadd)],
  [some (.iastore), some (.aload_n 0), some (.getfield 65), none, none, some (.bipush 32), none, some (.iload_n 3), some (.imul), some (.iload 4), none, some (.iadd), some (.aload_n 0), some (.getfield 65), none, none],
  [some (.iload 6), none, some (.iaload), some (.iload 5), none, some (.ifCond .eq 7), none, none, some (.iconst 1), some (.goto 4), none, none, some (.iconst 0), some (.iadd), some (.iastore), some (.iinc 4 1)],
  [none, none, some (.goto (-120)), none, none, some (.iinc 3 (-1)), none, none, some (.goto (-133)), none, none, some (.return_)]]
theorem q_code235_ok : q_dec prog_14_method_70_code q_code235 := f_all2_ok (by decide +kernel)
def q_code236 : List (List (Option Instr)) := [[some (.aload_n 0), some (.iload_n 1), some (.iload_n 2), some (.invokevirtual 311), none, none, some (.istore_n 3), some (.iload_n 3), some (.ifCond .eq 5), none, none, some (.iload_n 3), some (.ireturn), some (.aload_n 0), some (.iload_n 1), some (.iload_n 2)],
  [some (.invokevirtual 314), none, none, some (.aload_n 0), some (.getfield 62), none, none, some (.iconst 0), some (.iaload), some (.ireturn)]]
theorem q_code236_ok : q_dec prog_14_method_71_code q_code236 := f_all2_ok (by decide +kernel)
def q_code237 : List (List (Option Instr)) := [[some (.iload_n 3), some (.iconst (-1)), some (.if_icmp .ge 7), none, none, some (.iconst (-1)), some (.goto 9), none, none, some (.aload_n 0), some (.iload_n 1), some (.iload_n 2), some (.invokevirtual 311), none, none, some (.istore 4)],
  [none, some (.iload 4), none, some (.ifCond .eq 6), none, none, some (.iload 4), none, some (.ireturn), some (.aload_n 0), some (.iload_n 1), some (.iload_n 2), some (.invokevirtual 314), none, none, some (.iload_n 3)],
  [some (.iconst (-1)), some (.if_icmp .ne 10), none, none, some (.aload_n 0), some (.getfield 65), none, none, some (.iconst 0), some (.iaload), some (.ireturn), some (.iconst 0), some (.istore 5), none, some (.iconst 0), some (.istore 6)],
  [none, some (.iconst 0), some (.istore 7), none, some (.iload 7), none, some (.aload_n 0), some (.getfield 22), none, none, some (.iload_n 1), some (.iaload), some (.if_icmp .ge 63), none, none, some (.aload_n 0)],
  [some (.iload 7), none, some (.iload 6), none, some (.invokevirtual 308), none, none, some (.istore 8), none, some (.iload 8), none, some (.ifCond .eq 12), none, none, some (.iload 5), none],
  [some (.iload_n 3), some (.if_icmp .ne 6), none, none, some (.iload 7), none, some (.ireturn), some (.iload 5), none, some (.iload 8), none, some (.ifCond .eq 7), none, none, some (.iconst 1), some (.goto 4)],
  [none, none, some (.iconst 0), some (.iadd), some (.istore 5), none, some (.iload 8), none, some (.ifCond .eq 7), none, none, some (.iconst 1), some (.goto 7), none, none, some (.iload 6)],
  [none, some (.iconst 1), some (.iadd), some (.istore 6), none, some (.iinc 7 1), none, none, some (.goto (-68)), none, none, some (.bipush (-4)), none, some (.ireturn)]]
theorem q_code237_ok : q_dec prog_14_method_72_code q_code237 := f_all2_ok (by decide +kernel)
def q_code238 : List (List (Option Instr)) := [[some (.aload_n 0), some (.iload_n 1), some (.iconst 0), some (.invokevirtual 166), none, none, some (.istore_n 2), some (.iload_n 2), some (.ifCond .eq 5), none, none, some (.iload_n 2), some (.ireturn), some (.aload_n 0), some (.getfield 22), none],
  [none, some (.iload_n 1), some (.iaload), some (.i2l), some (.ldc2_w 242), none, none, some (.ldc2_w 318), none, none, some (.invokestatic 83), none, none, some (.ifCond .ne 6), none, none],
  [some (.bipush (-13)), none, some (.ireturn), some (.iconst 0), some (.istore_n 3), some (.iload_n 3), some (.aload_n 0), some (.getfield 22), none, none, some (.iload_n 1), some (.iaload), some (.if_icmp .ge 78), none, none, some (.aload_n 0)],
  [some (.getfield 25), none, none, some (.bipush 120), none, some (.iload_n 1), some (.imul), some (.iload_n 3), some (.iadd), some (.iaload), some (.istore 4), none, some (.aload_n 0), some (.iload 4), none, some (.invokevirtual 175)],
  [none, none, some (.ifCond .eq 12), none, none, some (.aload_n 0), some (.iload 4), none, some (.invokevirtual 99), none, none, some (.ifCond .eq 6), none, none, some (.bipush (-13)), none],
  [some (.ireturn), some (.iconst 0), some (.istore 5), none, some (.iload 5), none, some (.iload_n 3), some (.if_icmp .ge 29), none, none, some (.aload_n 0), some (.getfield 25), none, none, some (.bipush 120), none],
  [some (.iload_n 1), some (.imul), some (.iload 5), none, some (.iadd), some (.iaload), some (.iload 4), none, some (.if_icmp .ne 6), none, none, some (.bipush (-13)), none, some (.ireturn), some (.iinc 5 1), none],
  [none, some (.goto (-29)), none, none, some (.iinc 3 1), none, none, some (.goto (-82)), none, none, some (.iconst 0), some (.ireturn)]]
theorem q_code238_ok : q_dec prog_14_method_73_code q_code238 := f_all2_ok (by decide +kernel)
def q_code239 : List (List (Option Instr)) := [[some (.iconst 0), some (.istore_n 3), some (.iload_n 3), some (.bipush 100), none, some (.if_icmp .ge 66), none, none, some (.aload_n 0), some (.getfield 59), none, none, some (.iload_n 3), some (.iconst 0), some (.iastore), some (.iconst 0)],
  [some (.istore 4), none, some (.iload 4), none, some (.iload_n 2), some (.if_icmp .ge 44), none, none, some (.aload_n 0), some (.getfield 59), none, none, some (.iload_n 3), some (.dup2), some (.iaload), some (.iload_n 1)],
  [some (.iload 4), none, some (.ishr), some (.iconst 1), some (.iand), some (.iconst 1), some (.if_icmp .ne 18), none, none, some (.aload_n 0), some (.getfield 68), none, none, some (.bipush 100), none, some (.iload 4)],
  [none, some (.imul), some (.iload_n 3), some (.iadd), some (.iaload), some (.goto 4), none, none, some (.iconst 0), some (.iadd), some (.iastore), some (.iinc 4 1), none, none, some (.goto (-44)), none],
  [none, some (.iinc 3 1), none, none, some (.goto (-66)), none, none, some (.aload_n 0), some (.invokevirtual 229), none, none, some (.return_)]]
theorem q_code239_ok : q_dec prog_14_method_74_code q_code239 := f_all2_ok (by decide +kernel)
def q_code240 : List (List (Option Instr)) := [[some (.iload_n 2), some (.i2l), some (.lconst 0), some (.lconst 1), some (.invokestatic 83), none, none, some (.ifCond .ne 5), none, none, some (.iconst (-1)), some (.ireturn), some (.aload_n 0), some (.iload_n 1), some (.invokevirtual 320), none],
  [none, some (.istore_n 3), some (.iload_n 3), some (.ifCond .eq 5), none, none, some (.iload_n 3), some (.ireturn), some (.aload_n 0), some (.getfield 22), none, none, some (.iload_n 1), some (.iaload), some (.istore 4), none],
  [some (.iconst 0), some (.istore 5), none, some (.iload 5), none, some (.iload 4), none, some (.if_icmp .ge 56), none, none, some (.iconst 0), some (.istore 6), none, some (.iload 6), none, some (.bipush 100)],
  [none, some (.if_icmp .ge 40), none, none, some (.aload_n 0), some (.getfield 68), none, none, some (.bipush 100), none, some (.iload 5), none, some (.imul), some (.iload 6), none, some (.iadd)],
  [some (.aload_n 0), some (.aload_n 0), some (.getfield 25), none, none, some (.bipush 120), none, some (.iload_n 1), some (.imul), some (.iload 5), none, some (.iadd), some (.iaload), some (.iload 6), none, some (.invokevirtual 223)],
  [none, none, some (.iastore), some (.iinc 6 1), none, none, some (.goto (-41)), none, none, some (.iinc 5 1), none, none, some (.goto (-57)), none, none, some (.iconst 0)],
  [some (.istore 5), none, some (.iconst (-1)), some (.istore 6), none, some (.iconst 2), some (.istore 7), none, some (.iload 7), none, some (.iconst 1), some (.iload 4), none, some (.ishl), some (.if_icmp .ge 99), none],
  [none, some (.iconst 0), some (.istore 8), none, some (.iload 8), none, some (.sipush 1000), none, none, some (.if_icmp .ge 17), none, none, some (.aload_n 0), some (.getfield 56), none, none],
  [some (.iload 8), none, some (.iconst 0), some (.iastore), some (.iinc 8 1), none, none, some (.goto (-19)), none, none, some (.aload_n 0), some (.iload 7), none, some (.iload 4), none, some (.invokevirtual 323)],
  [none, none, some (.aload_n 0), some (.iconst 1), some (.iload 4), none, some (.ishl), some (.iconst 1), some (.isub), some (.iload 7), none, some (.iconst (-1)), some (.ixor), some (.iand), some (.iload 4), none],
  [some (.invokevirtual 323), none, none, some (.aload_n 0), some (.invokevirtual 239), none, none, some (.istore 8), none, some (.iload 8), none, some (.aload_n 0), some (.getfield 56), none, none, some (.iload 8)],
  [none, some (.iaload), some (.imul), some (.iload 6), none, some (.if_icmp .gt 6), none, none, some (.goto 19), none, none, some (.iload 8), none, some (.aload_n 0), some (.getfield 56), none],
  [none, some (.iload 8), none, some (.iaload), some (.imul), some (.istore 6), none, some (.iload 7), none, some (.istore 5), none, some (.iinc 7 2), none, none, some (.goto (-102)), none],
  [none, some (.iload_n 2), some (.ifCond .ne 8), none, none, some (.iload 6), none, some (.goto 5), none, none, some (.iload 5), none, some (.ireturn)]]
theorem q_code240_ok : q_dec prog_14_method_75_code q_code240 := f_all2_ok (by decide +kernel)
def q_code241 : List (List (Option Instr)) := [[some (.iload_n 1), some (.i2l), some (.lconst 0), some (.ldc2_w 276), none, none, some (.invokestatic 83), none, none, some (.ifCond .eq 16), none, none, some (.iload_n 2), some (.ifCond .lt 12), none, none],
  [some (.iload_n 2), some (.bipush 100), none, some (.idiv), some (.bipush 20), none, some (.if_icmp .le 5), none, none, some (.iconst (-1)), some (.ireturn), some (.bipush 100), none, some (.aload_n 0), some (.getfield 9), none],
  [none, some (.sipush 1174), none, none, some (.iconst 2), some (.iload_n 1), some (.imul), some (.iadd), some (.iaload), some (.imul), some (.aload_n 0), some (.getfield 9), none, none, some (.sipush 1174), none],
  [none, some (.iconst 2), some (.iload_n 1), some (.imul), some (.iadd), some (.iconst 1), some (.iadd), some (.iaload), some (.iadd), some (.istore_n 3), some (.aload_n 0), some (.getfield 9), none, none, some (.sipush 1174), none],
  [none, some (.iconst 2), some (.iload_n 1), some (.imul), some (.iadd), some (.iload_n 2), some (.bipush 100), none, some (.idiv), some (.iastore), some (.aload_n 0), some (.getfield 9), none, none, some (.sipush 1174), none],
  [none, some (.iconst 2), some (.iload_n 1), some (.imul), some (.iadd), some (.iconst 1), some (.iadd), some (.iload_n 2), some (.bipush 100), none, some (.irem), some (.iastore), some (.iload_n 3), some (.ireturn)]]
theorem q_code241_ok : q_dec prog_14_method_76_code q_code241 := f_all2_ok (by decide +kernel)
def q_code242 : List (List (Option Instr)) := [[some (.iload_n 1), some (.i2l), some (.lconst 0), some (.ldc2_w 278), none, none, some (.invokestatic 83), none, none, some (.ifCond .ne 5), none, none, some (.iconst (-1)), some (.ireturn), some (.aload_n 0), some (.getfield 9)],
  [none, none, some (.sipush 1199), none, none, some (.iaload), some (.istore_n 2), some (.aload_n 0), some (.getfield 9), none, none, some (.sipush 1199), none, none, some (.iload_n 1), some (.iastore)],
  [some (.iload_n 2), some (.ireturn)]]
theorem q_code242_ok : q_dec prog_14_method_77_code q_code242 := f_all2_ok (by decide +kernel)
def q_code243 : List (List (Option Instr)) := [[some (.iconst 0), some (.istore_n 1), some (.iload_n 1), some (.bipush 30), none, some (.if_icmp .gt 20), none, none, some (.aload_n 0), some (.getfield 71), none, none, some (.sipush 372), none, none, some (.iload_n 1)],
  [some (.iadd), some (.iconst 0), some (.iastore), some (.iinc 1 1), none, none, some (.goto (-20)), none, none, some (.bipush 11), none, some (.istore_n 1), some (.iload_n 1), some (.ifCond .lt 163), none, none],
  [some (.iconst 0), some (.istore_n 2), some (.iload_n 2), some (.aload_n 0), some (.getfield 9), none, none, some (.sipush 1199), none, none, some (.iaload), some (.if_icmp .gt 143), none, none, some (.iload_n 2), some (.aload_n 0)],
  [some (.getfield 9), none, none, some (.sipush 1174), none, none, some (.iconst 2), some (.iload_n 1), some (.imul), some (.iadd), some (.iaload), some (.iadd), some (.istore_n 3), some (.iconst (-1)), some (.istore 4), none],
  [some (.iload_n 3), some (.aload_n 0), some (.getfield 9), none, none, some (.sipush 1199), none, none, some (.iaload), some (.if_icmp .le 16), none, none, some (.iload_n 3), some (.aload_n 0), some (.getfield 9), none],
  [none, some (.sipush 1199), none, none, some (.iaload), some (.isub), some (.goto 4), none, none, some (.iconst 0), some (.istore 5), none, some (.iload 5), none, some (.iload_n 3), some (.if_icmp .gt 72)],
  [none, none, some (.iload 5), none, some (.aload_n 0), some (.getfield 9), none, none, some (.sipush 1174), none, none, some (.iconst 2), some (.iload_n 1), some (.imul), some (.iadd), some (.iconst 1)],
  [some (.iadd), some (.iaload), some (.imul), some (.aload_n 0), some (.getfield 71), none, none, some (.bipush 31), none, some (.iload_n 1), some (.iconst 1), some (.iadd), some (.imul), some (.iload_n 3), some (.iadd), some (.iload 5)],
  [none, some (.isub), some (.iaload), some (.iadd), some (.istore 6), none, some (.iload 6), none, some (.iload 4), none, some (.if_icmp .gt 6), none, none, some (.goto 20), none, none],
  [some (.iload 6), none, some (.istore 4), none, some (.aload_n 0), some (.getfield 74), none, none, some (.bipush 31), none, some (.iload_n 1), some (.imul), some (.iload_n 2), some (.iadd), some (.iload 5), none],
  [some (.iastore), some (.iinc 5 1), none, none, some (.goto (-72)), none, none, some (.aload_n 0), some (.getfield 71), none, none, some (.bipush 31), none, some (.iload_n 1), some (.imul), some (.iload_n 2)],
  [some (.iadd), some (.iload 4), none, some (.iastore), some (.iinc 2 1), none, none, some (.goto (-149)), none, none, some (.iinc 1 (-1)), none, none, some (.goto (-161)), none, none],
  [some (.return_)]]
theorem q_code243_ok : q_dec prog_14_method_78_code q_code243 := f_all2_ok (by decide +kernel)
def q_code244 : List (List (Option Instr)) := [[some (.iload_n 1), some (.i2l), some (.ldc2_w 326), none, none, some (.ldc2_w 276), none, none, some (.invokestatic 83), none, none, some (.ifCond .ne 5), none, none, some (.iconst (-1)), some (.ireturn)],
  [some (.aload_n 0), some (.invokevirtual 328), none, none, some (.iload_n 1), some (.ifCond .ge 10), none, none, some (.aload_n 0), some (.getfield 71), none, none, some (.iconst 0), some (.iaload), some (.ireturn), some (.iconst 0)],
  [some (.istore_n 2), some (.iconst 0), some (.istore_n 3), some (.iload_n 3), some (.iload_n 1), some (.if_icmp .ge 36), none, none, some (.iload_n 2), some (.aload_n 0), some (.getfield 9), none, none, some (.sipush 1174), none, none],
  [some (.iconst 2), some (.iload_n 3), some (.imul), some (.iadd), some (.iaload), some (.aload_n 0), some (.getfield 74), none, none, some (.bipush 31), none, some (.iload_n 3), some (.imul), some (.iload_n 2), some (.iadd), some (.iaload)],
  [some (.isub), some (.iadd), some (.istore_n 2), some (.iinc 3 1), none, none, some (.goto (-35)), none, none, some (.aload_n 0), some (.getfield 74), none, none, some (.bipush 31), none, some (.iload_n 1)],
  [some (.imul), some (.iload_n 2), some (.iadd), some (.iaload), some (.ireturn)]]
theorem q_code244_ok : q_dec prog_14_method_79_code q_code244 := f_all2_ok (by decide +kernel)
def q_code245 : List (List (Option Instr)) := [[some (.aload_n 0), some (.iload_n 2), some (.putfield 183), none, none, some (.aload_n 0), some (.iload_n 1), some (.invokevirtual 290), none, none, some (.istore_n 3), some (.aload_n 0), some (.iconst 0), some (.putfield 183), none, none],
  [some (.iload_n 3), some (.ireturn)]]
theorem q_code245_ok : q_dec prog_14_method_80_code q_code245 := f_all2_ok (by decide +kernel)
def q_code246 : List (List (Option Instr)) := [[some (.aload_n 0), some (.iload_n 1), some (.invokevirtual 175), none, none, some (.ifCond .eq 24), none, none, some (.iload_n 2), some (.i2l), some (.lconst 0), some (.ldc2_w 331), none, none, some (.invokestatic 83), none],
  [none, some (.ifCond .eq 12), none, none, some (.aload_n 0), some (.iload_n 1), some (.iload_n 2), some (.invokevirtual 333), none, none, some (.goto 4), none, none, some (.iconst (-1)), some (.ireturn)]]
theorem q_code246_ok : q_dec prog_14_method_81_code q_code246 := f_all2_ok (by decide +kernel)
def q_code247 : List (List (Option Instr)) := [[some (.aload_n 0), some (.aload_n 0), some (.iload_n 1), some (.invokevirtual 175), none, none, some (.ifCond .eq 19), none, none, some (.iload_n 2), some (.i2l), some (.lconst 0), some (.ldc2_w 202), none, none, some (.invokestatic 83)],
  [none, none, some (.ifCond .eq 7), none, none, some (.iconst 0), some (.goto 4), none, none, some (.iconst 1), some (.putfield 80), none, none, some (.aload_n 0), some (.getfield 80), none],
  [none, some (.iconst 1), some (.if_icmp .ne 5), none, none, some (.lconst 0), some (.lreturn), some (.iconst 1), some (.iload_n 2), some (.ishl), some (.istore 4), none, some (.iload_n 3), some (.ifCond .ne 26), none, none],
  [some (.aload_n 0), some (.iload_n 1), some (.iconst 2), some (.iload 4), none, some (.imul), some (.iconst 1), some (.isub), some (.invokevirtual 333), none, none, some (.aload_n 0), some (.iload_n 1), some (.iload 4), none, some (.iconst 1)],
  [some (.isub), some (.invokevirtual 333), none, none, some (.isub), some (.i2l), some (.lreturn), some (.lconst 0), some (.lstore 5), none, some (.iconst 0), some (.istore 7), none, some (.iload 7), none, some (.bipush 16)],
  [none, some (.if_icmp .ge 92), none, none, some (.iload 7), none, some (.iload 4), none, some (.iand), some (.ifCond .eq 6), none, none, some (.goto 75), none, none, some (.iload 7)],
  [none, some (.iconst 1), some (.iand), some (.iload 7), none, some (.iconst 1), some (.ishr), some (.iconst 1), some (.iand), some (.iadd), some (.iload 7), none, some (.iconst 2), some (.ishr), some (.iconst 1), some (.iand)],
  [some (.iadd), some (.iload 7), none, some (.iconst 3), some (.ishr), some (.iconst 1), some (.iand), some (.iadd), some (.istore 8), none, some (.lload 5), none, some (.iload 8), none, some (.ifCond .eq 9), none],
  [none, some (.iload 8), none, some (.iconst 3), some (.if_icmp .ne 9), none, none, some (.ldc2_w 336), none, none, some (.goto 6), none, none, some (.ldc2_w 242), none, none],
  [some (.aload_n 0), some (.iload_n 1), some (.iload 7), none, some (.iload 4), none, some (.ior), some (.invokevirtual 333), none, none, some (.aload_n 0), some (.iload_n 1), some (.iload 7), none, some (.invokevirtual 333), none],
  [none, some (.isub), some (.i2l), some (.lmul), some (.ladd), some (.lstore 5), none, some (.iinc 7 1), none, none, some (.goto (-93)), none, none, some (.lload 5), none, some (.lreturn)]]
theorem q_code247_ok : q_dec prog_14_method_82_code q_code247 := f_all2_ok (by decide +kernel)
def q_code248 : List (List (Option Instr)) := [[some (.aload_n 0), some (.iload_n 1), some (.invokevirtual 175), none, none, some (.ifCond .ne 5), none, none, some (.iconst (-1)), some (.ireturn), some (.aload_n 0), some (.iload_n 1), some (.invokevirtual 180), none, none, some (.iconst 1)],
  [some (.aload_n 0), some (.getfield 89), none, none, some (.iadd), some (.aload_n 0), some (.getfield 92), none, none, some (.iadd), some (.ireturn)]]
theorem q_code248_ok : q_dec prog_14_method_83_code q_code248 := f_all2_ok (by decide +kernel)
def q_code249 : List (List (Option Instr)) := [[some (.aload_n 0), some (.iload_n 1), some (.ifCond .le 22), none, none, some (.iload_n 1), some (.aload_n 0), some (.getfield 89), none, none, some (.if_icmp .gt 14), none, none, some (.aload_n 0), some (.getfield 37), none],
  [none, some (.iload_n 1), some (.iconst 1), some (.isub), some (.iaload), some (.goto 4), none, none, some (.iconst (-1)), some (.putfield 50), none, none, some (.aload_n 0), some (.iload_n 1), some (.aload_n 0), some (.getfield 89)],
  [none, none, some (.if_icmp .le 19), none, none, some (.aload_n 0), some (.getfield 40), none, none, some (.iload_n 1), some (.iconst 1), some (.isub), some (.aload_n 0), some (.getfield 89), none, none],
  [some (.isub), some (.iaload), some (.goto 4), none, none, some (.iconst (-1)), some (.putfield 53), none, none, some (.return_)]]
theorem q_code249_ok : q_dec prog_14_method_84_code q_code249 := f_all2_ok (by decide +kernel)
def q_code250 : List (List (Option Instr)) := [[some (.aload_n 0), some (.iconst (-1)), some (.putfield 50), none, none, some (.aload_n 0), some (.iconst (-1)), some (.putfield 53), none, none, some (.return_)]]
theorem q_code250_ok : q_dec prog_14_method_85_code q_code250 := f_all2_ok (by decide +kernel)
def q_code251 : List (List (Option Instr)) := [[some (.aload_n 0), some (.iload_n 1), some (.invokevirtual 175), none, none, some (.ifCond .ne 5), none, none, some (.iconst (-1)), some (.ireturn), some (.aload_n 0), some (.iload_n 2), some (.iconst 0), some (.invokevirtual 166), none, none],
  [some (.istore_n 3), some (.iload_n 3), some (.ifCond .eq 7), none, none, some (.iload_n 3), some (.goto 32), none, none, some (.aload_n 0), some (.getfield 22), none, none, some (.iload_n 2), some (.iaload), some (.iconst 2)],
  [some (.irem), some (.iconst 1), some (.if_icmp .eq 14), none, none, some (.aload_n 0), some (.getfield 22), none, none, some (.iload_n 2), some (.iaload), some (.bipush 40), none, some (.if_icmp .le 8), none, none],
  [some (.bipush (-13)), none, some (.goto 4), none, none, some (.iconst 0), some (.ireturn)]]
theorem q_code251_ok : q_dec prog_14_method_86_code q_code251 := f_all2_ok (by decide +kernel)
def q_code252 : List (List (Option Instr)) := [[some (.aload_n 0), some (.iload_n 3), some (.invokevirtual 338), none, none, some (.iconst 1), some (.istore 4), none, some (.iconst 0), some (.istore 5), none, some (.iload 5), none, some (.aload_n 0), some (.getfield 22), none],
  [none, some (.iload_n 2), some (.iaload), some (.if_icmp .ge 55), none, none, some (.iload 4), none, some (.ifCond .eq 50), none, none, some (.aload_n 0), some (.iload_n 1), some (.aload_n 0), some (.getfield 25), none],
  [none, some (.bipush 120), none, some (.iload_n 2), some (.imul), some (.iload 5), none, some (.iadd), some (.iaload), some (.invokevirtual 220), none, none, some (.aload_n 0), some (.getfield 25), none, none],
  [some (.bipush 120), none, some (.iload_n 2), some (.imul), some (.iload 5), none, some (.iadd), some (.iconst 1), some (.iadd), some (.iaload), some (.if_icmp .ne 7), none, none, some (.iconst 1), some (.goto 4), none],
  [none, some (.iconst 0), some (.istore 4), none, some (.iinc 5 2), none, none, some (.goto (-60)), none, none, some (.aload_n 0), some (.invokevirtual 341), none, none, some (.iload 4), none],
  [some (.ireturn)]]
theorem q_code252_ok : q_dec prog_14_method_87_code q_code252 := f_all2_ok (by decide +kernel)
def q_code253 : List (List (Option Instr)) := [[some (.iload_n 3), some (.iconst (-1)), some (.if_icmp .ge 7), none, none, some (.iconst (-1)), some (.goto 9), none, none, some (.aload_n 0), some (.iload_n 1), some (.iload_n 2), some (.invokevirtual 344), none, none, some (.istore 4)],
  [none, some (.iload 4), none, some (.ifCond .eq 6), none, none, some (.iload 4), none, some (.ireturn), some (.aload_n 0), some (.iload_n 1), some (.invokevirtual 180), none, none, some (.iconst 0), some (.istore 5)],
  [none, some (.iconst 0), some (.istore 6), none, some (.iload 6), none, some (.iconst 1), some (.aload_n 0), some (.getfield 89), none, none, some (.iadd), some (.aload_n 0), some (.getfield 92), none, none],
  [some (.iadd), some (.if_icmp .ge 35), none, none, some (.aload_n 0), some (.iload_n 1), some (.iload_n 2), some (.iload 6), none, some (.invokevirtual 347), none, none, some (.ifCond .ne 6), none, none, some (.goto 15)],
  [none, none, some (.iload 5), none, some (.iload_n 3), some (.if_icmp .ne 6), none, none, some (.iload 6), none, some (.ireturn), some (.iinc 5 1), none, none, some (.iinc 6 1), none],
  [none, some (.goto (-45)), none, none, some (.iload_n 3), some (.iconst (-1)), some (.if_icmp .ne 8), none, none, some (.iload 5), none, some (.goto 5), none, none, some (.bipush (-4)), none],
  [some (.ireturn)]]
theorem q_code253_ok : q_dec prog_14_method_88_code q_code253 := f_all2_ok (by decide +kernel)
def q_code254 : List (List (Option Instr)) := [[some (.aload_n 0), some (.iload_n 1), some (.iload_n 2), some (.invokevirtual 344), none, none, some (.istore_n 3), some (.iload_n 3), some (.ifCond .eq 5), none, none, some (.iload_n 3), some (.ireturn), some (.aload_n 0), some (.iload_n 1), some (.invokevirtual 180)],
  [none, none, some (.iconst 0), some (.istore 4), none, some (.iconst 0), some (.istore 5), none, some (.iload 5), none, some (.iconst 1), some (.aload_n 0), some (.getfield 89), none, none, some (.iadd)],
  [some (.aload_n 0), some (.getfield 92), none, none, some (.iadd), some (.if_icmp .ge 77), none, none, some (.aload_n 0), some (.iload_n 1), some (.iload_n 2), some (.iload 5), none, some (.invokevirtual 347), none, none],
  [some (.ifCond .ne 6), none, none, some (.goto 57), none, none, some (.aload_n 0), some (.iload 5), none, some (.invokevirtual 338), none, none, some (.aload_n 0), some (.iload_n 1), some (.invokevirtual 234), none],
  [none, some (.aload_n 0), some (.invokevirtual 341), none, none, some (.iconst 0), some (.istore 6), none, some (.iload 6), none, some (.bipush 120), none, some (.if_icmp .gt 29), none, none, some (.aload_n 0)],
  [some (.getfield 77), none, none, some (.bipush 121), none, some (.iload 4), none, some (.imul), some (.iload 6), none, some (.iadd), some (.aload_n 0), some (.getfield 56), none, none, some (.iload 6)],
  [none, some (.iaload), some (.iastore), some (.iinc 6 1), none, none, some (.goto (-30)), none, none, some (.iinc 4 1), none, none, some (.iinc 5 1), none, none, some (.goto (-87))],
  [none, none, some (.bipush (-4)), none, some (.istore 5), none, some (.iconst 0), some (.istore 6), none, some (.iconst 0), some (.istore 7), none, some (.iload 7), none, some (.bipush 120), none],
  [some (.if_icmp .gt 130), none, none, some (.iload 4), none, some (.ifCond .le 125), none, none, some (.iconst 0), some (.istore 8), none, some (.iconst 0), some (.istore 9), none, some (.iload 9), none],
  [some (.iload 4), none, some (.if_icmp .ge 83), none, none, some (.iconst 0), some (.istore 10), none, some (.iconst 0), some (.istore 11), none, some (.iload 11), none, some (.iload 4), none, some (.if_icmp .ge 48)],
  [none, none, some (.iload 10), none, some (.aload_n 0), some (.getfield 77), none, none, some (.bipush 121), none, some (.iload 9), none, some (.imul), some (.iload 7), none, some (.iadd)],
  [some (.iaload), some (.aload_n 0), some (.getfield 77), none, none, some (.bipush 121), none, some (.iload 11), none, some (.imul), some (.iload 7), none, some (.iadd), some (.iaload), some (.if_icmp .ne 7), none],
  [none, some (.iconst 1), some (.goto 4), none, none, some (.iconst 0), some (.iadd), some (.istore 10), none, some (.iinc 11 1), none, none, some (.goto (-49)), none, none, some (.iload 10)],
  [none, some (.iload 8), none, some (.if_icmp .le 8), none, none, some (.iload 10), none, some (.goto 5), none, none, some (.iload 8), none, some (.istore 8), none, some (.iinc 9 1)],
  [none, none, some (.goto (-84)), none, none, some (.iload 5), none, some (.ifCond .lt 13), none, none, some (.iload 8), none, some (.iload 6), none, some (.if_icmp .lt 6), none],
  [none, some (.goto 11), none, none, some (.iload 7), none, some (.istore 5), none, some (.iload 8), none, some (.istore 6), none, some (.iinc 7 1), none, none, some (.goto (-131))],
  [none, none, some (.iload 5), none, some (.ireturn)]]
theorem q_code254_ok : q_dec prog_14_method_89_code q_code254 := f_all2_ok (by decide +kernel)
def q_code255 : List (List (Option Instr)) := [[some (.iconst 0), some (.istore_n 1), some (.iload_n 1), some (.sipush 1330), none, none, some (.if_icmp .ge 21), none, none, some (.aload_n 0), some (.getfield 13), none, none, some (.iload_n 1), some (.aload_n 0), some (.getfield 9)],
  [none, none, some (.iload_n 1), some (.iaload), some (.iastore), some (.iinc 1 1), none, none, some (.goto (-22)), none, none, some (.aload_n 0), some (.iconst 1), some (.putfield 350), none, none],
  [some (.aload_n 0), some (.getfield 9), none, none, some (.sipush 1198), none, none, some (.iaload), some (.ireturn)]]
theorem q_code255_ok : q_dec prog_14_method_90_code q_code255 := f_all2_ok (by decide +kernel)
def q_code256 : List (List (Option Instr)) := [[some (.aload_n 0), some (.getfield 350), none, none, some (.ifCond .ne 6), none, none, some (.bipush (-3)), none, some (.ireturn), some (.iconst 0), some (.istore_n 1), some (.iload_n 1), some (.sipush 1330), none, none],
  [some (.if_icmp .ge 21), none, none, some (.aload_n 0), some (.getfield 9), none, none, some (.iload_n 1), some (.aload_n 0), some (.getfield 13), none, none, some (.iload_n 1), some (.iaload), some (.iastore), some (.iinc 1 1)],
  [none, none, some (.goto (-22)), none, none, some (.aload_n 0), some (.getfield 9), none, none, some (.sipush 1198), none, none, some (.iaload), some (.ireturn)]]
theorem q_code256_ok : q_dec prog_14_method_91_code q_code256 := f_all2_ok (by decide +kernel)
def q_code257 : List (List (Option Instr)) := [[some (.iconst 0), some (.istore_n 2), some (.iload_n 1), some (.tableswitch 212 0 8 #[49, 58, 58, 58, 58, 99, 153, 194, 203]), none, none, none, none, none, none, none, none, none, none, none, none],
  [none, none, none, none, none, none, none, none, none, none, none, none, none, none, none, none],
  [none, none, none, none, none, none, none, none, none, none, none, none, none, none, none, none],
  [none, none, none, none, some (.aload_n 0), some (.getfield 9), none, none, some (.sipush 1198), none, none, some (.iaload), some (.ireturn), some (.iconst 0), some (.istore_n 3), some (.iload_n 3)],
  [some (.aload_n 0), some (.getfield 9), none, none, some (.sipush 1198), none, none, some (.iaload), some (.if_icmp .ge 28), none, none, some (.iload_n 2), some (.aload_n 0), some (.iload_n 3), some (.invokevirtual 99), none],
  [none, some (.iload_n 1), some (.iconst 1), some (.isub), some (.if_icmp .ne 7), none, none, some (.iconst 1), some (.goto 4), none, none, some (.iconst 0), some (.iadd), some (.istore_n 2), some (.iinc 3 1), none],
  [none, some (.goto (-34)), none, none, some (.iload_n 2), some (.ireturn), some (.iconst 0), some (.istore_n 3), some (.iload_n 3), some (.aload_n 0), some (.getfield 9), none, none, some (.sipush 1198), none, none],
  [some (.iaload), some (.if_icmp .ge 41), none, none, some (.iload_n 2), some (.aload_n 0), some (.iload_n 3), some (.invokevirtual 99), none, none, some (.ifCond .ne 23), none, none, some (.aload_n 0), some (.getfield 9), none],
  [none, some (.bipush 28), none, some (.iload_n 3), some (.imul), some (.bipush 19), none, some (.iadd), some (.iaload), some (.iconst 1), some (.if_icmp .ne 7), none, none, some (.iconst 1), some (.goto 4), none],
  [none, some (.iconst 0), some (.iadd), some (.istore_n 2), some (.iinc 3 1), none, none, some (.goto (-47)), none, none, some (.iload_n 2), some (.ireturn), some (.iconst 0), some (.istore_n 3), some (.iload_n 3), some (.bipush 10)],
  [none, some (.if_icmp .ge 34), none, none, some (.iload_n 2), some (.aload_n 0), some (.getfield 9), none, none, some (.sipush 1120), none, none, some (.iconst 3), some (.iload_n 3), some (.imul), some (.iadd)],
  [some (.iconst 2), some (.iadd), some (.iaload), some (.ifCond .le 7), none, none, some (.iconst 1), some (.goto 4), none, none, some (.iconst 0), some (.iadd), some (.istore_n 2), some (.iinc 3 1), none, none],
  [some (.goto (-34)), none, none, some (.iload_n 2), some (.ireturn), some (.aload_n 0), some (.getfield 9), none, none, some (.sipush 1200), none, none, some (.iaload), some (.ireturn), some (.aload_n 0), some (.getfield 9)],
  [none, none, some (.sipush 1199), none, none, some (.iaload), some (.ireturn), some (.iconst (-1)), some (.ireturn)]]
theorem q_code257_ok : q_dec prog_14_method_92_code q_code257 := f_all2_ok (by decide +kernel)
def q_code258 : List (List (Option Instr)) := [[some (.iload_n 1), some (.invokestatic 163), none, none, some (.ifCond .eq 26), none, none, some (.iload_n 2), some (.i2l), some (.lconst 0), some (.lconst 1), some (.invokestatic 83), none, none, some (.ifCond .eq 16), none],
  [none, some (.iload_n 2), some (.iconst 1), some (.if_icmp .ne 13), none, none, some (.aload_n 0), some (.iload_n 3), some (.invokevirtual 175), none, none, some (.ifCond .ne 5), none, none, some (.iconst (-1)), some (.ireturn)],
  [some (.aload_n 0), some (.getfield 16), none, none, some (.iload_n 1), some (.iload_n 2), some (.iastore), some (.iload_n 2), some (.ifCond .ne 5), none, none, some (.iconst 0), some (.ireturn), some (.aload_n 0), some (.iload_n 3), some (.invokevirtual 180)],
  [none, none, some (.aload_n 0), some (.getfield 28), none, none, some (.iload_n 1), some (.aload_n 0), some (.iload_n 3), some (.invokevirtual 99), none, none, some (.iastore), some (.aload_n 0), some (.getfield 34), none],
  [none, some (.iload_n 1), some (.aload_n 0), some (.iload_n 3), some (.iconst 0), some (.invokevirtual 220), none, none, some (.iastore), some (.aload_n 0), some (.iload_n 3), some (.invokevirtual 99), none, none, some (.tableswitch 96 0 2 #[26, 52, 73]), none],
  [none, none, none, none, none, none, none, none, none, none, none, none, none, none, none, none],
  [none, none, none, none, none, none, none, none, some (.aload_n 0), some (.getfield 31), none, none, some (.iload_n 1), some (.bipush 10), none, some (.iload_n 3)],
  [some (.iadd), some (.aload_n 0), some (.iload_n 3), some (.aload_n 0), some (.iload_n 3), some (.invokevirtual 103), none, none, some (.iconst 1), some (.isub), some (.invokevirtual 106), none, none, some (.iadd), some (.iastore), some (.goto 69)],
  [none, none, some (.aload_n 0), some (.getfield 31), none, none, some (.iload_n 1), some (.bipush 10), none, some (.iload_n 3), some (.iadd), some (.bipush 10), none, some (.aload_n 0), some (.getfield 89), none],
  [none, some (.imul), some (.iadd), some (.iastore), some (.goto 48), none, none, some (.aload_n 0), some (.getfield 31), none, none, some (.iload_n 1), some (.iconst 2), some (.bipush 10), none, some (.iload_n 3)],
  [some (.iadd), some (.bipush 10), none, some (.aload_n 0), some (.getfield 89), none, none, some (.imul), some (.iadd), some (.imul), some (.iastore), some (.goto 25), none, none, some (.aload_n 0), some (.getfield 31)],
  [none, none, some (.iload_n 1), some (.bipush 10), none, some (.iload_n 3), some (.iadd), some (.aload_n 0), some (.getfield 9), none, none, some (.bipush 28), none, some (.iload_n 3), some (.imul), some (.iconst 5)],
  [some (.iadd), some (.iaload), some (.iadd), some (.iastore), some (.iconst 0), some (.ireturn)]]
theorem q_code258_ok : q_dec prog_14_method_93_code q_code258 := f_all2_ok (by decide +kernel)
def q_code259 : List (List (Option Instr)) := [[some (.iload_n 1), some (.invokestatic 163), none, none, some (.ifCond .eq 21), none, none, some (.iload_n 2), some (.i2l), some (.lconst 0), some (.ldc2_w 242), none, none, some (.invokestatic 83), none, none],
  [some (.ifCond .eq 9), none, none, some (.iload_n 3), some (.bipush 120), none, some (.if_icmp .le 5), none, none, some (.iconst (-1)), some (.ireturn), some (.iload_n 3), some (.ifCond .ge 6), none, none, some (.bipush (-14))],
  [none, some (.ireturn), some (.aload_n 0), some (.getfield 16), none, none, some (.iload_n 1), some (.iconst 2), some (.iastore), some (.aload_n 0), some (.getfield 19), none, none, some (.iload_n 1), some (.iload_n 2), some (.iastore)],
  [some (.aload_n 0), some (.getfield 22), none, none, some (.iload_n 1), some (.iload_n 3), some (.iastore), some (.iconst 0), some (.istore 4), none, some (.iload 4), none, some (.bipush 120), none, some (.if_icmp .ge 22), none],
  [none, some (.aload_n 0), some (.getfield 25), none, none, some (.bipush 120), none, some (.iload_n 1), some (.imul), some (.iload 4), none, some (.iadd), some (.iconst 0), some (.iastore), some (.iinc 4 1), none],
  [none, some (.goto (-23)), none, none, some (.iconst 0), some (.ireturn)]]
theorem q_code259_ok : q_dec prog_14_method_94_code q_code259 := f_all2_ok (by decide +kernel)
def q_code260 : List (List (Option Instr)) := [[some (.aload_n 0), some (.iload_n 1), some (.iconst (-1)), some (.invokevirtual 166), none, none, some (.istore 4), none, some (.iload 4), none, some (.ifCond .eq 6), none, none, some (.iload 4), none, some (.ireturn)],
  [some (.iload_n 2), some (.i2l), some (.lconst 0), some (.aload_n 0), some (.getfield 22), none, none, some (.iload_n 1), some (.iaload), some (.iconst 1), some (.isub), some (.i2l), some (.invokestatic 83), none, none, some (.ifCond .ne 6)],
  [none, none, some (.bipush (-13)), none, some (.ireturn), some (.aload_n 0), some (.getfield 25), none, none, some (.bipush 120), none, some (.iload_n 1), some (.imul), some (.iload_n 2), some (.iadd), some (.aload_n 0)],
  [some (.getfield 19), none, none, some (.iload_n 1), some (.iaload), some (.ifCond .ne 8), none, none, some (.iload_n 3), some (.i2b), some (.goto 19), none, none, some (.aload_n 0), some (.getfield 19), none],
  [none, some (.iload_n 1), some (.iaload), some (.iconst 1), some (.if_icmp .ne 8), none, none, some (.iload_n 3), some (.i2s), some (.goto 4), none, none, some (.iload_n 3), some (.iastore), some (.iconst 0), some (.ireturn)]]
theorem q_code260_ok : q_dec prog_14_method_95_code q_code260 := f_all2_ok (by decide +kernel)
def q_code261 : List (List (Option Instr)) := [[some (.aload_n 0), some (.iload_n 1), some (.invokestatic 163), none, none, some (.ifCond .ne 7), none, none, some (.iconst 1), some (.goto 36), none, none, some (.aload_n 0), some (.getfield 16), none, none],
  [some (.iload_n 1), some (.iaload), some (.iconst 2), some (.if_icmp .ne 21), none, none, some (.iload_n 2), some (.i2l), some (.lconst 0), some (.aload_n 0), some (.getfield 22), none, none, some (.iload_n 1), some (.iaload), some (.iconst 1)],
  [some (.isub), some (.i2l), some (.invokestatic 83), none, none, some (.ifCond .ne 7), none, none, some (.iconst 2), some (.goto 4), none, none, some (.iconst 0), some (.putfield 80), none, none],
  [some (.aload_n 0), some (.getfield 80), none, none, some (.ifCond .ne 18), none, none, some (.aload_n 0), some (.getfield 25), none, none, some (.bipush 120), none, some (.iload_n 1), some (.imul), some (.iload_n 2)],
  [some (.iadd), some (.iaload), some (.i2l), some (.goto 4), none, none, some (.lconst 0), some (.lreturn)]]
theorem q_code261_ok : q_dec prog_14_method_96_code q_code261 := f_all2_ok (by decide +kernel)
def q_code262 : List (List (Option Instr)) := [[some (.iload_n 1), some (.invokestatic 163), none, none, some (.ifCond .eq 10), none, none, some (.iload_n 3), some (.invokestatic 163), none, none, some (.ifCond .ne 5), none, none, some (.iconst (-1)), some (.ireturn)],
  [some (.aload_n 0), some (.getfield 16), none, none, some (.iload_n 1), some (.iaload), some (.ifCond .eq 12), none, none, some (.aload_n 0), some (.getfield 16), none, none, some (.iload_n 3), some (.iaload), some (.ifCond .ne 6)],
  [none, none, some (.bipush (-11)), none, some (.ireturn), some (.aload_n 0), some (.getfield 16), none, none, some (.iload_n 1), some (.iaload), some (.iconst 2), some (.if_icmp .ne 28), none, none, some (.aload_n 0)],
  [some (.getfield 16), none, none, some (.iload_n 3), some (.iaload), some (.iconst 2), some (.if_icmp .ne 18), none, none, some (.aload_n 0), some (.getfield 19), none, none, some (.iload_n 1), some (.iaload), some (.aload_n 0)],
  [some (.getfield 19), none, none, some (.iload_n 3), some (.iaload), some (.if_icmp .eq 6), none, none, some (.bipush (-12)), none, some (.ireturn), some (.iload 5), none, some (.ifCond .lt 39), none, none],
  [some (.iload_n 2), some (.ifCond .lt 35), none, none, some (.iload 4), none, some (.ifCond .lt 30), none, none, some (.iload 5), none, some (.aload_n 0), some (.getfield 22), none, none, some (.iload_n 1)],
  [some (.iaload), some (.iload_n 2), some (.isub), some (.if_icmp .gt 17), none, none, some (.iload 5), none, some (.aload_n 0), some (.getfield 22), none, none, some (.iload_n 3), some (.iaload), some (.iload 4), none],
  [some (.isub), some (.if_icmp .le 6), none, none, some (.bipush (-13)), none, some (.ireturn), some (.iconst 0), some (.istore 6), none, some (.iload 6), none, some (.iload 5), none, some (.if_icmp .ge 58), none],
  [none, some (.iload_n 2), some (.iload 4), none, some (.if_icmp .le 8), none, none, some (.iload 6), none, some (.goto 10), none, none, some (.iload 5), none, some (.iconst 1), some (.isub)],
  [some (.iload 6), none, some (.isub), some (.istore 7), none, some (.aload_n 0), some (.getfield 25), none, none, some (.bipush 120), none, some (.iload_n 3), some (.imul), some (.iload 4), none, some (.iadd)],
  [some (.iload 7), none, some (.iadd), some (.aload_n 0), some (.getfield 25), none, none, some (.bipush 120), none, some (.iload_n 1), some (.imul), some (.iload_n 2), some (.iadd), some (.iload 7), none, some (.iadd)],
  [some (.iaload), some (.iastore), some (.iinc 6 1), none, none, some (.goto (-59)), none, none, some (.iload 5), none, some (.ireturn)]]
theorem q_code262_ok : q_dec prog_14_method_97_code q_code262 := f_all2_ok (by decide +kernel)
def q_code263 : List (List (Option Instr)) := [[some (.iload_n 1), some (.invokestatic 163), none, none, some (.ifCond .ne 7), none, none, some (.iconst (-1)), some (.goto 33), none, none, some (.aload_n 0), some (.getfield 16), none, none, some (.iload_n 1)],
  [some (.iaload), some (.ifCond .ne 8), none, none, some (.bipush (-11)), none, some (.goto 19), none, none, some (.aload_n 0), some (.getfield 16), none, none, some (.iload_n 1), some (.iaload), some (.iconst 1)],
  [some (.if_icmp .ne 7), none, none, some (.iconst 0), some (.goto 5), none, none, some (.bipush (-12)), none, some (.ireturn)]]
theorem q_code263_ok : q_dec prog_14_method_98_code q_code263 := f_all2_ok (by decide +kernel)
def q_code264 : List (List (Option Instr)) := [[some (.aload_n 0), some (.iload_n 1), some (.invokevirtual 353), none, none, some (.istore_n 2), some (.iload_n 2), some (.ifCond .eq 7), none, none, some (.iload_n 2), some (.goto 9), none, none, some (.aload_n 0), some (.getfield 31)],
  [none, none, some (.iload_n 1), some (.iaload), some (.ireturn)]]
theorem q_code264_ok : q_dec prog_14_method_99_code q_code264 := f_all2_ok (by decide +kernel)
def q_code265 : List (List (Option Instr)) := [[some (.aload_n 0), some (.iload_n 1), some (.invokevirtual 353), none, none, some (.istore_n 2), some (.iload_n 2), some (.ifCond .eq 5), none, none, some (.iload_n 2), some (.ireturn), some (.aload_n 0), some (.getfield 28), none, none],
  [some (.iload_n 1), some (.iaload), some (.iconst 3), some (.if_icmp .eq 12), none, none, some (.aload_n 0), some (.getfield 34), none, none, some (.iload_n 1), some (.iaload), some (.ifCond .ne 8), none, none, some (.bipush (-15))],
  [none, some (.goto 27), none, none, some (.aload_n 0), some (.getfield 34), none, none, some (.iload_n 1), some (.iaload), some (.aload_n 0), some (.getfield 28), none, none, some (.iload_n 1), some (.iaload)],
  [some (.iconst 2), some (.if_icmp .ne 9), none, none, some (.sipush 1000), none, none, some (.goto 4), none, none, some (.iconst 0), some (.iadd), some (.ireturn)]]
theorem q_code265_ok : q_dec prog_14_method_100_code q_code265 := f_all2_ok (by decide +kernel)
def q_code266 : List (List (Option Instr)) := [[some (.iload_n 0), some (.iload_n 0), some (.iconst 1), some (.iushr), some (.ldc_w 265), none, none, some (.iand), some (.isub), some (.istore_n 0), some (.iload_n 0), some (.ldc_w 266), none, none, some (.iand), some (.iload_n 0)],
  [some (.iconst 2), some (.iushr), some (.ldc_w 266), none, none, some (.iand), some (.iadd), some (.istore_n 0), some (.iload_n 0), some (.iload_n 0), some (.iconst 4), some (.iushr), some (.iadd), some (.ldc_w 267), none, none],
  [some (.iand), some (.istore_n 0), some (.iload_n 0), some (.iload_n 0), some (.bipush 8), none, some (.iushr), some (.iadd), some (.istore_n 0), some (.iload_n 0), some (.iload_n 0), some (.bipush 16), none, some (.iushr), some (.iadd), some (.istore_n 0)],
  [some (.iload_n 0), some (.bipush 63), none, some (.iand), some (.ireturn)]]
theorem q_code266_ok : q_dec prog_18_method_49_code q_code266 := f_all2_ok (by decide +kernel)
def q_code267 : List (List (Option Instr)) := [[some (.iload_n 0), some (.ifCond .ge 8), none, none, some (.iload_n 0), some (.ineg), some (.goto 4), none, none, some (.iload_n 0), some (.ireturn)]]
theorem q_code267_ok : q_dec prog_19_method_59_code q_code267 := f_all2_ok (by decide +kernel)
def q_code268 : List (List (Option Instr)) := [[some (.iload_n 0), some (.iload_n 1), some (.if_icmp .lt 7), none, none, some (.iload_n 0), some (.goto 4), none, none, some (.iload_n 1), some (.ireturn)]]
theorem q_code268_ok : q_dec prog_19_method_65_code q_code268 := f_all2_ok (by decide +kernel)
def q_code269 : List (List (Option Instr)) := [[some (.iload_n 0), some (.iload_n 1), some (.if_icmp .gt 7), none, none, some (.iload_n 0), some (.goto 4), none, none, some (.iload_n 1), some (.ireturn)]]
theorem q_code269_ok : q_dec prog_19_method_69_code q_code269 := f_all2_ok (by decide +kernel)
def q_code270 : List (List (Option Instr)) := [[some (.iconst 0), some (.istore_n 2), some (.aload_n 0), some (.arraylength), some (.istore_n 3), some (.iload_n 2), some (.iload_n 3), some (.if_icmp .ge 13), none, none, some (.aload_n 0), some (.iload_n 2), some (.iload_n 1), some (.iastore), some (.iinc 2 1), none],
  [none, some (.goto (-12)), none, none, some (.return_)]]
theorem q_code270_ok : q_dec prog_24_method_103_code q_code270 := f_all2_ok (by decide +kernel)
def q_code271 : List (List (Option Instr)) := [[some (.aload_n 3), some (.iconst 0), some (.aload_n 0), some (.iload_n 1), some (.iload_n 2), some (.invokevirtual 7), none, none, some (.lastore), some (.goto 7), none, none, some (.astore 4), none, some (.iconst 1), some (.ireturn)],
  [some (.iconst 0), some (.ireturn)]]
theorem q_code271_ok : q_dec method_3_code q_code271 := f_all2_ok (by decide +kernel)
def q_code272 : List (List (Option Instr)) := [[some (.aload 4), none, some (.iconst 0), some (.aload_n 0), some (.iload_n 1), some (.iload_n 2), some (.iload_n 3), some (.invokevirtual 15), none, none, some (.lastore), some (.goto 7), none, none, some (.astore 5), none],
  [some (.iconst 1), some (.ireturn), some (.iconst 0), some (.ireturn)]]
theorem q_code272_ok : q_dec method_4_code q_code272 := f_all2_ok (by decide +kernel)
def q_code273 : List (List (Option Instr)) := [[some (.aload_n 3), some (.iconst 0), some (.aload_n 0), some (.iload_n 1), some (.iload_n 2), some (.invokevirtual 19), none, none, some (.lastore), some (.goto 11), none, none, some (.astore 4), none, some (.iconst 1), some (.ireturn)],
  [some (.astore 4), none, some (.iconst 2), some (.ireturn), some (.iconst 0), some (.ireturn)]]
theorem q_code273_ok : q_dec method_5_code q_code273 := f_all2_ok (by decide +kernel)
def q_code274 : List (List (Option Instr)) := [[some (.new 8), none, none, some (.dup), some (.invokespecial 24), none, none, some (.astore_n 1), some (.new 25), none, none, some (.dup), some (.invokespecial 27), none, none, some (.astore_n 2)],
  [some (.iconst 1), some (.newarray .long), none, some (.astore_n 3), some (.iconst 0), some (.istore 4), none, some (.iload 4), none, some (.aload_n 0), some (.arraylength), some (.bipush 6), none, some (.isub), some (.if_icmp .gt 1879), none],
  [none, some (.aload_n 0), some (.iload 4), none, some (.iaload), some (.bipush 63), none, some (.iand), some (.tableswitch 1863 0 41 #[184, 209, 246, 295, 344, 397, 437, 474, 511, 548, 597, 646, 683, 732, 781, 842, 891, 928, 953, 990, 1039, 1076, 1113, 1162, 1199, 1236, 1261, 1286, 1323, 1391, 1416, 1465, 1502, 1515, 1528, 1553, 1602, 1651, 1700, 1740, 1813, 1838]), none, none, none, none, none, none, none],
  [none, none, none, none, none, none, none, none, none, none, none, none, none, none, none, none],
  [none, none, none, none, none, none, none, none, none, none, none, none, none, none, none, none],
  [none, none, none, none, none, none, none, none, none, none, none, none, none, none, none, none],
  [none, none, none, none, none, none, none, none, none, none, none, none, none, none, none, none],
  [none, none, none, none, none, none, none, none, none, none, none, none, none, none, none, none],
  [none, none, none, none, none, none, none, none, none, none, none, none, none, none, none, none],
  [none, none, none, none, none, none, none, none, none, none, none, none, none, none, none, none],
  [none, none, none, none, none, none, none, none, none, none, none, none, none, none, none, none],
  [none, none, none, none, none, none, none, none, none, none, none, none, none, none, none, none],
  [none, none, none, none, none, none, none, none, none, none, none, none, none, none, none, none],
  [none, none, none, none, none, none, none, none, none, none, none, none, none, none, none, none],
  [some (.aload_n 1), some (.aload_n 0), some (.iload 4), none, some (.iconst 1), some (.iadd), some (.iaload), some (.invokevirtual 28), none, none, some (.pop), some (.aload_n 2), some (.aload_n 0), some (.iload 4), none, some (.iconst 1)],
  [some (.iadd), some (.iaload), some (.invokevirtual 32), none, none, some (.pop), some (.goto 1657), none, none, some (.aload_n 1), some (.aload_n 0), some (.iload 4), none, some (.iconst 1), some (.iadd), some (.iaload)],
  [some (.aload_n 0), some (.iload 4), none, some (.iconst 2), some (.iadd), some (.iaload), some (.invokevirtual 33), none, none, some (.pop), some (.aload_n 2), some (.aload_n 0), some (.iload 4), none, some (.iconst 1), some (.iadd)],
  [some (.iaload), some (.aload_n 0), some (.iload 4), none, some (.iconst 2), some (.iadd), some (.iaload), some (.invokevirtual 37), none, none, some (.pop), some (.goto 1620), none, none, some (.aload_n 1), some (.aload_n 0)],
  [some (.iload 4), none, some (.iconst 1), some (.iadd), some (.iaload), some (.aload_n 0), some (.iload 4), none, some (.iconst 2), some (.iadd), some (.iaload), some (.aload_n 0), some (.iload 4), none, some (.iconst 3), some (.iadd)],
  [some (.iaload), some (.invokevirtual 38), none, none, some (.pop), some (.aload_n 2), some (.aload_n 0), some (.iload 4), none, some (.iconst 1), some (.iadd), some (.iaload), some (.aload_n 0), some (.iload 4), none, some (.iconst 2)],
  [some (.iadd), some (.iaload), some (.aload_n 0), some (.iload 4), none, some (.iconst 3), some (.iadd), some (.iaload), some (.invokevirtual 42), none, none, some (.pop), some (.goto 1571), none, none, some (.aload_n 1)],
  [some (.aload_n 0), some (.iload 4), none, some (.iconst 1), some (.iadd), some (.iaload), some (.aload_n 0), some (.iload 4), none, some (.iconst 2), some (.iadd), some (.iaload), some (.aload_n 0), some (.iload 4), none, some (.iconst 3)],
  [some (.iadd), some (.iaload), some (.invokevirtual 43), none, none, some (.pop), some (.aload_n 2), some (.aload_n 0), some (.iload 4), none, some (.iconst 1), some (.iadd), some (.iaload), some (.aload_n 0), some (.iload 4), none],
  [some (.iconst 2), some (.iadd), some (.iaload), some (.aload_n 0), some (.iload 4), none, some (.iconst 3), some (.iadd), some (.iaload), some (.invokevirtual 46), none, none, some (.pop), some (.goto 1522), none, none],
  [some (.aload_n 1), some (.aload_n 0), some (.iload 4), none, some (.iconst 1), some (.iadd), some (.iaload), some (.aload_n 0), some (.iload 4), none, some (.iconst 2), some (.iadd), some (.iaload), some (.ifCond .eq 7), none, none],
  [some (.iconst 1), some (.goto 4), none, none, some (.iconst 0), some (.invokevirtual 47), none, none, some (.pop), some (.aload_n 2), some (.aload_n 0), some (.iload 4), none, some (.iconst 1), some (.iadd), some (.iaload)],
  [some (.aload_n 0), some (.iload 4), none, some (.iconst 2), some (.iadd), some (.iaload), some (.ifCond .eq 7), none, none, some (.iconst 1), some (.goto 4), none, none, some (.iconst 0), some (.invokevirtual 51), none],
  [none, some (.pop), some (.goto 1469), none, none, some (.aload_n 1), some (.aload_n 0), some (.iload 4), none, some (.iconst 1), some (.iadd), some (.iaload), some (.aload_n 0), some (.iload 4), none, some (.iconst 2)],
  [some (.iadd), some (.iaload), some (.aload_n 3), some (.invokestatic 52), none, none, some (.istore 5), none, some (.aload_n 2), some (.aload_n 0), some (.iload 4), none, some (.iconst 1), some (.iadd), some (.iaload), some (.aload_n 0)],
  [some (.iload 4), none, some (.iconst 2), some (.iadd), some (.iaload), some (.invokevirtual 57), none, none, some (.lstore 6), none, some (.goto 1429), none, none, some (.aload_n 1), some (.aload_n 0), some (.iload 4)],
  [none, some (.iconst 1), some (.iadd), some (.iaload), some (.aload_n 0), some (.iload 4), none, some (.iconst 2), some (.iadd), some (.iaload), some (.invokevirtual 58), none, none, some (.pop), some (.aload_n 2), some (.aload_n 0)],
  [some (.iload 4), none, some (.iconst 1), some (.iadd), some (.iaload), some (.aload_n 0), some (.iload 4), none, some (.iconst 2), some (.iadd), some (.iaload), some (.invokevirtual 61), none, none, some (.pop), some (.goto 1392)],
  [none, none, some (.aload_n 1), some (.aload_n 0), some (.iload 4), none, some (.iconst 1), some (.iadd), some (.iaload), some (.aload_n 0), some (.iload 4), none, some (.iconst 2), some (.iadd), some (.iaload), some (.invokevirtual 62)],
  [none, none, some (.pop), some (.aload_n 2), some (.aload_n 0), some (.iload 4), none, some (.iconst 1), some (.iadd), some (.iaload), some (.aload_n 0), some (.iload 4), none, some (.iconst 2), some (.iadd), some (.iaload)],
  [some (.invokevirtual 65), none, none, some (.pop), some (.goto 1355), none, none, some (.aload_n 1), some (.aload_n 0), some (.iload 4), none, some (.iconst 1), some (.iadd), some (.iaload), some (.aload_n 0), some (.iload 4)],
  [none, some (.iconst 2), some (.iadd), some (.iaload), some (.invokevirtual 66), none, none, some (.pop), some (.aload_n 2), some (.aload_n 0), some (.iload 4), none, some (.iconst 1), some (.iadd), some (.iaload), some (.aload_n 0)],
  [some (.iload 4), none, some (.iconst 2), some (.iadd), some (.iaload), some (.invokevirtual 69), none, none, some (.pop), some (.goto 1318), none, none, some (.aload_n 1), some (.aload_n 0), some (.iload 4), none],
  [some (.iconst 1), some (.iadd), some (.iaload), some (.aload_n 0), some (.iload 4), none, some (.iconst 2), some (.iadd), some (.iaload), some (.aload_n 0), some (.iload 4), none, some (.iconst 3), some (.iadd), some (.iaload), some (.invokevirtual 70)],
  [none, none, some (.pop), some (.aload_n 2), some (.aload_n 0), some (.iload 4), none, some (.iconst 1), some (.iadd), some (.iaload), some (.aload_n 0), some (.iload 4), none, some (.iconst 2), some (.iadd), some (.iaload)],
  [some (.aload_n 0), some (.iload 4), none, some (.iconst 3), some (.iadd), some (.iaload), some (.invokevirtual 73), none, none, some (.pop), some (.goto 1269), none, none, some (.aload_n 1), some (.aload_n 0), some (.iload 4)],
  [none, some (.iconst 1), some (.iadd), some (.iaload), some (.aload_n 0), some (.iload 4), none, some (.iconst 2), some (.iadd), some (.iaload), some (.aload_n 0), some (.iload 4), none, some (.iconst 3), some (.iadd), some (.iaload)],
  [some (.invokevirtual 74), none, none, some (.pop), some (.aload_n 2), some (.aload_n 0), some (.iload 4), none, some (.iconst 1), some (.iadd), some (.iaload), some (.aload_n 0), some (.iload 4), none, some (.iconst 2), some (.iadd)],
  [some (.iaload), some (.aload_n 0), some (.iload 4), none, some (.iconst 3), some (.iadd), some (.iaload), some (.invokevirtual 77), none, none, some (.pop), some (.goto 1220), none, none, some (.aload_n 1), some (.aload_n 0)],
  [some (.iload 4), none, some (.iconst 1), some (.iadd), some (.iaload), some (.aload_n 0), some (.iload 4), none, some (.iconst 2), some (.iadd), some (.iaload), some (.invokevirtual 78), none, none, some (.pop), some (.aload_n 2)],
  [some (.aload_n 0), some (.iload 4), none, some (.iconst 1), some (.iadd), some (.iaload), some (.aload_n 0), some (.iload 4), none, some (.iconst 2), some (.iadd), some (.iaload), some (.invokevirtual 81), none, none, some (.pop)],
  [some (.goto 1183), none, none, some (.aload_n 1), some (.aload_n 0), some (.iload 4), none, some (.iconst 1), some (.iadd), some (.iaload), some (.aload_n 0), some (.iload 4), none, some (.iconst 2), some (.iadd), some (.iaload)],
  [some (.aload_n 0), some (.iload 4), none, some (.iconst 3), some (.iadd), some (.iaload), some (.invokevirtual 82), none, none, some (.pop), some (.aload_n 2), some (.aload_n 0), some (.iload 4), none, some (.iconst 1), some (.iadd)],
  [some (.iaload), some (.aload_n 0), some (.iload 4), none, some (.iconst 2), some (.iadd), some (.iaload), some (.aload_n 0), some (.iload 4), none, some (.iconst 3), some (.iadd), some (.iaload), some (.invokevirtual 85), none, none],
  [some (.pop), some (.goto 1134), none, none, some (.aload_n 1), some (.aload_n 0), some (.iload 4), none, some (.iconst 1), some (.iadd), some (.iaload), some (.aload_n 0), some (.iload 4), none, some (.iconst 2), some (.iadd)],
  [some (.iaload), some (.aload_n 0), some (.iload 4), none, some (.iconst 3), some (.iadd), some (.iaload), some (.invokevirtual 86), none, none, some (.pop), some (.aload_n 2), some (.aload_n 0), some (.iload 4), none, some (.iconst 1)],
  [some (.iadd), some (.iaload), some (.aload_n 0), some (.iload 4), none, some (.iconst 2), some (.iadd), some (.iaload), some (.aload_n 0), some (.iload 4), none, some (.iconst 3), some (.iadd), some (.iaload), some (.invokevirtual 89), none],
  [none, some (.pop), some (.goto 1085), none, none, some (.aload_n 1), some (.aload_n 0), some (.iload 4), none, some (.iconst 1), some (.iadd), some (.iaload), some (.aload_n 0), some (.iload 4), none, some (.iconst 2)],
  [some (.iadd), some (.iaload), some (.aload_n 0), some (.iload 4), none, some (.iconst 3), some (.iadd), some (.iaload), some (.aload_n 0), some (.iload 4), none, some (.iconst 4), some (.iadd), some (.iaload), some (.invokevirtual 90), none],
  [none, some (.pop), some (.aload_n 2), some (.aload_n 0), some (.iload 4), none, some (.iconst 1), some (.iadd), some (.iaload), some (.aload_n 0), some (.iload 4), none, some (.iconst 2), some (.iadd), some (.iaload), some (.aload_n 0)],
  [some (.iload 4), none, some (.iconst 3), some (.iadd), some (.iaload), some (.aload_n 0), some (.iload 4), none, some (.iconst 4), some (.iadd), some (.iaload), some (.invokevirtual 94), none, none, some (.pop), some (.goto 1024)],
  [none, none, some (.aload_n 1), some (.aload_n 0), some (.iload 4), none, some (.iconst 1), some (.iadd), some (.iaload), some (.aload_n 0), some (.iload 4), none, some (.iconst 2), some (.iadd), some (.iaload), some (.aload_n 0)],
  [some (.iload 4), none, some (.iconst 3), some (.iadd), some (.iaload), some (.invokevirtual 95), none, none, some (.pop), some (.aload_n 2), some (.aload_n 0), some (.iload 4), none, some (.iconst 1), some (.iadd), some (.iaload)],
  [some (.aload_n 0), some (.iload 4), none, some (.iconst 2), some (.iadd), some (.iaload), some (.aload_n 0), some (.iload 4), none, some (.iconst 3), some (.iadd), some (.iaload), some (.invokevirtual 98), none, none, some (.pop)],
  [some (.goto 975), none, none, some (.aload_n 1), some (.aload_n 0), some (.iload 4), none, some (.iconst 1), some (.iadd), some (.iaload), some (.aload_n 0), some (.iload 4), none, some (.iconst 2), some (.iadd), some (.iaload)],
  [some (.invokevirtual 99), none, none, some (.pop), some (.aload_n 2), some (.aload_n 0), some (.iload 4), none, some (.iconst 1), some (.iadd), some (.iaload), some (.aload_n 0), some (.iload 4), none, some (.iconst 2), some (.iadd)],
  [some (.iaload), some (.invokevirtual 102), none, none, some (.pop), some (.goto 938), none, none, some (.aload_n 1), some (.aload_n 0), some (.iload 4), none, some (.iconst 1), some (.iadd), some (.iaload), some (.invokevirtual 103)],
  [none, none, some (.pop), some (.aload_n 2), some (.aload_n 0), some (.iload 4), none, some (.iconst 1), some (.iadd), some (.iaload), some (.invokevirtual 106), none, none, some (.pop), some (.goto 913), none],
  [none, some (.aload_n 1), some (.aload_n 0), some (.iload 4), none, some (.iconst 1), some (.iadd), some (.iaload), some (.aload_n 0), some (.iload 4), none, some (.iconst 2), some (.iadd), some (.iaload), some (.invokevirtual 107), none],
  [none, some (.pop), some (.aload_n 2), some (.aload_n 0), some (.iload 4), none, some (.iconst 1), some (.iadd), some (.iaload), some (.aload_n 0), some (.iload 4), none, some (.iconst 2), some (.iadd), some (.iaload), some (.invokevirtual 110)],
  [none, none, some (.pop), some (.goto 876), none, none, some (.aload_n 1), some (.aload_n 0), some (.iload 4), none, some (.iconst 1), some (.iadd), some (.iaload), some (.aload_n 0), some (.iload 4), none],
  [some (.iconst 2), some (.iadd), some (.iaload), some (.aload_n 0), some (.iload 4), none, some (.iconst 3), some (.iadd), some (.iaload), some (.invokevirtual 111), none, none, some (.pop), some (.aload_n 2), some (.aload_n 0), some (.iload 4)],
  [none, some (.iconst 1), some (.iadd), some (.iaload), some (.aload_n 0), some (.iload 4), none, some (.iconst 2), some (.iadd), some (.iaload), some (.aload_n 0), some (.iload 4), none, some (.iconst 3), some (.iadd), some (.iaload)],
  [some (.invokevirtual 114), none, none, some (.pop), some (.goto 827), none, none, some (.aload_n 1), some (.aload_n 0), some (.iload 4), none, some (.iconst 1), some (.iadd), some (.iaload), some (.aload_n 0), some (.iload 4)],
  [none, some (.iconst 2), some (.iadd), some (.iaload), some (.invokevirtual 115), none, none, some (.pop), some (.aload_n 2), some (.aload_n 0), some (.iload 4), none, some (.iconst 1), some (.iadd), some (.iaload), some (.aload_n 0)],
  [some (.iload 4), none, some (.iconst 2), some (.iadd), some (.iaload), some (.invokevirtual 118), none, none, some (.pop), some (.goto 790), none, none, some (.aload_n 1), some (.aload_n 0), some (.iload 4), none],
  [some (.iconst 1), some (.iadd), some (.iaload), some (.aload_n 0), some (.iload 4), none, some (.iconst 2), some (.iadd), some (.iaload), some (.invokevirtual 119), none, none, some (.pop), some (.aload_n 2), some (.aload_n 0), some (.iload 4)],
  [none, some (.iconst 1), some (.iadd), some (.iaload), some (.aload_n 0), some (.iload 4), none, some (.iconst 2), some (.iadd), some (.iaload), some (.invokevirtual 122), none, none, some (.pop), some (.goto 753), none],
  [none, some (.aload_n 1), some (.aload_n 0), some (.iload 4), none, some (.iconst 1), some (.iadd), some (.iaload), some (.aload_n 0), some (.iload 4), none, some (.iconst 2), some (.iadd), some (.iaload), some (.aload_n 0), some (.iload 4)],
  [none, some (.iconst 3), some (.iadd), some (.iaload), some (.invokevirtual 123), none, none, some (.pop), some (.aload_n 2), some (.aload_n 0), some (.iload 4), none, some (.iconst 1), some (.iadd), some (.iaload), some (.aload_n 0)],
  [some (.iload 4), none, some (.iconst 2), some (.iadd), some (.iaload), some (.aload_n 0), some (.iload 4), none, some (.iconst 3), some (.iadd), some (.iaload), some (.invokevirtual 126), none, none, some (.pop), some (.goto 704)],
  [none, none, some (.aload_n 1), some (.aload_n 0), some (.iload 4), none, some (.iconst 1), some (.iadd), some (.iaload), some (.aload_n 0), some (.iload 4), none, some (.iconst 2), some (.iadd), some (.iaload), some (.invokevirtual 127)],
  [none, none, some (.aload_n 2), some (.aload_n 0), some (.iload 4), none, some (.iconst 1), some (.iadd), some (.iaload), some (.aload_n 0), some (.iload 4), none, some (.iconst 2), some (.iadd), some (.iaload), some (.invokevirtual 130)],
  [none, none, some (.if_icmp .eq 669), none, none, some (.iconst 0), some (.ireturn), some (.aload_n 1), some (.aload_n 0), some (.iload 4), none, some (.iconst 1), some (.iadd), some (.iaload), some (.aload_n 0), some (.iload 4)],
  [none, some (.iconst 2), some (.iadd), some (.iaload), some (.invokevirtual 131), none, none, some (.pop), some (.aload_n 2), some (.aload_n 0), some (.iload 4), none, some (.iconst 1), some (.iadd), some (.iaload), some (.aload_n 0)],
  [some (.iload 4), none, some (.iconst 2), some (.iadd), some (.iaload), some (.invokevirtual 134), none, none, some (.pop), some (.goto 630), none, none, some (.aload_n 1), some (.aload_n 0), some (.iload 4), none],
  [some (.iconst 1), some (.iadd), some (.iaload), some (.invokevirtual 135), none, none, some (.pop), some (.aload_n 2), some (.aload_n 0), some (.iload 4), none, some (.iconst 1), some (.iadd), some (.iaload), some (.invokevirtual 138), none],
  [none, some (.pop), some (.goto 605), none, none, some (.aload_n 1), some (.aload_n 0), some (.iload 4), none, some (.iconst 1), some (.iadd), some (.iaload), some (.invokevirtual 139), none, none, some (.pop)],
  [some (.aload_n 2), some (.aload_n 0), some (.iload 4), none, some (.iconst 1), some (.iadd), some (.iaload), some (.invokevirtual 142), none, none, some (.pop), some (.goto 580), none, none, some (.aload_n 1), some (.aload_n 0)],
  [some (.iload 4), none, some (.iconst 1), some (.iadd), some (.iaload), some (.aload_n 0), some (.iload 4), none, some (.iconst 2), some (.iadd), some (.iaload), some (.invokevirtual 143), none, none, some (.pop), some (.aload_n 2)],
  [some (.aload_n 0), some (.iload 4), none, some (.iconst 1), some (.iadd), some (.iaload), some (.aload_n 0), some (.iload 4), none, some (.iconst 2), some (.iadd), some (.iaload), some (.invokevirtual 146), none, none, some (.pop)],
  [some (.goto 543), none, none, some (.aload_n 1), some (.aload_n 0), some (.iload 4), none, some (.iconst 1), some (.iadd), some (.iaload), some (.aload_n 0), some (.iload 4), none, some (.iconst 2), some (.iadd), some (.iaload)],
  [some (.aload_n 0), some (.iload 4), none, some (.iconst 3), some (.iadd), some (.iaload), some (.ifCond .eq 7), none, none, some (.iconst 1), some (.goto 4), none, none, some (.iconst 0), some (.aload_n 3), some (.invokestatic 147)],
  [none, none, some (.istore 5), none, some (.aload_n 2), some (.aload_n 0), some (.iload 4), none, some (.iconst 1), some (.iadd), some (.iaload), some (.aload_n 0), some (.iload 4), none, some (.iconst 2), some (.iadd)],
  [some (.iaload), some (.aload_n 0), some (.iload 4), none, some (.iconst 3), some (.iadd), some (.iaload), some (.ifCond .eq 7), none, none, some (.iconst 1), some (.goto 4), none, none, some (.iconst 0), some (.invokevirtual 150)],
  [none, none, some (.lstore 6), none, some (.goto 475), none, none, some (.aload_n 1), some (.aload_n 0), some (.iload 4), none, some (.iconst 1), some (.iadd), some (.iaload), some (.invokevirtual 151), none],
  [none, some (.pop), some (.aload_n 2), some (.aload_n 0), some (.iload 4), none, some (.iconst 1), some (.iadd), some (.iaload), some (.invokevirtual 154), none, none, some (.pop), some (.goto 450), none, none],
  [some (.aload_n 1), some (.aload_n 0), some (.iload 4), none, some (.iconst 1), some (.iadd), some (.iaload), some (.aload_n 0), some (.iload 4), none, some (.iconst 2), some (.iadd), some (.iaload), some (.aload_n 0), some (.iload 4), none],
  [some (.iconst 3), some (.iadd), some (.iaload), some (.invokevirtual 155), none, none, some (.pop), some (.aload_n 2), some (.aload_n 0), some (.iload 4), none, some (.iconst 1), some (.iadd), some (.iaload), some (.aload_n 0), some (.iload 4)],
  [none, some (.iconst 2), some (.iadd), some (.iaload), some (.aload_n 0), some (.iload 4), none, some (.iconst 3), some (.iadd), some (.iaload), some (.invokevirtual 158), none, none, some (.pop), some (.goto 401), none],
  [none, some (.aload_n 1), some (.aload_n 0), some (.iload 4), none, some (.iconst 1), some (.iadd), some (.iaload), some (.aload_n 0), some (.iload 4), none, some (.iconst 2), some (.iadd), some (.iaload), some (.invokevirtual 159), none],
  [none, some (.pop), some (.aload_n 2), some (.aload_n 0), some (.iload 4), none, some (.iconst 1), some (.iadd), some (.iaload), some (.aload_n 0), some (.iload 4), none, some (.iconst 2), some (.iadd), some (.iaload), some (.invokevirtual 162)],
  [none, none, some (.pop), some (.goto 364), none, none, some (.aload_n 1), some (.invokevirtual 163), none, none, some (.pop), some (.aload_n 2), some (.invokevirtual 167), none, none, some (.pop)],
  [some (.goto 351), none, none, some (.aload_n 1), some (.invokevirtual 168), none, none, some (.pop), some (.aload_n 2), some (.invokevirtual 171), none, none, some (.pop), some (.goto 338), none, none],
  [some (.aload_n 1), some (.aload_n 0), some (.iload 4), none, some (.iconst 1), some (.iadd), some (.iaload), some (.invokevirtual 172), none, none, some (.pop), some (.aload_n 2), some (.aload_n 0), some (.iload 4), none, some (.iconst 1)],
  [some (.iadd), some (.iaload), some (.invokevirtual 175), none, none, some (.pop), some (.goto 313), none, none, some (.aload_n 1), some (.aload_n 0), some (.iload 4), none, some (.iconst 1), some (.iadd), some (.iaload)],
  [some (.aload_n 0), some (.iload 4), none, some (.iconst 2), some (.iadd), some (.iaload), some (.aload_n 0), some (.iload 4), none, some (.iconst 3), some (.iadd), some (.iaload), some (.invokevirtual 176), none, none, some (.pop)],
  [some (.aload_n 2), some (.aload_n 0), some (.iload 4), none, some (.iconst 1), some (.iadd), some (.iaload), some (.aload_n 0), some (.iload 4), none, some (.iconst 2), some (.iadd), some (.iaload), some (.aload_n 0), some (.iload 4), none],
  [some (.iconst 3), some (.iadd), some (.iaload), some (.invokevirtual 179), none, none, some (.pop), some (.goto 264), none, none, some (.aload_n 1), some (.aload_n 0), some (.iload 4), none, some (.iconst 1), some (.iadd)],
  [some (.iaload), some (.aload_n 0), some (.iload 4), none, some (.iconst 2), some (.iadd), some (.iaload), some (.aload_n 0), some (.iload 4), none, some (.iconst 3), some (.iadd), some (.iaload), some (.invokevirtual 180), none, none],
  [some (.pop), some (.aload_n 2), some (.aload_n 0), some (.iload 4), none, some (.iconst 1), some (.iadd), some (.iaload), some (.aload_n 0), some (.iload 4), none, some (.iconst 2), some (.iadd), some (.iaload), some (.aload_n 0), some (.iload 4)],
  [none, some (.iconst 3), some (.iadd), some (.iaload), some (.invokevirtual 183), none, none, some (.pop), some (.goto 215), none, none, some (.aload_n 1), some (.aload_n 0), some (.iload 4), none, some (.iconst 1)],
  [some (.iadd), some (.iaload), some (.aload_n 0), some (.iload 4), none, some (.iconst 2), some (.iadd), some (.iaload), some (.aload_n 0), some (.iload 4), none, some (.iconst 3), some (.iadd), some (.iaload), some (.invokevirtual 184), none],
  [none, some (.pop), some (.aload_n 2), some (.aload_n 0), some (.iload 4), none, some (.iconst 1), some (.iadd), some (.iaload), some (.aload_n 0), some (.iload 4), none, some (.iconst 2), some (.iadd), some (.iaload), some (.aload_n 0)],
  [some (.iload 4), none, some (.iconst 3), some (.iadd), some (.iaload), some (.invokevirtual 187), none, none, some (.pop), some (.goto 166), none, none, some (.aload_n 1), some (.aload_n 0), some (.iload 4), none],
  [some (.iconst 1), some (.iadd), some (.iaload), some (.aload_n 0), some (.iload 4), none, some (.iconst 2), some (.iadd), some (.iaload), some (.aload_n 3), some (.invokestatic 188), none, none, some (.istore 5), none, some (.aload_n 2)],
  [some (.aload_n 0), some (.iload 4), none, some (.iconst 1), some (.iadd), some (.iaload), some (.aload_n 0), some (.iload 4), none, some (.iconst 2), some (.iadd), some (.iaload), some (.invokevirtual 190), none, none, some (.lstore 6)],
  [none, some (.goto 126), none, none, some (.aload_n 1), some (.aload_n 0), some (.iload 4), none, some (.iconst 1), some (.iadd), some (.iaload), some (.aload_n 0), some (.iload 4), none, some (.iconst 2), some (.iadd)],
  [some (.iaload), some (.aload_n 0), some (.iload 4), none, some (.iconst 3), some (.iadd), some (.iaload), some (.aload_n 0), some (.iload 4), none, some (.iconst 4), some (.iadd), some (.iaload), some (.aload_n 0), some (.iload 4), none],
  [some (.iconst 5), some (.iadd), some (.iaload), some (.invokevirtual 191), none, none, some (.pop), some (.aload_n 2), some (.aload_n 0), some (.iload 4), none, some (.iconst 1), some (.iadd), some (.iaload), some (.aload_n 0), some (.iload 4)],
  [none, some (.iconst 2), some (.iadd), some (.iaload), some (.aload_n 0), some (.iload 4), none, some (.iconst 3), some (.iadd), some (.iaload), some (.aload_n 0), some (.iload 4), none, some (.iconst 4), some (.iadd), some (.iaload)],
  [some (.aload_n 0), some (.iload 4), none, some (.iconst 5), some (.iadd), some (.iaload), some (.invokevirtual 195), none, none, some (.pop), some (.goto 53), none, none, some (.aload_n 1), some (.aload_n 0), some (.iload 4)],
  [none, some (.iconst 1), some (.iadd), some (.iaload), some (.invokevirtual 196), none, none, some (.pop), some (.aload_n 2), some (.aload_n 0), some (.iload 4), none, some (.iconst 1), some (.iadd), some (.iaload), some (.invokevirtual 199)],
  [none, none, some (.pop), some (.goto 28), none, none, some (.aload_n 1), some (.aload_n 0), some (.iload 4), none, some (.iconst 1), some (.iadd), some (.iaload), some (.invokevirtual 200), none, none],
  [some (.pop), some (.aload_n 2), some (.aload_n 0), some (.iload 4), none, some (.iconst 1), some (.iadd), some (.iaload), some (.invokevirtual 203), none, none, some (.pop), some (.goto 3), none, none, some (.iinc 4 6)],
  [none, none, some (.goto (-1883)), none, none, some (.iconst 1), some (.ireturn)]]
theorem q_code274_ok : q_dec code q_code274 := f_all2_ok (by decide +kernel)
