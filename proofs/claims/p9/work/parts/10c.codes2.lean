def q_code143 : List (List (Option Instr)) := [[some (.aload_n 0), some (.iload_n 1), some (.invokevirtual 71), none, none, some (.astore 6), none, some (.aload_n 0), some (.iload_n 3), some (.invokevirtual 71), none, none, some (.astore 7), none, some (.aload 6), none],
  [some (.ifnull 8), none, none, some (.aload 7), none, some (.ifnonnull 5), none, none, some (.iconst (-1)), some (.ireturn), some (.aload 6), none, some (.invokevirtual 390), none, none, some (.ifCond .ne 11)],
  [none, none, some (.aload 7), none, some (.invokevirtual 390), none, none, some (.ifCond .eq 6), none, none, some (.bipush (-11)), none, some (.ireturn), some (.aload 6), none, some (.getfield 382)],
  [none, none, some (.ifCond .eq 24), none, none, some (.aload 7), none, some (.getfield 382), none, none, some (.ifCond .eq 16), none, none, some (.aload 6), none, some (.getfield 394)],
  [none, none, some (.aload 7), none, some (.getfield 394), none, none, some (.if_icmp .eq 6), none, none, some (.bipush (-12)), none, some (.ireturn), some (.aload 6), none, some (.iload_n 2)],
  [some (.iload 5), none, some (.invokevirtual 397), none, none, some (.ifCond .eq 15), none, none, some (.aload 7), none, some (.iload 4), none, some (.iload 5), none, some (.invokevirtual 397), none],
  [none, some (.ifCond .ne 6), none, none, some (.bipush (-13)), none, some (.ireturn), some (.aload 6), none, some (.getfield 374), none, none, some (.iload_n 2), some (.aload 7), none, some (.getfield 374)],
  [none, none, some (.iload 4), none, some (.iload 5), none, some (.invokestatic 400), none, none, some (.iload 5), none, some (.ireturn)]]
theorem q_code143_ok : q_dec prog_1_method_41_code q_code143 := q_chk_ok (by decide +kernel)
def q_code144 : List (List (Option Instr)) := [[some (.aload_n 0), some (.iload_n 1), some (.invokevirtual 71), none, none, some (.astore_n 2), some (.aload_n 2), some (.invokestatic 406), none, none, some (.istore_n 3), some (.iload_n 3), some (.ifCond .ne 7), none, none, some (.aload_n 2)],
  [some (.ifnonnull 7), none, none, some (.iload_n 3), some (.goto 7), none, none, some (.aload_n 2), some (.getfield 410), none, none, some (.ireturn)]]
theorem q_code144_ok : q_dec prog_1_method_42_code q_code144 := q_chk_ok (by decide +kernel)
def q_code145 : List (List (Option Instr)) := [[some (.aload_n 0), some (.iload_n 1), some (.invokevirtual 71), none, none, some (.astore_n 2), some (.aload_n 2), some (.invokestatic 406), none, none, some (.istore_n 3), some (.iload_n 3), some (.ifCond .ne 7), none, none, some (.aload_n 2)],
  [some (.ifnonnull 7), none, none, some (.iload_n 3), some (.goto 7), none, none, some (.aload_n 2), some (.getfield 413), none, none, some (.ireturn)]]
theorem q_code145_ok : q_dec prog_1_method_43_code q_code145 := q_chk_ok (by decide +kernel)
def q_code146 : List (List (Option Instr)) := [[some (.aload_n 0), some (.ifnull 19), none, none, some (.iload_n 1), some (.ifCond .lt 15), none, none, some (.iload_n 1), some (.aload_n 0), some (.arraylength), some (.if_icmp .ge 9), none, none, some (.aload_n 0), some (.iload_n 1)],
  [some (.iaload), some (.goto 4), none, none, some (.iconst 0), some (.ireturn)]]
theorem q_code146_ok : q_dec prog_1_method_44_code q_code146 := q_chk_ok (by decide +kernel)
def q_code147 : List (List (Option Instr)) := [[some (.aload_n 0), some (.ifnull 17), none, none, some (.iload_n 1), some (.ifCond .lt 13), none, none, some (.iload_n 1), some (.aload_n 0), some (.arraylength), some (.if_icmp .ge 7), none, none, some (.aload_n 0), some (.iload_n 1)],
  [some (.iload_n 2), some (.iastore), some (.return_)]]
theorem q_code147_ok : q_dec prog_1_method_45_code q_code147 := q_chk_ok (by decide +kernel)
def q_code148 : List (List (Option Instr)) := [[some (.aload_n 0), some (.ifnull 23), none, none, some (.aload_n 1), some (.ifnull 19), none, none, some (.aload_n 0), some (.arraylength), some (.aload_n 1), some (.arraylength), some (.if_icmp .gt 12), none, none, some (.aload_n 0)],
  [some (.iconst 0), some (.aload_n 1), some (.iconst 0), some (.aload_n 0), some (.arraylength), some (.invokestatic 400), none, none, some (.return_)]]
theorem q_code148_ok : q_dec prog_1_method_46_code q_code148 := q_chk_ok (by decide +kernel)
def q_code149 : List (List (Option Instr)) := [[some (.iload_n 1), some (.ifCond .lt 21), none, none, some (.iload_n 1), some (.aload_n 0), some (.getfield 12), none, none, some (.getfield 87), none, none, some (.getfield 345), none, none, some (.if_icmp .ge 7)],
  [none, none, some (.iconst 1), some (.goto 4), none, none, some (.iconst 0), some (.ireturn)]]
theorem q_code149_ok : q_dec prog_1_method_47_code q_code149 := q_chk_ok (by decide +kernel)
def q_code150 : List (List (Option Instr)) := [[some (.aload_n 0), some (.getfield 12), none, none, some (.getfield 87), none, none, some (.getfield 91), none, none, some (.iload_n 1), some (.invokestatic 96), none, none, some (.iload_n 2), some (.if_icmp .ne 7)],
  [none, none, some (.iconst 1), some (.goto 4), none, none, some (.iconst 0), some (.ireturn)]]
theorem q_code150_ok : q_dec prog_1_method_48_code q_code150 := q_chk_ok (by decide +kernel)
def q_code151 : List (List (Option Instr)) := [[some (.iload_n 0), some (.ifCond .lt 13), none, none, some (.iload_n 0), some (.bipush 12), none, some (.if_icmp .ge 7), none, none, some (.iconst 1), some (.goto 4), none, none, some (.iconst 0), some (.ireturn)]]
theorem q_code151_ok : q_dec prog_1_method_49_code q_code151 := q_chk_ok (by decide +kernel)
def q_code152 : List (List (Option Instr)) := [[some (.iload_n 0), some (.ifCond .lt 13), none, none, some (.iload_n 0), some (.bipush 10), none, some (.if_icmp .ge 7), none, none, some (.iconst 1), some (.goto 4), none, none, some (.iconst 0), some (.ireturn)]]
theorem q_code152_ok : q_dec prog_1_method_50_code q_code152 := q_chk_ok (by decide +kernel)
def q_code153 : List (List (Option Instr)) := [[some (.iload_n 0), some (.ifCond .lt 25), none, none, some (.iload_n 0), some (.bipush 100), none, some (.idiv), some (.bipush 20), none, some (.if_icmp .ge 16), none, none, some (.iload_n 0), some (.bipush 100), none],
  [some (.irem), some (.bipush 12), none, some (.if_icmp .ge 7), none, none, some (.iconst 1), some (.goto 4), none, none, some (.iconst 0), some (.ireturn)]]
theorem q_code153_ok : q_dec prog_1_method_51_code q_code153 := q_chk_ok (by decide +kernel)
def q_code154 : List (List (Option Instr)) := [[some (.iload_n 1), some (.ifCond .lt 21), none, none, some (.iload_n 1), some (.aload_n 0), some (.getfield 25), none, none, some (.arraylength), some (.if_icmp .ge 12), none, none, some (.aload_n 0), some (.getfield 25), none],
  [none, some (.iload_n 1), some (.aaload), some (.goto 4), none, none, some (.aconst_null), some (.areturn)]]
theorem q_code154_ok : q_dec prog_1_method_52_code q_code154 := q_chk_ok (by decide +kernel)
def q_code155 : List (List (Option Instr)) := [[some (.iload_n 1), some (.ifCond .lt 19), none, none, some (.iload_n 1), some (.aload_n 0), some (.getfield 12), none, none, some (.getfield 416), none, none, some (.arraylength), some (.if_icmp .ge 7), none, none],
  [some (.iconst 1), some (.goto 4), none, none, some (.iconst 0), some (.istore_n 2), some (.iload_n 2), some (.ifCond .eq 24), none, none, some (.aload_n 0), some (.iload_n 1), some (.iconst 3), some (.invokevirtual 118), none, none],
  [some (.ifCond .eq 15), none, none, some (.aload_n 0), some (.getfield 12), none, none, some (.getfield 416), none, none, some (.iload_n 1), some (.aaload), some (.goto 4), none, none, some (.aconst_null)],
  [some (.areturn)]]
theorem q_code155_ok : q_dec prog_1_method_53_code q_code155 := q_chk_ok (by decide +kernel)
def q_code156 : List (List (Option Instr)) := [[some (.aload_n 0), some (.ifnonnull 5), none, none, some (.iconst (-1)), some (.ireturn), some (.aload_n 0), some (.invokevirtual 390), none, none, some (.ifCond .eq 6), none, none, some (.bipush (-11)), none, some (.ireturn)],
  [some (.aload_n 0), some (.getfield 382), none, none, some (.ifCond .eq 20), none, none, some (.iload_n 1), some (.iconst (-1)), some (.if_icmp .eq 11), none, none, some (.iload_n 1), some (.aload_n 0), some (.getfield 394), none],
  [none, some (.if_icmp .ne 7), none, none, some (.iconst 0), some (.goto 5), none, none, some (.bipush (-12)), none, some (.ireturn)]]
theorem q_code156_ok : q_dec prog_1_method_54_code q_code156 := q_chk_ok (by decide +kernel)
def q_code157 : List (List (Option Instr)) := [[some (.aload_n 0), some (.ifnonnull 5), none, none, some (.iconst (-1)), some (.ireturn), some (.aload_n 0), some (.invokevirtual 390), none, none, some (.ifCond .eq 6), none, none, some (.bipush (-11)), none, some (.ireturn)],
  [some (.aload_n 0), some (.getfield 420), none, none, some (.ifCond .eq 7), none, none, some (.iconst 0), some (.goto 5), none, none, some (.bipush (-12)), none, some (.ireturn)]]
theorem q_code157_ok : q_dec prog_1_method_55_code q_code157 := q_chk_ok (by decide +kernel)
def q_code158 : List (List (Option Instr)) := [[some (.aload_n 0), some (.getfield 42), none, none, some (.iload_n 1), some (.invokevirtual 106), none, none, some (.aload_n 0), some (.getfield 42), none, none, some (.invokevirtual 423), none, none, some (.aload_n 0)],
  [some (.getfield 42), none, none, some (.iload_n 2), some (.iload_n 2), some (.invokevirtual 426), none, none, some (.aload_n 0), some (.getfield 42), none, none, some (.iload_n 2), some (.invokevirtual 173), none, none],
  [some (.ireturn)]]
theorem q_code158_ok : q_dec prog_1_method_56_code q_code158 := q_chk_ok (by decide +kernel)
def q_code159 : List (List (Option Instr)) := [[some (.aload_n 0), some (.getfield 12), none, none, some (.getfield 225), none, none, some (.iload_n 3), some (.aload_n 0), some (.getfield 67), none, none, some (.invokevirtual 249), none, none, some (.aload_n 0)],
  [some (.getfield 42), none, none, some (.iload_n 1), some (.invokevirtual 106), none, none, some (.aload_n 0), some (.getfield 42), none, none, some (.aload_n 0), some (.getfield 67), none, none, some (.aload_n 0)],
  [some (.getfield 12), none, none, some (.getfield 225), none, none, some (.iload_n 2), some (.bipush 12), none, some (.imul), some (.iload_n 3), some (.iadd), some (.invokevirtual 267), none, none, some (.invokevirtual 429)],
  [none, none, some (.aload_n 0), some (.getfield 42), none, none, some (.invokevirtual 164), none, none, some (.aload_n 0), some (.getfield 42), none, none, some (.getfield 167), none, none],
  [some (.ireturn)]]
theorem q_code159_ok : q_dec prog_1_method_57_code q_code159 := q_chk_ok (by decide +kernel)
def q_code160 : List (List (Option Instr)) := [[some (.aload_n 0), some (.getfield 42), none, none, some (.iload_n 1), some (.invokevirtual 106), none, none, some (.aload_n 0), some (.getfield 42), none, none, some (.iload_n 2), some (.invokevirtual 433), none, none],
  [some (.aload_n 0), some (.getfield 42), none, none, some (.invokevirtual 164), none, none, some (.aload_n 0), some (.getfield 42), none, none, some (.getfield 167), none, none, some (.ireturn)]]
theorem q_code160_ok : q_dec prog_1_method_58_code q_code160 := q_chk_ok (by decide +kernel)
def q_code161 : List (List (Option Instr)) := [[some (.aload_n 0), some (.iload_n 1), some (.invokevirtual 71), none, none, some (.astore_n 3), some (.iload_n 2), some (.ifCond .lt 10), none, none, some (.iload_n 2), some (.ldc_w 436), none, none, some (.if_icmp .le 5), none],
  [none, some (.iconst (-1)), some (.ireturn), some (.aload_n 3), some (.iconst 1), some (.invokestatic 75), none, none, some (.istore 4), none, some (.iload 4), none, some (.ifCond .ne 7), none, none, some (.aload_n 3)],
  [some (.ifnonnull 6), none, none, some (.iload 4), none, some (.ireturn), some (.aload_n 3), some (.invokestatic 437), none, none, some (.ifCond .ne 6), none, none, some (.bipush (-13)), none, some (.ireturn)],
  [some (.aload_n 0), some (.getfield 56), none, none, some (.aload_n 3), some (.iload_n 2), some (.sipush 10000), none, none, some (.idiv), some (.iload_n 2), some (.sipush 10000), none, none, some (.irem), some (.invokevirtual 440)],
  [none, none, some (.iconst 0), some (.ireturn)]]
theorem q_code161_ok : q_dec prog_1_method_59_code q_code161 := q_chk_ok (by decide +kernel)
def q_code162 : List (List (Option Instr)) := [[some (.aload_n 0), some (.getfield 261), none, none, some (.iconst 1), some (.if_icmp .lt 12), none, none, some (.aload_n 0), some (.getfield 261), none, none, some (.bipush 30), none, some (.if_icmp .le 5), none],
  [none, some (.iconst 0), some (.ireturn), some (.iconst 0), some (.istore_n 1), some (.iload_n 1), some (.aload_n 0), some (.getfield 261), none, none, some (.if_icmp .ge 31), none, none, some (.aload_n 0), some (.getfield 374), none],
  [none, some (.iload_n 1), some (.invokestatic 96), none, none, some (.istore_n 2), some (.iload_n 2), some (.ifCond .lt 10), none, none, some (.iload_n 2), some (.sipush 999), none, none, some (.if_icmp .le 5), none],
  [none, some (.iconst 0), some (.ireturn), some (.iinc 1 1), none, none, some (.goto (-33)), none, none, some (.iconst 1), some (.ireturn)]]
theorem q_code162_ok : q_dec prog_1_method_60_code q_code162 := q_chk_ok (by decide +kernel)
def q_code163 : List (List (Option Instr)) := [[some (.aload_n 1), some (.getfield 261), none, none, some (.iconst 2), some (.if_icmp .lt 12), none, none, some (.aload_n 1), some (.getfield 261), none, none, some (.bipush 8), none, some (.if_icmp .le 5), none],
  [none, some (.iconst 0), some (.ireturn), some (.iconst 0), some (.istore_n 2), some (.iload_n 2), some (.aload_n 1), some (.getfield 261), none, none, some (.if_icmp .ge 46), none, none, some (.aload_n 1), some (.getfield 374), none],
  [none, some (.iload_n 2), some (.invokestatic 96), none, none, some (.istore_n 3), some (.aload_n 0), some (.iload_n 3), some (.invokevirtual 83), none, none, some (.ifCond .eq 21), none, none, some (.aload_n 0), some (.iload_n 3)],
  [some (.iconst 0), some (.invokevirtual 118), none, none, some (.ifCond .eq 12), none, none, some (.aload_n 1), some (.iload_n 3), some (.invokevirtual 443), none, none, some (.iload_n 2), some (.if_icmp .ge 5), none, none],
  [some (.iconst 0), some (.ireturn), some (.iinc 2 1), none, none, some (.goto (-48)), none, none, some (.iconst 1), some (.ireturn)]]
theorem q_code163_ok : q_dec prog_1_method_61_code q_code163 := q_chk_ok (by decide +kernel)
def q_code164 : List (List (Option Instr)) := [[some (.aload_n 0), some (.iload_n 2), some (.invokevirtual 71), none, none, some (.astore_n 3), some (.aload_n 0), some (.iload_n 1), some (.invokevirtual 83), none, none, some (.ifCond .ne 5), none, none, some (.iconst (-1)), some (.ireturn)],
  [some (.aload_n 3), some (.iconst 0), some (.invokestatic 75), none, none, some (.istore 4), none, some (.iload 4), none, some (.ifCond .ne 7), none, none, some (.aload_n 3), some (.ifnonnull 6), none, none],
  [some (.iload 4), none, some (.ireturn), some (.aload_n 3), some (.getfield 261), none, none, some (.iconst 2), some (.irem), some (.ifCond .ne 12), none, none, some (.aload_n 3), some (.getfield 261), none, none],
  [some (.bipush 40), none, some (.if_icmp .le 6), none, none, some (.bipush (-13)), none, some (.ireturn), some (.aload_n 0), some (.getfield 42), none, none, some (.iload_n 1), some (.invokevirtual 106), none, none],
  [some (.aload_n 0), some (.getfield 42), none, none, some (.invokevirtual 423), none, none, some (.aload_n 0), some (.getfield 63), none, none, some (.aload_n 0), some (.getfield 42), none, none, some (.aload_n 3)],
  [some (.invokevirtual 446), none, none, some (.iconst 0), some (.ireturn)]]
theorem q_code164_ok : q_dec prog_1_method_62_code q_code164 := q_chk_ok (by decide +kernel)
def q_code165 : List (List (Option Instr)) := [[some (.bipush 10), none, some (.iload_n 1), some (.iadd), some (.istore_n 2), some (.aload_n 0), some (.getfield 12), none, none, some (.getfield 87), none, none, some (.getfield 91), none, none, some (.iload_n 1)],
  [some (.invokestatic 96), none, none, some (.istore_n 3), some (.iload_n 3), some (.ifCond .ne 31), none, none, some (.iload_n 2), some (.aload_n 0), some (.getfield 12), none, none, some (.getfield 134), none, none],
  [some (.iload_n 1), some (.aload_n 0), some (.getfield 12), none, none, some (.getfield 87), none, none, some (.getfield 100), none, none, some (.iload_n 1), some (.invokestatic 96), none, none, some (.invokevirtual 450)],
  [none, none, some (.iadd), some (.ireturn), some (.iload_n 3), some (.iconst 3), some (.if_icmp .ne 27), none, none, some (.aload_n 0), some (.iload_n 1), some (.invokevirtual 191), none, none, some (.astore 4), none],
  [some (.aload 4), none, some (.ifnonnull 7), none, none, some (.iload_n 2), some (.goto 10), none, none, some (.iload_n 2), some (.aload 4), none, some (.getfield 198), none, none, some (.iadd)],
  [some (.ireturn), some (.aload_n 0), some (.getfield 42), none, none, some (.iload_n 1), some (.invokevirtual 106), none, none, some (.iload_n 2), some (.bipush 10), none, some (.aload_n 0), some (.getfield 42), none, none],
  [some (.getfield 110), none, none, some (.imul), some (.iadd), some (.istore 4), none, some (.iload_n 3), some (.iconst 2), some (.if_icmp .ne 10), none, none, some (.iconst 2), some (.iload 4), none, some (.imul)],
  [some (.goto 5), none, none, some (.iload 4), none, some (.ireturn)]]
theorem q_code165_ok : q_dec prog_1_method_63_code q_code165 := q_chk_ok (by decide +kernel)
def q_code166 : List (List (Option Instr)) := [[some (.aload_n 0), some (.iload_n 1), some (.iconst 0), some (.invokevirtual 160), none, none, some (.istore_n 2), some (.aload_n 0), some (.iload_n 1), some (.iconst 3), some (.invokevirtual 118), none, none, some (.ifCond .ne 7), none, none],
  [some (.iload_n 2), some (.ifCond .ne 6), none, none, some (.bipush (-15)), none, some (.ireturn), some (.aload_n 0), some (.iload_n 1), some (.iconst 2), some (.invokevirtual 118), none, none, some (.ifCond .eq 11), none, none],
  [some (.sipush 1000), none, none, some (.iload_n 2), some (.iadd), some (.goto 4), none, none, some (.iload_n 2), some (.ireturn)]]
theorem q_code166_ok : q_dec prog_1_method_64_code q_code166 := q_chk_ok (by decide +kernel)
def q_code167 : List (List (Option Instr)) := [[some (.aload_n 0), some (.invokespecial 1), none, none, some (.aload_n 0), some (.sipush 1330), none, none, some (.newarray .int), none, some (.putfield 9), none, none, some (.aload_n 0), some (.sipush 1330), none],
  [none, some (.newarray .int), none, some (.putfield 13), none, none, some (.aload_n 0), some (.bipush 8), none, some (.newarray .int), none, some (.putfield 16), none, none, some (.aload_n 0), some (.bipush 8)],
  [none, some (.newarray .int), none, some (.putfield 19), none, none, some (.aload_n 0), some (.bipush 8), none, some (.newarray .int), none, some (.putfield 22), none, none, some (.aload_n 0), some (.sipush 960)],
  [none, none, some (.newarray .int), none, some (.putfield 25), none, none, some (.aload_n 0), some (.bipush 8), none, some (.newarray .int), none, some (.putfield 28), none, none, some (.aload_n 0)],
  [some (.bipush 8), none, some (.newarray .int), none, some (.putfield 31), none, none, some (.aload_n 0), some (.bipush 8), none, some (.newarray .int), none, some (.putfield 34), none, none, some (.aload_n 0)],
  [some (.bipush 48), none, some (.newarray .int), none, some (.putfield 37), none, none, some (.aload_n 0), some (.bipush 48), none, some (.newarray .int), none, some (.putfield 40), none, none, some (.aload_n 0)],
  [some (.sipush 1330), none, none, some (.newarray .int), none, some (.putfield 43), none, none, some (.aload_n 0), some (.iconst (-1)), some (.putfield 46), none, none, some (.aload_n 0), some (.iconst (-1)), some (.putfield 50)],
  [none, none, some (.aload_n 0), some (.iconst (-1)), some (.putfield 53), none, none, some (.aload_n 0), some (.sipush 1000), none, none, some (.newarray .int), none, some (.putfield 56), none, none],
  [some (.aload_n 0), some (.bipush 100), none, some (.newarray .int), none, some (.putfield 59), none, none, some (.aload_n 0), some (.sipush 1024), none, none, some (.newarray .int), none, some (.putfield 62), none],
  [none, some (.aload_n 0), some (.sipush 1024), none, none, some (.newarray .int), none, some (.putfield 65), none, none, some (.aload_n 0), some (.sipush 800), none, none, some (.newarray .int), none],
  [some (.putfield 68), none, none, some (.aload_n 0), some (.sipush 403), none, none, some (.newarray .int), none, some (.putfield 71), none, none, some (.aload_n 0), some (.sipush 403), none, none],
  [some (.newarray .int), none, some (.putfield 74), none, none, some (.aload_n 0), some (.sipush 11737), none, none, some (.newarray .int), none, some (.putfield 77), none, none, some (.return_)]]
theorem q_code167_ok : q_dec prog_14_method_1_code q_code167 := q_chk_ok (by decide +kernel)
def q_code168 : List (List (Option Instr)) := [[some (.lload_n 0), some (.lload_n 2), some (.lcmp), some (.ifCond .lt 14), none, none, some (.lload_n 0), some (.lload 4), none, some (.lcmp), some (.ifCond .gt 7), none, none, some (.iconst 1), some (.goto 4), none],
  [none, some (.iconst 0), some (.ireturn)]]
theorem q_code168_ok : q_dec prog_14_method_3_code q_code168 := q_chk_ok (by decide +kernel)
def q_code169 : List (List (Option Instr)) := [[some (.iload_n 1), some (.i2l), some (.lconst 0), some (.aload_n 0), some (.getfield 9), none, none, some (.sipush 1198), none, none, some (.iaload), some (.iconst 1), some (.isub), some (.i2l), some (.invokestatic 83), none],
  [none, some (.ireturn)]]
theorem q_code169_ok : q_dec prog_14_method_4_code q_code169 := q_chk_ok (by decide +kernel)
def q_code170 : List (List (Option Instr)) := [[some (.aload_n 0), some (.getfield 9), none, none, some (.bipush 28), none, some (.iload_n 1), some (.imul), some (.iaload), some (.ireturn)]]
theorem q_code170_ok : q_dec prog_14_method_5_code q_code170 := q_chk_ok (by decide +kernel)
def q_code171 : List (List (Option Instr)) := [[some (.aload_n 0), some (.getfield 9), none, none, some (.bipush 28), none, some (.iload_n 1), some (.imul), some (.iconst 2), some (.iadd), some (.iaload), some (.ireturn)]]
theorem q_code171_ok : q_dec prog_14_method_6_code q_code171 := q_chk_ok (by decide +kernel)
def q_code172 : List (List (Option Instr)) := [[some (.aload_n 0), some (.getfield 9), none, none, some (.bipush 28), none, some (.iload_n 1), some (.imul), some (.iconst 3), some (.iadd), some (.iload_n 2), some (.iadd), some (.iaload), some (.ireturn)]]
theorem q_code172_ok : q_dec prog_14_method_7_code q_code172 := q_chk_ok (by decide +kernel)
def q_code173 : List (List (Option Instr)) := [[some (.iload_n 0), some (.i2l), some (.lconst 0), some (.ldc2_w 87), none, none, some (.invokestatic 83), none, none, some (.ireturn)]]
theorem q_code173_ok : q_dec prog_14_method_8_code q_code173 := q_chk_ok (by decide +kernel)
def q_code174 : List (List (Option Instr)) := [[some (.iload_n 0), some (.iload_n 1), some (.if_icmp .ge 7), none, none, some (.iload_n 0), some (.goto 4), none, none, some (.iload_n 1), some (.ireturn)]]
theorem q_code174_ok : q_dec prog_14_method_9_code q_code174 := q_chk_ok (by decide +kernel)
def q_code175 : List (List (Option Instr)) := [[some (.aload_n 0), some (.iconst 0), some (.putfield 89), none, none, some (.aload_n 0), some (.iconst 0), some (.putfield 92), none, none, some (.aload_n 0), some (.iload_n 1), some (.invokevirtual 95), none, none, some (.return_)]]
theorem q_code175_ok : q_dec prog_14_method_10_code q_code175 := q_chk_ok (by decide +kernel)
def q_code176 : List (List (Option Instr)) := [[some (.aload_n 0), some (.iload_n 1), some (.invokevirtual 99), none, none, some (.ifCond .ne 24), none, none, some (.aload_n 0), some (.getfield 37), none, none, some (.aload_n 0), some (.getfield 89), none, none],
  [some (.iload_n 1), some (.iastore), some (.aload_n 0), some (.dup), some (.getfield 89), none, none, some (.iconst 1), some (.iadd), some (.putfield 89), none, none, some (.return_), some (.aload_n 0), some (.iload_n 1), some (.invokevirtual 99)],
  [none, none, some (.iconst 1), some (.if_icmp .ne 115), none, none, some (.iconst 0), some (.istore_n 2), some (.iload_n 2), some (.aload_n 0), some (.iload_n 1), some (.invokevirtual 103), none, none, some (.if_icmp .ge 34), none],
  [none, some (.aload_n 0), some (.getfield 37), none, none, some (.aload_n 0), some (.getfield 89), none, none, some (.aload_n 0), some (.iload_n 1), some (.iload_n 2), some (.invokevirtual 106), none, none, some (.iastore)],
  [some (.aload_n 0), some (.dup), some (.getfield 89), none, none, some (.iconst 1), some (.iadd), some (.putfield 89), none, none, some (.iinc 2 1), none, none, some (.goto (-37)), none, none],
  [some (.iconst 0), some (.istore_n 2), some (.iload_n 2), some (.aload_n 0), some (.getfield 9), none, none, some (.bipush 28), none, some (.iload_n 1), some (.imul), some (.bipush 19), none, some (.iadd), some (.iaload), some (.if_icmp .ge 54)],
  [none, none, some (.aload_n 0), some (.getfield 9), none, none, some (.bipush 28), none, some (.iload_n 1), some (.imul), some (.bipush 20), none, some (.iadd), some (.iload_n 2), some (.iadd), some (.iaload)],
  [some (.ifCond .ne 6), none, none, some (.goto 28), none, none, some (.aload_n 0), some (.getfield 40), none, none, some (.aload_n 0), some (.getfield 92), none, none, some (.bipush 8), none],
  [some (.iload_n 1), some (.imul), some (.iload_n 2), some (.iadd), some (.iastore), some (.aload_n 0), some (.dup), some (.getfield 92), none, none, some (.iconst 1), some (.iadd), some (.putfield 92), none, none, some (.iinc 2 1)],
  [none, none, some (.goto (-64)), none, none, some (.return_), some (.iconst 0), some (.istore_n 2), some (.iload_n 2), some (.aload_n 0), some (.iload_n 1), some (.invokevirtual 103), none, none, some (.if_icmp .ge 19), none],
  [none, some (.aload_n 0), some (.aload_n 0), some (.iload_n 1), some (.iload_n 2), some (.invokevirtual 106), none, none, some (.invokevirtual 95), none, none, some (.iinc 2 1), none, none, some (.goto (-22)), none],
  [none, some (.return_)]]
theorem q_code176_ok : q_dec prog_14_method_11_code q_code176 := q_chk_ok (by decide +kernel)
def q_code177 : List (List (Option Instr)) := [[some (.aload_n 0), some (.getfield 110), none, none, some (.aload_n 0), some (.getfield 113), none, none, some (.if_icmp .ge 20), none, none, some (.aload_n 0), some (.getfield 25), none, none, some (.aload_n 0)],
  [some (.getfield 116), none, none, some (.aload_n 0), some (.getfield 110), none, none, some (.iadd), some (.iaload), some (.goto 6), none, none, some (.sipush (-1000)), none, none, some (.ireturn)]]
theorem q_code177_ok : q_dec prog_14_method_12_code q_code177 := q_chk_ok (by decide +kernel)
def q_code178 : List (List (Option Instr)) := [[some (.aload_n 0), some (.invokevirtual 119), none, none, some (.iload_n 1), some (.if_icmp .eq 5), none, none, some (.iconst 0), some (.ireturn), some (.aload_n 0), some (.dup), some (.getfield 110), none, none, some (.iconst 1)],
  [some (.iadd), some (.putfield 110), none, none, some (.iconst 1), some (.ireturn)]]
theorem q_code178_ok : q_dec prog_14_method_13_code q_code178 := q_chk_ok (by decide +kernel)
def q_code179 : List (List (Option Instr)) := [[some (.aload_n 0), some (.invokevirtual 119), none, none, some (.i2l), some (.ldc2_w 123), none, none, some (.ldc2_w 125), none, none, some (.invokestatic 83), none, none, some (.ifCond .ne 5), none],
  [none, some (.iconst 0), some (.ireturn), some (.aload_n 0), some (.aload_n 0), some (.invokevirtual 119), none, none, some (.bipush 48), none, some (.isub), some (.putfield 127), none, none, some (.aload_n 0), some (.dup)],
  [some (.getfield 110), none, none, some (.iconst 1), some (.iadd), some (.putfield 110), none, none, some (.aload_n 0), some (.getfield 127), none, none, some (.ifCond .le 49), none, none, some (.aload_n 0)],
  [some (.invokevirtual 119), none, none, some (.i2l), some (.ldc2_w 123), none, none, some (.ldc2_w 125), none, none, some (.invokestatic 83), none, none, some (.ifCond .eq 32), none, none],
  [some (.aload_n 0), some (.bipush 10), none, some (.aload_n 0), some (.getfield 127), none, none, some (.imul), some (.aload_n 0), some (.invokevirtual 119), none, none, some (.iadd), some (.bipush 48), none, some (.isub)],
  [some (.putfield 127), none, none, some (.aload_n 0), some (.dup), some (.getfield 110), none, none, some (.iconst 1), some (.iadd), some (.putfield 110), none, none, some (.iconst 1), some (.ireturn)]]
theorem q_code179_ok : q_dec prog_14_method_14_code q_code179 := q_chk_ok (by decide +kernel)
def q_code180 : List (List (Option Instr)) := [[some (.aload_n 0), some (.invokevirtual 130), none, none, some (.ifCond .ne 5), none, none, some (.iconst 0), some (.ireturn), some (.aload_n 0), some (.bipush 32), none, some (.invokevirtual 134), none, none, some (.ifCond .eq 12)],
  [none, none, some (.aload_n 0), some (.invokevirtual 130), none, none, some (.ifCond .ne (-13)), none, none, some (.iconst 0), some (.ireturn), some (.iconst 1), some (.ireturn)]]
theorem q_code180_ok : q_dec prog_14_method_15_code q_code180 := q_chk_ok (by decide +kernel)
def q_code181 : List (List (Option Instr)) := [[some (.aload_n 0), some (.invokevirtual 130), none, none, some (.ifCond .eq 23), none, none, some (.aload_n 0), some (.bipush 47), none, some (.invokevirtual 134), none, none, some (.ifCond .eq 14), none, none],
  [some (.aload_n 0), some (.invokevirtual 130), none, none, some (.ifCond .eq 7), none, none, some (.iconst 1), some (.goto 4), none, none, some (.iconst 0), some (.ireturn)]]
theorem q_code181_ok : q_dec prog_14_method_16_code q_code181 := q_chk_ok (by decide +kernel)
def q_code182 : List (List (Option Instr)) := [[some (.aload_n 0), some (.bipush 91), none, some (.invokevirtual 134), none, none, some (.ifCond .eq 27), none, none, some (.aload_n 0), some (.invokevirtual 138), none, none, some (.ifCond .eq 16), none, none],
  [some (.aload_n 0), some (.bipush 93), none, some (.invokevirtual 134), none, none, some (.ifCond .eq 7), none, none, some (.iconst 1), some (.goto 11), none, none, some (.iconst 0), some (.goto 7), none],
  [none, some (.aload_n 0), some (.invokevirtual 130), none, none, some (.ireturn)]]
theorem q_code182_ok : q_dec prog_14_method_17_code q_code182 := q_chk_ok (by decide +kernel)
def q_code183 : List (List (Option Instr)) := [[some (.aload_n 0), some (.invokevirtual 119), none, none, some (.istore_n 1), some (.iload_n 1), some (.bipush 99), none, some (.if_icmp .eq 23), none, none, some (.iload_n 1), some (.bipush 114), none, some (.if_icmp .eq 17), none],
  [none, some (.iload_n 1), some (.bipush 102), none, some (.if_icmp .eq 11), none, none, some (.iload_n 1), some (.bipush 98), none, some (.if_icmp .eq 5), none, none, some (.iconst 0), some (.ireturn), some (.aload_n 0)],
  [some (.dup), some (.getfield 110), none, none, some (.iconst 1), some (.iadd), some (.putfield 110), none, none, some (.iload_n 1), some (.bipush 99), none, some (.if_icmp .ne 30), none, none, some (.aload_n 0)],
  [some (.invokevirtual 141), none, none, some (.ifCond .ne 5), none, none, some (.iconst 0), some (.ireturn), some (.aload_n 0), some (.bipush 32), none, some (.invokevirtual 134), none, none, some (.ifCond .eq 70), none],
  [none, some (.aload_n 0), some (.invokevirtual 141), none, none, some (.ifCond .ne (-13)), none, none, some (.iconst 0), some (.ireturn), some (.iload_n 1), some (.bipush 114), none, some (.if_icmp .ne 30), none, none],
  [some (.aload_n 0), some (.invokevirtual 144), none, none, some (.ifCond .ne 5), none, none, some (.iconst 0), some (.ireturn), some (.aload_n 0), some (.bipush 32), none, some (.invokevirtual 134), none, none, some (.ifCond .eq 37)],
  [none, none, some (.aload_n 0), some (.invokevirtual 144), none, none, some (.ifCond .ne (-13)), none, none, some (.iconst 0), some (.ireturn), some (.iload_n 1), some (.bipush 102), none, some (.if_icmp .ne 13), none],
  [none, some (.aload_n 0), some (.invokevirtual 138), none, none, some (.ifCond .ne 15), none, none, some (.goto 10), none, none, some (.aload_n 0), some (.invokevirtual 130), none, none, some (.ifCond .ne 5)],
  [none, none, some (.iconst 0), some (.ireturn), some (.aload_n 0), some (.bipush 59), none, some (.invokevirtual 134), none, none, some (.ireturn)]]
theorem q_code183_ok : q_dec prog_14_method_18_code q_code183 := q_chk_ok (by decide +kernel)
def q_code184 : List (List (Option Instr)) := [[some (.iconst 0), some (.istore_n 2), some (.iconst 1), some (.istore_n 3), some (.aload_n 0), some (.dup), some (.getfield 110), none, none, some (.iconst 1), some (.iadd), some (.putfield 110), none, none, some (.iload_n 3), some (.ifCond .eq 13)],
  [none, none, some (.iload_n 2), some (.bipush 6), none, some (.if_icmp .ge 7), none, none, some (.iconst 1), some (.goto 4), none, none, some (.iconst 0), some (.istore_n 3), some (.aload_n 0), some (.invokevirtual 130)],
  [none, none, some (.istore 4), none, some (.aload_n 0), some (.getfield 127), none, none, some (.istore 5), none, some (.aload_n 0), some (.dup), some (.getfield 110), none, none, some (.iconst 1)],
  [some (.iadd), some (.putfield 110), none, none, some (.aload_n 0), some (.invokevirtual 130), none, none, some (.istore 4), none, some (.iload_n 3), some (.ifCond .ne 6), none, none, some (.goto 39), none],
  [none, some (.aload_n 0), some (.getfield 9), none, none, some (.bipush 28), none, some (.iload_n 1), some (.imul), some (.iconst 3), some (.iadd), some (.iload_n 2), some (.iadd), some (.iload 5), none, some (.iastore)],
  [some (.aload_n 0), some (.getfield 9), none, none, some (.bipush 28), none, some (.iload_n 1), some (.imul), some (.bipush 9), none, some (.iadd), some (.iload_n 2), some (.iadd), some (.aload_n 0), some (.getfield 127), none],
  [none, some (.iastore), some (.iinc 2 1), none, none, some (.aload_n 0), some (.invokevirtual 119), none, none, some (.bipush 32), none, some (.if_icmp .eq (-103)), none, none, some (.aload_n 0), some (.getfield 9)],
  [none, none, some (.bipush 28), none, some (.iload_n 1), some (.imul), some (.iconst 2), some (.iadd), some (.iload_n 2), some (.iastore), some (.iload_n 3), some (.ifCond .eq 56), none, none, some (.iload_n 2), some (.iconst 1)],
  [some (.if_icmp .le 51), none, none, some (.aload_n 0), some (.iload_n 1), some (.iconst 0), some (.invokevirtual 106), none, none, some (.ifCond .ne 42), none, none, some (.aload_n 0), some (.getfield 9), none, none],
  [some (.bipush 28), none, some (.iload_n 1), some (.imul), some (.bipush 8), none, some (.iadd), some (.iload_n 2), some (.iadd), some (.iaload), some (.ifCond .ne 25), none, none, some (.aload_n 0), some (.getfield 9), none],
  [none, some (.bipush 28), none, some (.iload_n 1), some (.imul), some (.iconst 2), some (.iadd), some (.iload_n 2), some (.iadd), some (.iaload), some (.bipush 60), none, some (.if_icmp .gt 7), none, none, some (.iconst 1)],
  [some (.goto 4), none, none, some (.iconst 0), some (.istore_n 3), some (.iconst 1), some (.istore 4), none, some (.iload 4), none, some (.iload_n 2), some (.if_icmp .ge 71), none, none, some (.iload_n 3), some (.ifCond .eq 59)],
  [none, none, some (.aload_n 0), some (.iload_n 1), some (.iload 4), none, some (.invokevirtual 106), none, none, some (.aload_n 0), some (.iload_n 1), some (.iload 4), none, some (.iconst 1), some (.isub), some (.invokevirtual 106)],
  [none, none, some (.if_icmp .le 40), none, none, some (.aload_n 0), some (.getfield 9), none, none, some (.bipush 28), none, some (.iload_n 1), some (.imul), some (.bipush 9), none, some (.iadd)],
  [some (.iload 4), none, some (.iadd), some (.iaload), some (.aload_n 0), some (.getfield 9), none, none, some (.bipush 28), none, some (.iload_n 1), some (.imul), some (.bipush 8), none, some (.iadd), some (.iload 4)],
  [none, some (.iadd), some (.iaload), some (.if_icmp .ge 7), none, none, some (.iconst 1), some (.goto 4), none, none, some (.iconst 0), some (.istore_n 3), some (.iinc 4 1), none, none, some (.goto (-71))],
  [none, none, some (.iload_n 3), some (.ireturn)]]
theorem q_code184_ok : q_dec prog_14_method_19_code q_code184 := q_chk_ok (by decide +kernel)
def q_code185 : List (List (Option Instr)) := [[some (.iload_n 1), some (.iload_n 2), some (.if_icmp .ge 34), none, none, some (.iload_n 3), some (.aload_n 0), some (.iload_n 1), some (.invokevirtual 99), none, none, some (.ishr), some (.iconst 1), some (.iand), some (.iconst 1), some (.if_icmp .ne 21)],
  [none, none, some (.aload_n 0), some (.getfield 9), none, none, some (.bipush 28), none, some (.iload_n 1), some (.imul), some (.iconst 1), some (.iadd), some (.iaload), some (.ifCond .ne 7), none, none],
  [some (.iconst 1), some (.goto 4), none, none, some (.iconst 0), some (.ireturn)]]
theorem q_code185_ok : q_dec prog_14_method_20_code q_code185 := q_chk_ok (by decide +kernel)
def q_code186 : List (List (Option Instr)) := [[some (.iconst 0), some (.istore_n 2), some (.iconst 0), some (.istore_n 3), some (.iconst 1), some (.istore 4), none, some (.aload_n 0), some (.dup), some (.getfield 110), none, none, some (.iconst 1), some (.iadd), some (.putfield 110), none],
  [none, some (.aload_n 0), some (.bipush 91), none, some (.invokevirtual 134), none, none, some (.istore 5), none, some (.iconst 1), some (.istore 6), none, some (.iload 6), none, some (.ifCond .eq 121), none],
  [none, some (.aload_n 0), some (.invokevirtual 130), none, none, some (.istore 7), none, some (.iload 4), none, some (.ifCond .eq 26), none, none, some (.iload_n 2), some (.bipush 8), none, some (.if_icmp .ge 20)],
  [none, none, some (.aload_n 0), some (.aload_n 0), some (.getfield 127), none, none, some (.iload_n 1), some (.iconst 1), some (.invokevirtual 147), none, none, some (.ifCond .eq 7), none, none, some (.iconst 1)],
  [some (.goto 4), none, none, some (.iconst 0), some (.istore 4), none, some (.iload 4), none, some (.ifCond .eq 55), none, none, some (.aload_n 0), some (.getfield 9), none, none, some (.bipush 28)],
  [none, some (.iload_n 1), some (.imul), some (.iconst 3), some (.iadd), some (.iload_n 2), some (.iadd), some (.aload_n 0), some (.getfield 127), none, none, some (.iastore), some (.aload_n 0), some (.getfield 9), none, none],
  [some (.bipush 28), none, some (.iload_n 1), some (.imul), some (.bipush 11), none, some (.iadd), some (.iload_n 2), some (.iadd), some (.iload_n 3), some (.iastore), some (.aload_n 0), some (.getfield 9), none, none, some (.bipush 28)],
  [none, some (.aload_n 0), some (.getfield 127), none, none, some (.imul), some (.iconst 1), some (.iadd), some (.iload_n 1), some (.iconst 1), some (.iadd), some (.iastore), some (.iinc 2 1), none, none, some (.iload 5)],
  [none, some (.ifCond .eq 16), none, none, some (.aload_n 0), some (.bipush 32), none, some (.invokevirtual 134), none, none, some (.ifCond .eq 7), none, none, some (.iconst 1), some (.goto 4), none],
  [none, some (.iconst 0), some (.istore 6), none, some (.goto (-120)), none, none, some (.iload 5), none, some (.ifCond .eq 13), none, none, some (.aload_n 0), some (.dup), some (.getfield 110), none],
  [none, some (.iconst 1), some (.iadd), some (.putfield 110), none, none, some (.iload 4), none, some (.ifCond .eq 27), none, none, some (.aload_n 0), some (.getfield 9), none, none, some (.bipush 28)],
  [none, some (.iload_n 1), some (.imul), some (.bipush 20), none, some (.iadd), some (.iload_n 3), some (.iadd), some (.iload 5), none, some (.ifCond .eq 7), none, none, some (.iconst 1), some (.goto 4), none],
  [none, some (.iconst 0), some (.iastore), some (.iinc 3 1), none, none, some (.aload_n 0), some (.invokevirtual 119), none, none, some (.bipush 32), none, some (.if_icmp .eq (-197)), none, none, some (.aload_n 0)],
  [some (.getfield 9), none, none, some (.bipush 28), none, some (.iload_n 1), some (.imul), some (.iconst 2), some (.iadd), some (.iload_n 2), some (.iastore), some (.aload_n 0), some (.getfield 9), none, none, some (.bipush 28)],
  [none, some (.iload_n 1), some (.imul), some (.bipush 19), none, some (.iadd), some (.iload_n 3), some (.bipush 8), none, some (.invokestatic 151), none, none, some (.iastore), some (.iload 4), none, some (.ireturn)]]
theorem q_code186_ok : q_dec prog_14_method_21_code q_code186 := q_chk_ok (by decide +kernel)
def q_code187 : List (List (Option Instr)) := [[some (.iconst 0), some (.istore 4), none, some (.iconst 1), some (.istore 5), none, some (.aload_n 0), some (.dup), some (.getfield 110), none, none, some (.iconst 1), some (.iadd), some (.putfield 110), none, none],
  [some (.aload_n 0), some (.invokevirtual 130), none, none, some (.istore 6), none, some (.iload 5), none, some (.ifCond .eq 26), none, none, some (.iload 4), none, some (.iload_n 2), some (.if_icmp .ge 20), none],
  [none, some (.aload_n 0), some (.aload_n 0), some (.getfield 127), none, none, some (.iload_n 1), some (.iload_n 3), some (.invokevirtual 147), none, none, some (.ifCond .eq 7), none, none, some (.iconst 1), some (.goto 4)],
  [none, none, some (.iconst 0), some (.istore 5), none, some (.iload 5), none, some (.ifCond .ne 6), none, none, some (.goto 41), none, none, some (.aload_n 0), some (.getfield 9), none],
  [none, some (.bipush 28), none, some (.iload_n 1), some (.imul), some (.iconst 3), some (.iadd), some (.iload 4), none, some (.iadd), some (.aload_n 0), some (.getfield 127), none, none, some (.iastore), some (.aload_n 0)],
  [some (.getfield 9), none, none, some (.bipush 28), none, some (.aload_n 0), some (.getfield 127), none, none, some (.imul), some (.iconst 1), some (.iadd), some (.iload_n 1), some (.iconst 1), some (.iadd), some (.iastore)],
  [some (.iinc 4 1), none, none, some (.aload_n 0), some (.invokevirtual 119), none, none, some (.bipush 32), none, some (.if_icmp .eq (-99)), none, none, some (.aload_n 0), some (.getfield 9), none, none],
  [some (.bipush 28), none, some (.iload_n 1), some (.imul), some (.iconst 2), some (.iadd), some (.iload 4), none, some (.iastore), some (.iload 5), none, some (.ireturn)]]
theorem q_code187_ok : q_dec prog_14_method_22_code q_code187 := q_chk_ok (by decide +kernel)
def q_code188 : List (List (Option Instr)) := [[some (.aload_n 0), some (.getfield 9), none, none, some (.sipush 1198), none, none, some (.iaload), some (.istore_n 1), some (.iload_n 1), some (.bipush 40), none, some (.if_icmp .ne 5), none, none, some (.iconst 0)],
  [some (.ireturn), some (.iconst 0), some (.istore_n 2), some (.iload_n 2), some (.bipush 28), none, some (.if_icmp .ge 21), none, none, some (.aload_n 0), some (.getfield 9), none, none, some (.bipush 28), none, some (.iload_n 1)],
  [some (.imul), some (.iload_n 2), some (.iadd), some (.iconst 0), some (.iastore), some (.iinc 2 1), none, none, some (.goto (-21)), none, none, some (.aload_n 0), some (.invokevirtual 119), none, none, some (.istore_n 2)],
  [some (.iload_n 2), some (.bipush 99), none, some (.if_icmp .ne 7), none, none, some (.iconst 0), some (.goto 24), none, none, some (.iload_n 2), some (.bipush 114), none, some (.if_icmp .ne 7), none, none],
  [some (.iconst 1), some (.goto 14), none, none, some (.iload_n 2), some (.bipush 102), none, some (.if_icmp .ne 7), none, none, some (.iconst 2), some (.goto 4), none, none, some (.iconst 3), some (.istore_n 3)],
  [some (.aload_n 0), some (.getfield 9), none, none, some (.bipush 28), none, some (.iload_n 1), some (.imul), some (.iload_n 3), some (.iastore), some (.iload_n 3), some (.ifCond .ne 11), none, none, some (.aload_n 0), some (.iload_n 1)],
  [some (.invokevirtual 154), none, none, some (.goto 40), none, none, some (.iload_n 3), some (.iconst 1), some (.if_icmp .ne 11), none, none, some (.aload_n 0), some (.iload_n 1), some (.invokevirtual 157), none, none],
  [some (.goto 27), none, none, some (.iload_n 3), some (.iconst 2), some (.if_icmp .ne 14), none, none, some (.aload_n 0), some (.iload_n 1), some (.bipush 6), none, some (.iconst 3), some (.invokevirtual 160), none, none],
  [some (.goto 11), none, none, some (.aload_n 0), some (.iload_n 1), some (.iconst 1), some (.bipush 7), none, some (.invokevirtual 160), none, none, some (.istore 4), none, some (.iload_n 3), some (.ifCond .ne 17), none],
  [none, some (.aload_n 0), some (.getfield 9), none, none, some (.bipush 28), none, some (.iload_n 1), some (.imul), some (.bipush 15), none, some (.iadd), some (.bipush 100), none, some (.iastore), some (.iload_n 3)],
  [some (.iconst 3), some (.if_icmp .ne 28), none, none, some (.aload_n 0), some (.getfield 9), none, none, some (.bipush 28), none, some (.iload_n 1), some (.imul), some (.iconst 5), some (.iadd), some (.iconst 5), some (.iastore)],
  [some (.aload_n 0), some (.getfield 9), none, none, some (.bipush 28), none, some (.iload_n 1), some (.imul), some (.bipush 6), none, some (.iadd), some (.iconst 1), some (.iastore), some (.aload_n 0), some (.dup), some (.getfield 110)],
  [none, none, some (.iconst 1), some (.iadd), some (.putfield 110), none, none, some (.aload_n 0), some (.getfield 9), none, none, some (.sipush 1198), none, none, some (.dup2), some (.iaload)],
  [some (.iconst 1), some (.iadd), some (.iastore), some (.iload 4), none, some (.ireturn)]]
theorem q_code188_ok : q_dec prog_14_method_23_code q_code188 := q_chk_ok (by decide +kernel)
def q_code189 : List (List (Option Instr)) := [[some (.iload_n 1), some (.invokestatic 163), none, none, some (.ifCond .ne 7), none, none, some (.iconst (-1)), some (.goto 47), none, none, some (.aload_n 0), some (.getfield 16), none, none, some (.iload_n 1)],
  [some (.iaload), some (.ifCond .ne 8), none, none, some (.bipush (-11)), none, some (.goto 33), none, none, some (.aload_n 0), some (.getfield 16), none, none, some (.iload_n 1), some (.iaload), some (.iconst 2)],
  [some (.if_icmp .ne 17), none, none, some (.iload_n 2), some (.ifCond .lt 18), none, none, some (.aload_n 0), some (.getfield 19), none, none, some (.iload_n 1), some (.iaload), some (.iload_n 2), some (.if_icmp .eq 8), none],
  [none, some (.bipush (-12)), none, some (.goto 4), none, none, some (.iconst 0), some (.ireturn)]]
theorem q_code189_ok : q_dec prog_14_method_24_code q_code189 := q_chk_ok (by decide +kernel)
def q_code190 : List (List (Option Instr)) := [[some (.aload_n 0), some (.iload_n 1), some (.iconst 0), some (.invokevirtual 166), none, none, some (.istore_n 2), some (.iload_n 2), some (.ifCond .eq 5), none, none, some (.iload_n 2), some (.ireturn), some (.aload_n 0), some (.bipush 120), none],
  [some (.iload_n 1), some (.imul), some (.putfield 116), none, none, some (.aload_n 0), some (.aload_n 0), some (.getfield 22), none, none, some (.iload_n 1), some (.iaload), some (.putfield 113), none, none, some (.aload_n 0)],
  [some (.iconst 0), some (.putfield 110), none, none, some (.aload_n 0), some (.invokevirtual 169), none, none, some (.ifCond .ne 12), none, none, some (.sipush (-1000)), none, none, some (.aload_n 0), some (.getfield 110)],
  [none, none, some (.isub), some (.ireturn), some (.aload_n 0), some (.getfield 110), none, none, some (.aload_n 0), some (.getfield 113), none, none, some (.if_icmp .lt (-24)), none, none, some (.iconst 0)],
  [some (.istore_n 3), some (.iload_n 3), some (.sipush 1330), none, none, some (.if_icmp .ge 21), none, none, some (.aload_n 0), some (.getfield 43), none, none, some (.iload_n 3), some (.aload_n 0), some (.getfield 9), none],
  [none, some (.iload_n 3), some (.iaload), some (.iastore), some (.iinc 3 1), none, none, some (.goto (-22)), none, none, some (.aload_n 0), some (.iconst 0), some (.putfield 110), none, none, some (.aload_n 0)],
  [some (.getfield 110), none, none, some (.aload_n 0), some (.getfield 113), none, none, some (.if_icmp .ge 55), none, none, some (.aload_n 0), some (.getfield 110), none, none, some (.istore_n 3), some (.aload_n 0)],
  [some (.invokevirtual 172), none, none, some (.ifCond .eq 6), none, none, some (.goto (-23)), none, none, some (.iconst 0), some (.istore 4), none, some (.iload 4), none, some (.sipush 1330), none],
  [none, some (.if_icmp .ge 23), none, none, some (.aload_n 0), some (.getfield 9), none, none, some (.iload 4), none, some (.aload_n 0), some (.getfield 43), none, none, some (.iload 4), none],
  [some (.iaload), some (.iastore), some (.iinc 4 1), none, none, some (.goto (-25)), none, none, some (.sipush (-2000)), none, none, some (.iload_n 3), some (.isub), some (.ireturn), some (.aload_n 0), some (.getfield 9)],
  [none, none, some (.sipush 1198), none, none, some (.iaload), some (.aload_n 0), some (.getfield 43), none, none, some (.sipush 1198), none, none, some (.iaload), some (.isub), some (.ireturn)]]
theorem q_code190_ok : q_dec prog_14_method_25_code q_code190 := q_chk_ok (by decide +kernel)
def q_code191 : List (List (Option Instr)) := [[some (.aload_n 0), some (.iload_n 1), some (.invokevirtual 175), none, none, some (.ifCond .eq 15), none, none, some (.iload_n 2), some (.i2l), some (.lconst 0), some (.ldc2_w 178), none, none, some (.invokestatic 83), none],
  [none, some (.ifCond .ne 5), none, none, some (.iconst (-1)), some (.ireturn), some (.aload_n 0), some (.iload_n 1), some (.invokevirtual 180), none, none, some (.iload_n 2), some (.tableswitch 78 0 3 #[32, 38, 43, 48]), none, none, none],
  [none, none, none, none, none, none, none, none, none, none, none, none, none, none, none, none],
  [none, none, none, none, none, none, none, none, none, none, none, none, some (.aload_n 0), some (.iload_n 1), some (.invokevirtual 99), none],
  [none, some (.ireturn), some (.aload_n 0), some (.getfield 89), none, none, some (.ireturn), some (.aload_n 0), some (.getfield 92), none, none, some (.ireturn), some (.aload_n 0), some (.iload_n 1), some (.invokevirtual 99), none],
  [none, some (.iconst 1), some (.if_icmp .ne 18), none, none, some (.aload_n 0), some (.getfield 9), none, none, some (.bipush 28), none, some (.iload_n 1), some (.imul), some (.bipush 19), none, some (.iadd)],
  [some (.iaload), some (.goto 8), none, none, some (.aload_n 0), some (.iload_n 1), some (.invokevirtual 103), none, none, some (.ireturn), some (.aload_n 0), some (.getfield 9), none, none, some (.bipush 28), none],
  [some (.iload_n 1), some (.imul), some (.iconst 1), some (.iadd), some (.iaload), some (.ifCond .ne 8), none, none, some (.bipush (-4)), none, some (.goto 16), none, none, some (.aload_n 0), some (.getfield 9), none],
  [none, some (.bipush 28), none, some (.iload_n 1), some (.imul), some (.iconst 1), some (.iadd), some (.iaload), some (.iconst 1), some (.isub), some (.ireturn)]]
theorem q_code191_ok : q_dec prog_14_method_26_code q_code191 := q_chk_ok (by decide +kernel)
def q_code192 : List (List (Option Instr)) := [[some (.bipush 28), none, some (.iload_n 1), some (.imul), some (.bipush 15), none, some (.iadd), some (.istore_n 2), some (.aload_n 0), some (.getfield 9), none, none, some (.iload_n 2), some (.iconst 4), some (.iadd), some (.iaload)],
  [some (.iconst 1), some (.if_icmp .eq 11), none, none, some (.aload_n 0), some (.getfield 50), none, none, some (.iload_n 1), some (.if_icmp .ne 5), none, none, some (.iconst 0), some (.ireturn), some (.aload_n 0), some (.getfield 183)],
  [none, none, some (.iconst 1), some (.iand), some (.iconst 1), some (.if_icmp .ne 8), none, none, some (.bipush 100), none, some (.goto 36), none, none, some (.aload_n 0), some (.getfield 46), none],
  [none, some (.ifCond .lt 23), none, none, some (.aload_n 0), some (.iload_n 1), some (.aload_n 0), some (.getfield 46), none, none, some (.invokevirtual 186), none, none, some (.aload_n 0), some (.getfield 189), none],
  [none, some (.imul), some (.bipush 100), none, some (.idiv), some (.goto 9), none, none, some (.aload_n 0), some (.getfield 9), none, none, some (.iload_n 2), some (.iaload), some (.istore_n 3), some (.aload_n 0)],
  [some (.getfield 183), none, none, some (.iconst 2), some (.iand), some (.iconst 2), some (.if_icmp .ne 7), none, none, some (.iconst 0), some (.goto 11), none, none, some (.aload_n 0), some (.getfield 9), none],
  [none, some (.iload_n 2), some (.iconst 1), some (.iadd), some (.iaload), some (.istore 4), none, some (.aload_n 0), some (.getfield 183), none, none, some (.iconst 4), some (.iand), some (.iconst 4), some (.if_icmp .ne 7), none],
  [none, some (.iconst 0), some (.goto 11), none, none, some (.aload_n 0), some (.getfield 9), none, none, some (.iload_n 2), some (.iconst 2), some (.iadd), some (.iaload), some (.istore 5), none, some (.iload_n 3)],
  [some (.bipush 100), none, some (.iload 4), none, some (.isub), some (.imul), some (.bipush 100), none, some (.iload 5), none, some (.isub), some (.imul), some (.sipush 10000), none, none, some (.idiv)],
  [some (.ireturn)]]
theorem q_code192_ok : q_dec prog_14_method_27_code q_code192 := q_chk_ok (by decide +kernel)
def q_code193 : List (List (Option Instr)) := [[some (.aload_n 0), some (.iload_n 1), some (.iload_n 2), some (.invokevirtual 106), none, none, some (.istore_n 3), some (.iload_n 3), some (.iload_n 3), some (.aload_n 0), some (.getfield 183), none, none, some (.bipush 8), none, some (.iand)],
  [some (.bipush 8), none, some (.if_icmp .ne 7), none, none, some (.iconst 0), some (.goto 17), none, none, some (.aload_n 0), some (.getfield 9), none, none, some (.bipush 28), none, some (.iload_n 1)],
  [some (.imul), some (.bipush 15), none, some (.iadd), some (.iconst 3), some (.iadd), some (.iaload), some (.imul), some (.bipush 100), none, some (.idiv), some (.isub), some (.ireturn)]]
theorem q_code193_ok : q_dec prog_14_method_28_code q_code193 := q_chk_ok (by decide +kernel)
def q_code194 : List (List (Option Instr)) := [[some (.aload_n 0), some (.getfield 9), none, none, some (.bipush 28), none, some (.iload_n 1), some (.imul), some (.bipush 9), none, some (.iadd), some (.iload_n 2), some (.iadd), some (.iaload), some (.iload_n 3), some (.imul)],
  [some (.bipush 100), none, some (.idiv), some (.ireturn)]]
theorem q_code194_ok : q_dec prog_14_method_29_code q_code194 := q_chk_ok (by decide +kernel)
def q_code195 : List (List (Option Instr)) := [[some (.aload_n 0), some (.iload_n 1), some (.invokevirtual 175), none, none, some (.ifCond .eq 13), none, none, some (.iload_n 3), some (.i2l), some (.lconst 0), some (.lconst 1), some (.invokestatic 83), none, none, some (.ifCond .ne 5)],
  [none, none, some (.iconst (-1)), some (.ireturn), some (.aload_n 0), some (.iload_n 1), some (.invokevirtual 99), none, none, some (.ifCond .eq 6), none, none, some (.bipush (-3)), none, some (.ireturn), some (.iload_n 2)],
  [some (.i2l), some (.lconst 0), some (.aload_n 0), some (.iload_n 1), some (.invokevirtual 103), none, none, some (.iconst 1), some (.isub), some (.i2l), some (.invokestatic 83), none, none, some (.ifCond .ne 5), none, none],
  [some (.iconst (-1)), some (.ireturn), some (.iload_n 3), some (.ifCond .ne 12), none, none, some (.aload_n 0), some (.iload_n 1), some (.iload_n 2), some (.invokevirtual 192), none, none, some (.goto 14), none, none, some (.aload_n 0)],
  [some (.iload_n 1), some (.iload_n 2), some (.aload_n 0), some (.iload_n 1), some (.invokevirtual 195), none, none, some (.invokevirtual 198), none, none, some (.ireturn)]]
theorem q_code195_ok : q_dec prog_14_method_30_code q_code195 := q_chk_ok (by decide +kernel)
def q_code196 : List (List (Option Instr)) := [[some (.aload_n 0), some (.iload_n 1), some (.invokevirtual 175), none, none, some (.ifCond .eq 48), none, none, some (.iload_n 2), some (.i2l), some (.lconst 0), some (.ldc2_w 202), none, none, some (.invokestatic 83), none],
  [none, some (.ifCond .eq 36), none, none, some (.iload_n 3), some (.i2l), some (.lconst 0), some (.iload_n 2), some (.ifCond .ne 9), none, none, some (.ldc2_w 204), none, none, some (.goto 17), none],
  [none, some (.iload_n 2), some (.iconst 3), some (.if_icmp .ne 9), none, none, some (.ldc2_w 206), none, none, some (.goto 6), none, none, some (.ldc2_w 208), none, none, some (.invokestatic 83)],
  [none, none, some (.ifCond .ne 5), none, none, some (.iconst (-1)), some (.ireturn), some (.aload_n 0), some (.iload_n 1), some (.invokevirtual 99), none, none, some (.ifCond .eq 6), none, none, some (.bipush (-3))],
  [none, some (.ireturn), some (.aload_n 0), some (.getfield 9), none, none, some (.bipush 28), none, some (.iload_n 1), some (.imul), some (.bipush 15), none, some (.iadd), some (.iload_n 2), some (.iadd), some (.iaload)],
  [some (.istore 4), none, some (.aload_n 0), some (.getfield 9), none, none, some (.bipush 28), none, some (.iload_n 1), some (.imul), some (.bipush 15), none, some (.iadd), some (.iload_n 2), some (.iadd), some (.iload_n 3)],
  [some (.iastore), some (.iload 4), none, some (.ireturn)]]
theorem q_code196_ok : q_dec prog_14_method_31_code q_code196 := q_chk_ok (by decide +kernel)
def q_code197 : List (List (Option Instr)) := [[some (.aload_n 0), some (.iload_n 1), some (.invokevirtual 175), none, none, some (.ifCond .ne 5), none, none, some (.iconst (-1)), some (.ireturn), some (.aload_n 0), some (.iload_n 1), some (.invokevirtual 99), none, none, some (.ifCond .eq 6)],
  [none, none, some (.bipush (-3)), none, some (.ireturn), some (.aload_n 0), some (.getfield 9), none, none, some (.bipush 28), none, some (.iload_n 1), some (.imul), some (.bipush 19), none, some (.iadd)],
  [some (.iaload), some (.iconst 1), some (.if_icmp .ne 7), none, none, some (.iconst 1), some (.goto 4), none, none, some (.iconst 0), some (.istore_n 3), some (.aload_n 0), some (.getfield 9), none, none, some (.bipush 28)],
  [none, some (.iload_n 1), some (.imul), some (.bipush 19), none, some (.iadd), some (.iload_n 2), some (.ifCond .eq 7), none, none, some (.iconst 1), some (.goto 4), none, none, some (.iconst 0), some (.iastore)],
  [some (.iload_n 3), some (.iload_n 2), some (.if_icmp .ne 7), none, none, some (.iconst 0), some (.goto 4), none, none, some (.iconst 1), some (.ireturn)]]
theorem q_code197_ok : q_dec prog_14_method_32_code q_code197 := q_chk_ok (by decide +kernel)
def q_code198 : List (List (Option Instr)) := [[some (.aload_n 0), some (.iload_n 1), some (.iconst 0), some (.iload_n 3), some (.invokevirtual 198), none, none, some (.istore 4), none, some (.iload_n 2), some (.iload 4), none, some (.if_icmp .le 25), none, none, some (.iload_n 2)],
  [some (.iload 4), none, some (.isub), some (.bipush 10), none, some (.if_icmp .le 8), none, none, some (.bipush (-20)), none, some (.goto 10), none, none, some (.bipush (-2)), none, some (.iload_n 2)],
  [some (.iload 4), none, some (.isub), some (.imul), some (.ireturn), some (.aload_n 0), some (.iload_n 1), some (.invokevirtual 103), none, none, some (.iconst 1), some (.isub), some (.istore 5), none, some (.iload 5), none],
  [some (.ifCond .le 94), none, none, some (.aload_n 0), some (.iload_n 1), some (.iload 5), none, some (.iload_n 3), some (.invokevirtual 198), none, none, some (.istore 6), none, some (.aload_n 0), some (.iload_n 1), some (.iload 5)],
  [none, some (.iconst 1), some (.isub), some (.iload_n 3), some (.invokevirtual 198), none, none, some (.istore 7), none, some (.iload_n 2), some (.iload 6), none, some (.if_icmp .lt 60), none, none, some (.iload_n 2)],
  [some (.iload 7), none, some (.if_icmp .le 6), none, none, some (.goto 51), none, none, some (.aload_n 0), some (.iload_n 1), some (.iload 5), none, some (.invokevirtual 192), none, none, some (.istore 8)],
  [none, some (.iload 7), none, some (.iload 6), none, some (.if_icmp .ne 8), none, none, some (.iload 8), none, some (.goto 29), none, none, some (.iload 8), none, some (.iload 8)],
  [none, some (.aload_n 0), some (.iload_n 1), some (.iload 5), none, some (.iconst 1), some (.isub), some (.invokevirtual 192), none, none, some (.isub), some (.iload_n 2), some (.iload 6), none, some (.isub), some (.imul)],
  [some (.iload 7), none, some (.iload 6), none, some (.isub), some (.idiv), some (.isub), some (.ireturn), some (.iinc 5 (-1)), none, none, some (.goto (-93)), none, none, some (.iconst 0), some (.ireturn)]]
theorem q_code198_ok : q_dec prog_14_method_33_code q_code198 := q_chk_ok (by decide +kernel)
def q_code199 : List (List (Option Instr)) := [[some (.iconst 0), some (.istore 4), none, some (.iconst 0), some (.istore 5), none, some (.iload 5), none, some (.aload_n 0), some (.iload_n 1), some (.invokevirtual 103), none, none, some (.if_icmp .ge 60), none, none],
  [some (.iload 4), none, some (.aload_n 0), some (.getfield 9), none, none, some (.bipush 28), none, some (.iload_n 1), some (.imul), some (.bipush 11), none, some (.iadd), some (.iload 5), none, some (.iadd)],
  [some (.iaload), some (.iload_n 2), some (.if_icmp .ne 29), none, none, some (.aload_n 0), some (.aload_n 0), some (.iload_n 1), some (.iload 5), none, some (.invokevirtual 106), none, none, some (.iload_n 3), some (.aload_n 0), some (.aload_n 0)],
  [some (.iload_n 1), some (.iload 5), none, some (.invokevirtual 106), none, none, some (.invokevirtual 195), none, none, some (.invokevirtual 210), none, none, some (.goto 4), none, none, some (.iconst 0)],
  [some (.iadd), some (.istore 4), none, some (.iinc 5 1), none, none, some (.goto (-64)), none, none, some (.iload 4), none, some (.ireturn)]]
theorem q_code199_ok : q_dec prog_14_method_34_code q_code199 := q_chk_ok (by decide +kernel)
def q_code200 : List (List (Option Instr)) := [[some (.aload_n 0), some (.getfield 9), none, none, some (.bipush 28), none, some (.iload_n 1), some (.imul), some (.bipush 20), none, some (.iadd), some (.iload_n 2), some (.iadd), some (.iaload), some (.iconst 1), some (.if_icmp .ne 20)],
  [none, none, some (.aload_n 0), some (.getfield 53), none, none, some (.bipush 8), none, some (.iload_n 1), some (.imul), some (.iload_n 2), some (.iadd), some (.if_icmp .eq 7), none, none, some (.iconst 1)],
  [some (.goto 4), none, none, some (.iconst 0), some (.ireturn)]]
theorem q_code200_ok : q_dec prog_14_method_35_code q_code200 := q_chk_ok (by decide +kernel)
def q_code201 : List (List (Option Instr)) := [[some (.aload_n 0), some (.iload_n 1), some (.invokevirtual 99), none, none, some (.ifCond .ne 15), none, none, some (.aload_n 0), some (.iload_n 1), some (.iload_n 2), some (.aload_n 0), some (.iload_n 1), some (.invokevirtual 195), none, none],
  [some (.invokevirtual 210), none, none, some (.ireturn), some (.iconst 0), some (.istore_n 3), some (.iconst 0), some (.istore 4), none, some (.iload 4), none, some (.aload_n 0), some (.getfield 9), none, none, some (.bipush 28)],
  [none, some (.iload_n 1), some (.imul), some (.bipush 19), none, some (.iadd), some (.iaload), some (.if_icmp .ge 44), none, none, some (.aload_n 0), some (.iload_n 1), some (.iload 4), none, some (.iload_n 2), some (.invokevirtual 213)],
  [none, none, some (.istore 5), none, some (.iload_n 3), some (.aload_n 0), some (.iload_n 1), some (.iload 4), none, some (.invokevirtual 216), none, none, some (.ifCond .eq 13), none, none, some (.iload 5)],
  [none, some (.iconst (-1)), some (.if_icmp .ge 7), none, none, some (.iconst (-1)), some (.goto 5), none, none, some (.iload 5), none, some (.iadd), some (.istore_n 3), some (.iinc 4 1), none, none],
  [some (.goto (-55)), none, none, some (.iload_n 3), some (.ireturn)]]
theorem q_code201_ok : q_dec prog_14_method_36_code q_code201 := q_chk_ok (by decide +kernel)
def q_code202 : List (List (Option Instr)) := [[some (.aload_n 0), some (.iload_n 1), some (.invokevirtual 99), none, none, some (.iconst 3), some (.if_icmp .ne 15), none, none, some (.aload_n 0), some (.aload_n 0), some (.iload_n 1), some (.iconst 0), some (.invokevirtual 106), none, none],
  [some (.iload_n 2), some (.invokevirtual 220), none, none, some (.ireturn), some (.aload_n 0), some (.iload_n 1), some (.invokevirtual 99), none, none, some (.iconst 2), some (.if_icmp .ne 41), none, none, some (.iconst 0), some (.istore_n 3)],
  [some (.iconst 0), some (.istore 4), none, some (.iload 4), none, some (.aload_n 0), some (.iload_n 1), some (.invokevirtual 103), none, none, some (.if_icmp .ge 24), none, none, some (.iload_n 3), some (.aload_n 0), some (.aload_n 0)],
  [some (.iload_n 1), some (.iload 4), none, some (.invokevirtual 106), none, none, some (.iload_n 2), some (.invokevirtual 220), none, none, some (.iadd), some (.istore_n 3), some (.iinc 4 1), none, none, some (.goto (-28))],
  [none, none, some (.iload_n 3), some (.ireturn), some (.bipush 99), none, some (.istore_n 3), some (.iload_n 3), some (.ifCond .le 19), none, none, some (.aload_n 0), some (.iload_n 1), some (.iload_n 3), some (.invokevirtual 223), none],
  [none, some (.iload_n 2), some (.if_icmp .ge 9), none, none, some (.iinc 3 (-1)), none, none, some (.goto (-17)), none, none, some (.iload_n 3), some (.ireturn)]]
theorem q_code202_ok : q_dec prog_14_method_37_code q_code202 := q_chk_ok (by decide +kernel)
def q_code203 : List (List (Option Instr)) := [[some (.iconst 0), some (.istore_n 2), some (.iload_n 2), some (.sipush 1000), none, none, some (.if_icmp .ge 16), none, none, some (.aload_n 0), some (.getfield 56), none, none, some (.iload_n 2), some (.iconst 0), some (.iastore)],
  [some (.iinc 2 1), none, none, some (.goto (-17)), none, none, some (.aload_n 0), some (.iload_n 1), some (.invokevirtual 226), none, none, some (.return_)]]
theorem q_code203_ok : q_dec prog_14_method_38_code q_code203 := q_chk_ok (by decide +kernel)
def q_code204 : List (List (Option Instr)) := [[some (.aload_n 0), some (.iload_n 1), some (.invokevirtual 99), none, none, some (.iconst 3), some (.if_icmp .eq 12), none, none, some (.aload_n 0), some (.iload_n 1), some (.invokevirtual 99), none, none, some (.iconst 2), some (.if_icmp .ne 31)],
  [none, none, some (.iconst 0), some (.istore_n 2), some (.iload_n 2), some (.aload_n 0), some (.iload_n 1), some (.invokevirtual 103), none, none, some (.if_icmp .ge 19), none, none, some (.aload_n 0), some (.aload_n 0), some (.iload_n 1)],
  [some (.iload_n 2), some (.invokevirtual 106), none, none, some (.invokevirtual 226), none, none, some (.iinc 2 1), none, none, some (.goto (-22)), none, none, some (.return_), some (.iconst 0), some (.istore_n 2)],
  [some (.iload_n 2), some (.bipush 100), none, some (.if_icmp .ge 21), none, none, some (.aload_n 0), some (.getfield 59), none, none, some (.iload_n 2), some (.aload_n 0), some (.iload_n 1), some (.iload_n 2), some (.invokevirtual 223), none],
  [none, some (.iastore), some (.iinc 2 1), none, none, some (.goto (-21)), none, none, some (.aload_n 0), some (.invokevirtual 229), none, none, some (.return_)]]
theorem q_code204_ok : q_dec prog_14_method_39_code q_code204 := q_chk_ok (by decide +kernel)
def q_code205 : List (List (Option Instr)) := [[some (.bipush 99), none, some (.istore_n 1), some (.iconst 0), some (.istore_n 2), some (.iload_n 2), some (.sipush 1000), none, none, some (.if_icmp .ge 39), none, none, some (.iload_n 1), some (.ifCond .le 19), none, none],
  [some (.aload_n 0), some (.getfield 59), none, none, some (.iload_n 1), some (.iaload), some (.iload_n 2), some (.if_icmp .ge 9), none, none, some (.iinc 1 (-1)), none, none, some (.goto (-17)), none, none],
  [some (.aload_n 0), some (.getfield 56), none, none, some (.iload_n 2), some (.dup2), some (.iaload), some (.iload_n 1), some (.iadd), some (.iastore), some (.iinc 2 1), none, none, some (.goto (-40)), none, none],
  [some (.return_)]]
theorem q_code205_ok : q_dec prog_14_method_40_code q_code205 := q_chk_ok (by decide +kernel)
def q_code206 : List (List (Option Instr)) := [[some (.aload_n 0), some (.aload_n 0), some (.iload_n 1), some (.invokevirtual 175), none, none, some (.ifCond .eq 19), none, none, some (.iload_n 2), some (.i2l), some (.lconst 0), some (.ldc2_w 232), none, none, some (.invokestatic 83)],
  [none, none, some (.ifCond .eq 7), none, none, some (.iconst 0), some (.goto 4), none, none, some (.iconst 1), some (.putfield 80), none, none, some (.aload_n 0), some (.getfield 80), none],
  [none, some (.iconst 1), some (.if_icmp .ne 5), none, none, some (.lconst 0), some (.lreturn), some (.aload_n 0), some (.iload_n 1), some (.invokevirtual 99), none, none, some (.iconst 3), some (.if_icmp .ne 12), none, none],
  [some (.aload_n 0), some (.iload_n 1), some (.iconst 0), some (.invokevirtual 106), none, none, some (.goto 4), none, none, some (.iload_n 1), some (.istore_n 3), some (.aload_n 0), some (.iload_n 3), some (.invokevirtual 99), none, none],
  [some (.iconst 2), some (.if_icmp .eq 11), none, none, some (.aload_n 0), some (.iload_n 3), some (.iload_n 2), some (.invokevirtual 223), none, none, some (.i2l), some (.lreturn), some (.aload_n 0), some (.iload_n 3), some (.invokevirtual 234), none],
  [none, some (.sipush 999), none, none, some (.istore 4), none, some (.iload 4), none, some (.ifCond .lt 20), none, none, some (.aload_n 0), some (.getfield 56), none, none, some (.iload 4)],
  [none, some (.iaload), some (.iload_n 2), some (.if_icmp .ge 9), none, none, some (.iinc 4 (-1)), none, none, some (.goto (-19)), none, none, some (.iload 4), none, some (.i2l), some (.lreturn)]]
theorem q_code206_ok : q_dec prog_14_method_41_code q_code206 := q_chk_ok (by decide +kernel)
def q_code207 : List (List (Option Instr)) := [[some (.aload_n 0), some (.iload_n 1), some (.invokevirtual 175), none, none, some (.ifCond .eq 26), none, none, some (.iload_n 2), some (.i2l), some (.ldc2_w 237), none, none, some (.ldc2_w 232), none, none],
  [some (.invokestatic 83), none, none, some (.ifCond .eq 12), none, none, some (.aload_n 0), some (.iload_n 1), some (.iload_n 2), some (.invokevirtual 220), none, none, some (.goto 4), none, none, some (.iconst (-1))],
  [some (.ireturn)]]
theorem q_code207_ok : q_dec prog_14_method_42_code q_code207 := q_chk_ok (by decide +kernel)
def q_code208 : List (List (Option Instr)) := [[some (.iconst 0), some (.istore_n 1), some (.iconst 1), some (.istore_n 2), some (.iload_n 2), some (.sipush 500), none, none, some (.if_icmp .gt 30), none, none, some (.iload_n 2), some (.aload_n 0), some (.getfield 56), none, none],
  [some (.iload_n 2), some (.iaload), some (.imul), some (.iload_n 1), some (.aload_n 0), some (.getfield 56), none, none, some (.iload_n 1), some (.iaload), some (.imul), some (.if_icmp .le 5), none, none, some (.iload_n 2), some (.istore_n 1)],
  [some (.iinc 2 1), none, none, some (.goto (-31)), none, none, some (.iload_n 1), some (.ireturn)]]
theorem q_code208_ok : q_dec prog_14_method_43_code q_code208 := q_chk_ok (by decide +kernel)
