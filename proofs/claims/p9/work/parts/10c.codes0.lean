def q_at {α : Type} (L : List (List (Option α))) (pc : Nat) : Option α := match (L.getD (pc / 16) []).getD (pc % 16) none with
  | some i => some i
  | none => none
/-- the listed instructions are what the bytes decode to -/
def q_chk (b : ByteArray) (L : List (List (Option Instr))) : Bool := (List.range (16 * L.length)).all (fun pc => match q_at L pc with
  | some i => (match decode b pc with
    | .ok (j, len) => decide (j = i) && (decide (m_len i = len) || decide (m_len i = 0))
    | _ => false)
  | none => true)
def q_chkR (b : ByteArray) (L : List (List (Option Instr))) (lo n : Nat) : Bool := (List.range n).all (fun k => match q_at L (lo + k) with
  | some i => (match decode b (lo + k) with
    | .ok (j, len) => decide (j = i) && (decide (m_len i = len) || decide (m_len i = 0))
    | _ => false)
  | none => true)
def q_dec (b : ByteArray) (L : List (List (Option Instr))) : Prop := ∀ (pc : Nat) (i : Instr), q_at L pc = some i → ∃ len, decode b pc = .ok (i, len) ∧ (m_len i = len ∨ m_len i = 0)
theorem q_at_lt {L : List (List (Option Instr))} {pc : Nat} {i : Instr} (hi : q_at L pc = some i) : pc < 16 * L.length := by
  refine Nat.lt_of_not_le fun hge => ?_
  have h1 : L.getD (pc / 16) [] = [] := by
    rw [List.getD_eq_getElem?_getD, List.getElem?_eq_none (by omega)]; rfl
  unfold q_at at hi
  rw [h1] at hi
  cases hi
theorem q_chkR_ok {b : ByteArray} {L : List (List (Option Instr))} {m k : Nat} (hm : 16 * L.length ≤ k * m) (h : ∀ j, j < m → q_chkR b L (j * k) k = true) : q_dec b L := by
  intro pc i hi
  have hlt := Nat.lt_of_lt_of_le (q_at_lt hi) hm
  have hk : 0 < k := Nat.pos_of_ne_zero fun h0 => by subst h0; omega
  have hj : pc / k < m := (Nat.div_lt_iff_lt_mul hk).mpr (by rw [Nat.mul_comm]; exact hlt)
  have h2 := List.all_eq_true.mp (h _ hj) (pc % k) (List.mem_range.mpr (Nat.mod_lt _ hk))
  rw [show pc / k * k + pc % k = pc by rw [Nat.mul_comm]; exact Nat.div_add_mod _ _] at h2
  rw [hi] at h2
  dsimp only at h2
  split at h2
  · rename_i j len hd
    simp only [Bool.and_eq_true, Bool.or_eq_true, decide_eq_true_eq] at h2
    obtain ⟨rfl, h3⟩ := h2
    exact ⟨len, hd, h3⟩
  · cases h2
theorem q_chk_ok {b : ByteArray} {L : List (List (Option Instr))} (h : q_chk b L = true) : q_dec b L := by
  intro pc i hi
  have hlt : pc < 16 * L.length := by
    refine Nat.lt_of_not_le fun hge => ?_
    have h1 : L.getD (pc / 16) [] = [] := by
      rw [List.getD_eq_getElem?_getD, List.getElem?_eq_none (by omega)]; rfl
    unfold q_at at hi
    rw [h1] at hi
    cases hi
  have h2 := List.all_eq_true.mp h pc (List.mem_range.mpr hlt)
  rw [hi] at h2
  dsimp only at h2
  split at h2
  · rename_i j len hd
    simp only [Bool.and_eq_true, Bool.or_eq_true, decide_eq_true_eq] at h2
    obtain ⟨rfl, h3⟩ := h2
    exact ⟨len, hd, h3⟩
  · cases h2
def q_code0 : List (List (Option Instr)) := [[some (.aload_n 0), some (.invokespecial 3), none, none, some (.aload_n 0), some (.iconst 0), some (.putfield 9), none, none, some (.aload_n 0), some (.iconst 0), some (.putfield 15), none, none, some (.aload_n 0), some (.iconst 0)],
  [some (.putfield 18), none, none, some (.aload_n 0), some (.iconst 0), some (.putfield 21), none, none, some (.aload_n 0), some (.iconst 0), some (.putfield 24), none, none, some (.aload_n 0), some (.iconst 0), some (.putfield 27)],
  [none, none, some (.aload_n 0), some (.iconst 0), some (.putfield 30), none, none, some (.aload_n 0), some (.bipush 7), none, some (.newarray .int), none, some (.putfield 34), none, none, some (.aload_n 0)],
  [some (.bipush 40), none, some (.newarray .int), none, some (.putfield 38), none, none, some (.aload_n 0), some (.bipush 40), none, some (.newarray .int), none, some (.putfield 41), none, none, some (.aload_n 0)],
  [some (.bipush 40), none, some (.newarray .int), none, some (.putfield 44), none, none, some (.aload_n 0), some (.sipush 160), none, none, some (.newarray .int), none, some (.putfield 47), none, none],
  [some (.aload_n 0), some (.bipush 40), none, some (.newarray .int), none, some (.putfield 50), none, none, some (.aload_n 0), some (.sipush 240), none, none, some (.newarray .int), none, some (.putfield 53), none],
  [none, some (.aload_n 0), some (.sipush 240), none, none, some (.newarray .int), none, some (.putfield 56), none, none, some (.aload_n 0), some (.sipush 4040), none, none, some (.newarray .int), none],
  [some (.putfield 59), none, none, some (.aload_n 0), some (.bipush 100), none, some (.newarray .int), none, some (.putfield 62), none, none, some (.aload_n 0), some (.sipush 1000), none, none, some (.newarray .int)],
  [none, some (.putfield 65), none, none, some (.aload_n 0), some (.aload_n 1), some (.putfield 68), none, none, some (.return_)]]
theorem q_code0_ok : q_dec prog_2_method_1_code q_code0 := q_chk_ok (by decide +kernel)
def q_code1 : List (List (Option Instr)) := [[some (.aload_n 0), some (.getfield 68), none, none, some (.getfield 72), none, none, some (.astore_n 2), some (.aload_n 0), some (.invokevirtual 78), none, none, some (.aload_n 2), some (.getfield 81), none, none],
  [some (.iload_n 1), some (.invokestatic 86), none, none, some (.iconst 3), some (.if_icmp .ne 7), none, none, some (.iconst 1), some (.goto 4), none, none, some (.iconst 0), some (.istore_n 3), some (.iload_n 3), some (.ifCond .eq 17)],
  [none, none, some (.aload_n 2), some (.getfield 90), none, none, some (.iload_n 1), some (.bipush 8), none, some (.imul), some (.invokestatic 86), none, none, some (.goto 4), none, none],
  [some (.iload_n 1), some (.istore 4), none, some (.aload_n 0), some (.aload_n 2), some (.getfield 81), none, none, some (.iload 4), none, some (.invokestatic 86), none, none, some (.iconst 2), some (.if_icmp .ne 7), none],
  [none, some (.iconst 1), some (.goto 4), none, none, some (.iconst 0), some (.putfield 30), none, none, some (.aload_n 0), some (.getfield 30), none, none, some (.ifCond .ne 10), none, none],
  [some (.aload_n 0), some (.iload 4), none, some (.invokevirtual 93), none, none, some (.return_), some (.aload_n 2), some (.getfield 97), none, none, some (.iload 4), none, some (.invokestatic 86), none, none],
  [some (.istore 5), none, some (.iconst 0), some (.istore 6), none, some (.iload 6), none, some (.iload 5), none, some (.if_icmp .ge 28), none, none, some (.aload_n 0), some (.aload_n 2), some (.getfield 90), none],
  [none, some (.iload 4), none, some (.bipush 8), none, some (.imul), some (.iload 6), none, some (.iadd), some (.invokestatic 86), none, none, some (.invokevirtual 93), none, none, some (.iinc 6 1)],
  [none, none, some (.goto (-29)), none, none, some (.return_)]]
theorem q_code1_ok : q_dec prog_2_method_2_code q_code1 := q_chk_ok (by decide +kernel)
def q_code2 : List (List (Option Instr)) := [[some (.aload_n 0), some (.invokevirtual 78), none, none, some (.iconst 0), some (.istore_n 2), some (.iload_n 2), some (.aload_n 1), some (.getfield 100), none, none, some (.if_icmp .ge 22), none, none, some (.aload_n 0), some (.aload_n 1)],
  [some (.getfield 105), none, none, some (.iload_n 2), some (.invokestatic 86), none, none, some (.iload_n 2), some (.invokevirtual 108), none, none, some (.iinc 2 1), none, none, some (.goto (-24)), none],
  [none, some (.return_)]]
theorem q_code2_ok : q_dec prog_2_method_3_code q_code2 := q_chk_ok (by decide +kernel)
def q_code3 : List (List (Option Instr)) := [[some (.aload_n 0), some (.iconst 0), some (.putfield 9), none, none, some (.aload_n 0), some (.iconst 0), some (.putfield 21), none, none, some (.aload_n 0), some (.iconst 0), some (.putfield 24), none, none, some (.aload_n 0)],
  [some (.getfield 38), none, none, some (.iconst 0), some (.invokestatic 112), none, none, some (.return_)]]
theorem q_code3_ok : q_dec prog_2_method_4_code q_code3 := q_chk_ok (by decide +kernel)
def q_code4 : List (List (Option Instr)) := [[some (.aload_n 0), some (.getfield 68), none, none, some (.getfield 72), none, none, some (.astore_n 2), some (.aload_n 2), some (.getfield 81), none, none, some (.iload_n 1), some (.invokestatic 86), none, none],
  [some (.ifCond .ne 25), none, none, some (.aload_n 0), some (.iload_n 1), some (.aload_n 0), some (.getfield 21), none, none, some (.invokevirtual 108), none, none, some (.aload_n 0), some (.dup), some (.getfield 21), none],
  [none, some (.iconst 1), some (.iadd), some (.putfield 21), none, none, some (.goto 102), none, none, some (.aload_n 2), some (.getfield 97), none, none, some (.iload_n 1), some (.invokestatic 86), none],
  [none, some (.istore_n 3), some (.iconst 0), some (.istore 4), none, some (.iload 4), none, some (.iload_n 3), some (.if_icmp .ge 67), none, none, some (.iload_n 1), some (.bipush 8), none, some (.imul), some (.iload 4)],
  [none, some (.iadd), some (.istore 5), none, some (.aload_n 0), some (.getfield 21), none, none, some (.aload_n 2), some (.getfield 118), none, none, some (.iload 5), none, some (.invokestatic 86), none],
  [none, some (.iadd), some (.istore 6), none, some (.aload_n 0), some (.getfield 38), none, none, some (.iload 6), none, some (.aload_n 2), some (.getfield 119), none, none, some (.iload 5), none],
  [some (.invokestatic 86), none, none, some (.invokestatic 120), none, none, some (.aload_n 0), some (.aload_n 2), some (.getfield 90), none, none, some (.iload 5), none, some (.invokestatic 86), none, none],
  [some (.iload 6), none, some (.invokevirtual 108), none, none, some (.iinc 4 1), none, none, some (.goto (-67)), none, none, some (.aload_n 0), some (.dup), some (.getfield 21), none, none],
  [some (.aload_n 2), some (.getfield 124), none, none, some (.iload_n 1), some (.invokestatic 86), none, none, some (.iadd), some (.putfield 21), none, none, some (.aload_n 0), some (.dup), some (.getfield 24), none],
  [none, some (.iconst 1), some (.iadd), some (.putfield 24), none, none, some (.aload_n 0), some (.getfield 34), none, none, some (.aload_n 0), some (.getfield 24), none, none, some (.aload_n 0), some (.getfield 9)],
  [none, none, some (.invokestatic 120), none, none, some (.return_)]]
theorem q_code4_ok : q_dec prog_2_method_5_code q_code4 := q_chk_ok (by decide +kernel)
def q_code5 : List (List (Option Instr)) := [[some (.aload_n 0), some (.getfield 44), none, none, some (.aload_n 0), some (.getfield 9), none, none, some (.iload_n 1), some (.invokestatic 120), none, none, some (.aload_n 0), some (.getfield 41), none, none],
  [some (.aload_n 0), some (.getfield 9), none, none, some (.iload_n 2), some (.invokestatic 120), none, none, some (.aload_n 0), some (.getfield 50), none, none, some (.aload_n 0), some (.getfield 9), none, none],
  [some (.aload_n 0), some (.getfield 68), none, none, some (.getfield 127), none, none, some (.getfield 130), none, none, some (.iload_n 1), some (.invokestatic 86), none, none, some (.invokestatic 120), none],
  [none, some (.iconst 0), some (.istore_n 3), some (.iload_n 3), some (.iconst 4), some (.if_icmp .ge 42), none, none, some (.aload_n 0), some (.getfield 47), none, none, some (.aload_n 0), some (.getfield 9), none, none],
  [some (.iconst 4), some (.imul), some (.iload_n 3), some (.iadd), some (.aload_n 0), some (.getfield 68), none, none, some (.getfield 127), none, none, some (.getfield 133), none, none, some (.iload_n 1), some (.iconst 4)],
  [some (.imul), some (.iload_n 3), some (.iadd), some (.invokestatic 86), none, none, some (.invokestatic 120), none, none, some (.iinc 3 1), none, none, some (.goto (-41)), none, none, some (.aload_n 0)],
  [some (.dup), some (.getfield 9), none, none, some (.iconst 1), some (.iadd), some (.putfield 9), none, none, some (.return_)]]
theorem q_code5_ok : q_dec prog_2_method_6_code q_code5 := q_chk_ok (by decide +kernel)
def q_code6 : List (List (Option Instr)) := [[some (.iconst 0), some (.istore_n 1), some (.iconst 0), some (.istore_n 2), some (.iload_n 2), some (.aload_n 0), some (.getfield 21), none, none, some (.if_icmp .ge 20), none, none, some (.iload_n 1), some (.aload_n 0), some (.getfield 38), none],
  [none, some (.iload_n 2), some (.invokestatic 86), none, none, some (.iadd), some (.istore_n 1), some (.iinc 2 1), none, none, some (.goto (-22)), none, none, some (.iload_n 1), some (.ireturn)]]
theorem q_code6_ok : q_dec prog_2_method_7_code q_code6 := q_chk_ok (by decide +kernel)
def q_code7 : List (List (Option Instr)) := [[some (.iconst 0), some (.istore_n 2), some (.iload_n 2), some (.aload_n 0), some (.getfield 9), none, none, some (.iconst 4), some (.imul), some (.if_icmp .ge 39), none, none, some (.iload_n 2), some (.iconst 4), some (.irem), some (.istore_n 3)],
  [some (.iload_n 1), some (.iload_n 3), some (.ishr), some (.iconst 1), some (.iand), some (.ifCond .eq 21), none, none, some (.aload_n 0), some (.getfield 47), none, none, some (.iload_n 2), some (.iload_n 3), some (.ifCond .ne 8), none],
  [none, some (.bipush 100), none, some (.goto 4), none, none, some (.iconst 0), some (.invokestatic 120), none, none, some (.iinc 2 1), none, none, some (.goto (-43)), none, none],
  [some (.return_)]]
theorem q_code7_ok : q_dec prog_2_method_8_code q_code7 := q_chk_ok (by decide +kernel)
def q_code8 : List (List (Option Instr)) := [[some (.iconst 0), some (.istore_n 3), some (.iload_n 3), some (.aload_n 0), some (.getfield 9), none, none, some (.if_icmp .ge 45), none, none, some (.aload_n 0), some (.getfield 47), none, none, some (.iload_n 3), some (.iconst 4)],
  [some (.imul), some (.iconst 0), some (.iadd), some (.aload_n 0), some (.getfield 68), none, none, some (.getfield 127), none, none, some (.aload_n 0), some (.getfield 44), none, none, some (.iload_n 3), some (.invokestatic 86)],
  [none, none, some (.aload_n 1), some (.invokevirtual 134), none, none, some (.iload_n 2), some (.imul), some (.bipush 100), none, some (.idiv), some (.invokestatic 120), none, none, some (.iinc 3 1), none],
  [none, some (.goto (-47)), none, none, some (.return_)]]
theorem q_code8_ok : q_dec prog_2_method_9_code q_code8 := q_chk_ok (by decide +kernel)
def q_code9 : List (List (Option Instr)) := [[some (.iload_n 1), some (.iconst 4), some (.imul), some (.istore_n 2), some (.aload_n 0), some (.getfield 47), none, none, some (.iload_n 2), some (.iconst 3), some (.iadd), some (.invokestatic 86), none, none, some (.istore_n 3), some (.aload_n 0)],
  [some (.getfield 47), none, none, some (.iload_n 2), some (.invokestatic 86), none, none, some (.bipush 100), none, some (.aload_n 0), some (.getfield 47), none, none, some (.iload_n 2), some (.iconst 1), some (.iadd)],
  [some (.invokestatic 86), none, none, some (.isub), some (.imul), some (.bipush 100), none, some (.aload_n 0), some (.getfield 47), none, none, some (.iload_n 2), some (.iconst 2), some (.iadd), some (.invokestatic 86), none],
  [none, some (.isub), some (.imul), some (.sipush 10000), none, none, some (.idiv), some (.istore 4), none, some (.aload_n 0), some (.getfield 50), none, none, some (.iload_n 1), some (.invokestatic 86), none],
  [none, some (.ifCond .eq 6), none, none, some (.iconst 0), some (.istore 4), none, some (.iconst 0), some (.istore 5), none, some (.iload 5), none, some (.bipush 6), none, some (.if_icmp .ge 113), none],
  [none, some (.aload_n 0), some (.getfield 68), none, none, some (.getfield 127), none, none, some (.getfield 138), none, none, some (.aload_n 0), some (.getfield 44), none, none, some (.iload_n 1)],
  [some (.invokestatic 86), none, none, some (.bipush 6), none, some (.imul), some (.iload 5), none, some (.iadd), some (.invokestatic 86), none, none, some (.istore 6), none, some (.aload_n 0), some (.getfield 68)],
  [none, none, some (.getfield 127), none, none, some (.getfield 141), none, none, some (.aload_n 0), some (.getfield 44), none, none, some (.iload_n 1), some (.invokestatic 86), none, none],
  [some (.bipush 6), none, some (.imul), some (.iload 5), none, some (.iadd), some (.invokestatic 86), none, none, some (.istore 7), none, some (.aload_n 0), some (.getfield 53), none, none, some (.iload_n 1)],
  [some (.bipush 6), none, some (.imul), some (.iload 5), none, some (.iadd), some (.iload 6), none, some (.iload 6), none, some (.iload_n 3), some (.imul), some (.bipush 100), none, some (.idiv), some (.isub)],
  [some (.invokestatic 120), none, none, some (.aload_n 0), some (.getfield 56), none, none, some (.iload_n 1), some (.bipush 6), none, some (.imul), some (.iload 5), none, some (.iadd), some (.iload 7), none],
  [some (.iload 4), none, some (.imul), some (.bipush 100), none, some (.idiv), some (.invokestatic 120), none, none, some (.iinc 5 1), none, none, some (.goto (-114)), none, none, some (.return_)]]
theorem q_code9_ok : q_dec prog_2_method_10_code q_code9 := q_chk_ok (by decide +kernel)
def q_code10 : List (List (Option Instr)) := [[some (.aload_n 0), some (.iload_n 1), some (.invokevirtual 144), none, none, some (.iconst 0), some (.istore_n 2), some (.iload_n 2), some (.bipush 100), none, some (.if_icmp .ge 28), none, none, some (.aload_n 0), some (.getfield 59), none],
  [none, some (.iload_n 2), some (.bipush 40), none, some (.imul), some (.iload_n 1), some (.iadd), some (.aload_n 0), some (.iload_n 1), some (.iload_n 2), some (.invokevirtual 147), none, none, some (.invokestatic 120), none, none],
  [some (.iinc 2 1), none, none, some (.goto (-28)), none, none, some (.return_)]]
theorem q_code10_ok : q_dec prog_2_method_11_code q_code10 := q_chk_ok (by decide +kernel)
def q_code11 : List (List (Option Instr)) := [[some (.iconst 0), some (.istore_n 1), some (.iload_n 1), some (.aload_n 0), some (.getfield 9), none, none, some (.if_icmp .ge 14), none, none, some (.aload_n 0), some (.iload_n 1), some (.invokevirtual 151), none, none, some (.iinc 1 1)],
  [none, none, some (.goto (-16)), none, none, some (.return_)]]
theorem q_code11_ok : q_dec prog_2_method_12_code q_code11 := q_chk_ok (by decide +kernel)
def q_code12 : List (List (Option Instr)) := [[some (.iconst 0), some (.istore_n 2), some (.iload_n 2), some (.aload_n 0), some (.getfield 9), none, none, some (.if_icmp .ge 32), none, none, some (.aload_n 0), some (.iload_n 2), some (.invokevirtual 144), none, none, some (.aload_n 0)],
  [some (.getfield 59), none, none, some (.sipush 4000), none, none, some (.iload_n 2), some (.iadd), some (.aload_n 0), some (.iload_n 2), some (.iload_n 1), some (.invokevirtual 147), none, none, some (.invokestatic 120), none],
  [none, some (.iinc 2 1), none, none, some (.goto (-34)), none, none, some (.return_)]]
theorem q_code12_ok : q_dec prog_2_method_13_code q_code12 := q_chk_ok (by decide +kernel)
def q_code13 : List (List (Option Instr)) := [[some (.iload_n 1), some (.bipush 6), none, some (.imul), some (.istore_n 3), some (.iload_n 2), some (.aload_n 0), some (.getfield 56), none, none, some (.iload_n 3), some (.invokestatic 86), none, none, some (.isub), some (.istore 4)],
  [none, some (.iload 4), none, some (.ifCond .le 14), none, none, some (.iconst 2), some (.iload 4), none, some (.imul), some (.bipush 20), none, some (.invokestatic 154), none, none, some (.ineg)],
  [some (.ireturn), some (.iload_n 3), some (.aload_n 0), some (.getfield 68), none, none, some (.getfield 72), none, none, some (.getfield 124), none, none, some (.aload_n 0), some (.getfield 44), none, none],
  [some (.iload_n 1), some (.invokestatic 86), none, none, some (.invokestatic 86), none, none, some (.iadd), some (.iconst 1), some (.isub), some (.istore 5), none, some (.iload 5), none, some (.iload_n 3), some (.if_icmp .le 45)],
  [none, none, some (.iload_n 2), some (.aload_n 0), some (.getfield 56), none, none, some (.iload 5), none, some (.invokestatic 86), none, none, some (.if_icmp .lt 26), none, none, some (.iload_n 2)],
  [some (.aload_n 0), some (.getfield 56), none, none, some (.iload 5), none, some (.iconst 1), some (.isub), some (.invokestatic 86), none, none, some (.if_icmp .gt 11), none, none, some (.aload_n 0), some (.iload 5)],
  [none, some (.iload_n 2), some (.invokevirtual 159), none, none, some (.ireturn), some (.iinc 5 (-1)), none, none, some (.goto (-45)), none, none, some (.iconst 0), some (.ireturn)]]
theorem q_code13_ok : q_dec prog_2_method_14_code q_code13 := q_chk_ok (by decide +kernel)
def q_code14 : List (List (Option Instr)) := [[some (.aload_n 0), some (.getfield 53), none, none, some (.iload_n 1), some (.invokestatic 86), none, none, some (.istore_n 3), some (.aload_n 0), some (.getfield 56), none, none, some (.iload_n 1), some (.iconst 1), some (.isub)],
  [some (.invokestatic 86), none, none, some (.aload_n 0), some (.getfield 56), none, none, some (.iload_n 1), some (.invokestatic 86), none, none, some (.isub), some (.istore 4), none, some (.iload 4), none],
  [some (.ifCond .ne 5), none, none, some (.iload_n 3), some (.ireturn), some (.iload_n 3), some (.iload_n 3), some (.aload_n 0), some (.getfield 53), none, none, some (.iload_n 1), some (.iconst 1), some (.isub), some (.invokestatic 86), none],
  [none, some (.isub), some (.iload_n 2), some (.aload_n 0), some (.getfield 56), none, none, some (.iload_n 1), some (.invokestatic 86), none, none, some (.isub), some (.imul), some (.iload 4), none, some (.idiv)],
  [some (.isub), some (.ireturn)]]
theorem q_code14_ok : q_dec prog_2_method_15_code q_code14 := q_chk_ok (by decide +kernel)
def q_code15 : List (List (Option Instr)) := [[some (.iconst 0), some (.istore_n 3), some (.iconst 0), some (.istore 4), none, some (.aload_n 0), some (.getfield 34), none, none, some (.iload_n 1), some (.iconst 1), some (.iadd), some (.invokestatic 86), none, none, some (.istore 5)],
  [none, some (.aload_n 0), some (.getfield 34), none, none, some (.iload_n 1), some (.invokestatic 86), none, none, some (.istore 6), none, some (.iload 6), none, some (.iload 5), none, some (.if_icmp .ge 93)],
  [none, none, some (.iload 4), none, some (.aload_n 0), some (.getfield 59), none, none, some (.iload_n 2), some (.iload 6), none, some (.iadd), some (.invokestatic 86), none, none, some (.iadd)],
  [some (.istore 4), none, some (.iload 6), none, some (.iconst 1), some (.iadd), some (.iload 5), none, some (.if_icmp .eq 26), none, none, some (.aload_n 0), some (.getfield 41), none, none, some (.iload 6)],
  [none, some (.iconst 1), some (.iadd), some (.invokestatic 86), none, none, some (.aload_n 0), some (.getfield 41), none, none, some (.iload 6), none, some (.invokestatic 86), none, none, some (.if_icmp .eq 39)],
  [none, none, some (.iload_n 3), some (.aload_n 0), some (.getfield 38), none, none, some (.aload_n 0), some (.getfield 41), none, none, some (.iload 6), none, some (.invokestatic 86), none, none],
  [some (.invokestatic 86), none, none, some (.ifCond .eq 12), none, none, some (.iload 4), none, some (.iconst (-1)), some (.invokestatic 162), none, none, some (.goto 5), none, none, some (.iload 4)],
  [none, some (.iadd), some (.istore_n 3), some (.iconst 0), some (.istore 4), none, some (.iinc 6 1), none, none, some (.goto (-94)), none, none, some (.iload_n 3), some (.ireturn)]]
theorem q_code15_ok : q_dec prog_2_method_16_code q_code15 := q_chk_ok (by decide +kernel)
def q_code16 : List (List (Option Instr)) := [[some (.aload_n 0), some (.getfield 30), none, none, some (.ifCond .ne 17), none, none, some (.aload_n 0), some (.iload_n 1), some (.invokevirtual 165), none, none, some (.aload_n 0), some (.iconst 0), some (.sipush 4000), none],
  [none, some (.invokevirtual 168), none, none, some (.ireturn), some (.aload_n 0), some (.invokevirtual 171), none, none, some (.aload_n 0), some (.iconst 0), some (.sipush 999), none, none, some (.invokevirtual 174), none],
  [none, some (.sipush 999), none, none, some (.istore_n 2), some (.iload_n 2), some (.ifCond .lt 18), none, none, some (.aload_n 0), some (.iload_n 2), some (.invokevirtual 177), none, none, some (.iload_n 1), some (.if_icmp .ge 9)],
  [none, none, some (.iinc 2 (-1)), none, none, some (.goto (-16)), none, none, some (.iload_n 2), some (.ireturn)]]
theorem q_code16_ok : q_dec prog_2_method_17_code q_code16 := q_chk_ok (by decide +kernel)
def q_code17 : List (List (Option Instr)) := [[some (.aload_n 0), some (.iload_n 1), some (.putfield 27), none, none, some (.aload_n 0), some (.getfield 65), none, none, some (.iconst 0), some (.invokestatic 112), none, none, some (.iconst 0), some (.istore_n 3), some (.iload_n 3)],
  [some (.aload_n 0), some (.getfield 24), none, none, some (.if_icmp .ge 50), none, none, some (.iconst 0), some (.istore 4), none, some (.iload 4), none, some (.bipush 100), none, some (.if_icmp .ge 28), none],
  [none, some (.aload_n 0), some (.getfield 62), none, none, some (.iload 4), none, some (.aload_n 0), some (.iload_n 3), some (.iload 4), none, some (.bipush 40), none, some (.imul), some (.invokevirtual 168), none],
  [none, some (.invokestatic 120), none, none, some (.iinc 4 1), none, none, some (.goto (-29)), none, none, some (.aload_n 0), some (.iload_n 1), some (.iload_n 2), some (.invokevirtual 181), none, none],
  [some (.iinc 3 1), none, none, some (.goto (-52)), none, none, some (.return_)]]
theorem q_code17_ok : q_dec prog_2_method_18_code q_code17 := q_chk_ok (by decide +kernel)
def q_code18 : List (List (Option Instr)) := [[some (.iconst 0), some (.istore_n 3), some (.iload_n 2), some (.istore 4), none, some (.iload 4), none, some (.iload_n 1), some (.if_icmp .lt 62), none, none, some (.iload_n 3), some (.iconst 1), some (.iadd), some (.bipush 100), none],
  [some (.if_icmp .ge 24), none, none, some (.aload_n 0), some (.getfield 62), none, none, some (.iload_n 3), some (.iconst 1), some (.iadd), some (.invokestatic 86), none, none, some (.iload 4), none, some (.if_icmp .lt 9)],
  [none, none, some (.iinc 3 1), none, none, some (.goto (-26)), none, none, some (.aload_n 0), some (.getfield 65), none, none, some (.iload 4), none, some (.iload_n 1), some (.isub)],
  [some (.aload_n 0), some (.getfield 65), none, none, some (.iload 4), none, some (.iload_n 1), some (.isub), some (.invokestatic 86), none, none, some (.iload_n 3), some (.iadd), some (.invokestatic 120), none, none],
  [some (.iinc 4 (-1)), none, none, some (.goto (-62)), none, none, some (.return_)]]
theorem q_code18_ok : q_dec prog_2_method_19_code q_code18 := q_chk_ok (by decide +kernel)
def q_code19 : List (List (Option Instr)) := [[some (.aload_n 0), some (.getfield 65), none, none, some (.iload_n 1), some (.aload_n 0), some (.getfield 27), none, none, some (.isub), some (.invokestatic 86), none, none, some (.ireturn)]]
theorem q_code19_ok : q_dec prog_2_method_20_code q_code19 := q_chk_ok (by decide +kernel)
def q_code20 : List (List (Option Instr)) := [[some (.iload_n 1), some (.aload_n 0), some (.iload_n 1), some (.invokevirtual 177), none, none, some (.imul), some (.ireturn)]]
theorem q_code20_ok : q_dec prog_2_method_21_code q_code20 := q_chk_ok (by decide +kernel)
def q_code21 : List (List (Option Instr)) := [[some (.aload_n 0), some (.invokevirtual 171), none, none, some (.aload_n 0), some (.iconst 0), some (.sipush 500), none, none, some (.invokevirtual 174), none, none, some (.aload_n 0), some (.invokevirtual 184), none, none],
  [some (.return_)]]
theorem q_code21_ok : q_dec prog_2_method_22_code q_code21 := q_chk_ok (by decide +kernel)
def q_code22 : List (List (Option Instr)) := [[some (.aload_n 0), some (.iconst 0), some (.putfield 15), none, none, some (.aload_n 0), some (.iconst 0), some (.putfield 18), none, none, some (.iconst 0), some (.istore_n 1), some (.iload_n 1), some (.sipush 500), none, none],
  [some (.if_icmp .gt 35), none, none, some (.aload_n 0), some (.iload_n 1), some (.invokevirtual 187), none, none, some (.aload_n 0), some (.getfield 15), none, none, some (.if_icmp .le 17), none, none, some (.aload_n 0)],
  [some (.aload_n 0), some (.iload_n 1), some (.invokevirtual 187), none, none, some (.putfield 15), none, none, some (.aload_n 0), some (.iload_n 1), some (.putfield 18), none, none, some (.iinc 1 1), none, none],
  [some (.goto (-36)), none, none, some (.return_)]]
theorem q_code22_ok : q_dec prog_2_method_23_code q_code22 := q_chk_ok (by decide +kernel)
def q_code23 : List (List (Option Instr)) := [[some (.iconst 0), some (.istore_n 2), some (.iconst 0), some (.istore_n 3), some (.iconst 1), some (.istore 4), none, some (.iload 4), none, some (.sipush 500), none, none, some (.if_icmp .ge 98), none, none, some (.iload 4)],
  [none, some (.iconst 1), some (.iadd), some (.istore_n 3), some (.iload_n 3), some (.sipush 500), none, none, some (.if_icmp .gt 23), none, none, some (.aload_n 0), some (.iload_n 3), some (.invokevirtual 187), none, none],
  [some (.aload_n 0), some (.iload 4), none, some (.invokevirtual 187), none, none, some (.if_icmp .ne 9), none, none, some (.iinc 3 1), none, none, some (.goto (-24)), none, none, some (.iload_n 3)],
  [some (.sipush 500), none, none, some (.if_icmp .le 7), none, none, some (.iconst 0), some (.goto 8), none, none, some (.aload_n 0), some (.iload_n 3), some (.invokevirtual 187), none, none, some (.istore 5)],
  [none, some (.aload_n 0), some (.iload 4), none, some (.invokevirtual 187), none, none, some (.aload_n 0), some (.iload 4), none, some (.iconst 1), some (.isub), some (.invokevirtual 187), none, none, some (.if_icmp .le 25)],
  [none, none, some (.aload_n 0), some (.iload 4), none, some (.invokevirtual 187), none, none, some (.iload 5), none, some (.if_icmp .le 14), none, none, some (.iload_n 2), some (.iload_n 1), some (.if_icmp .ne 6)],
  [none, none, some (.iload 4), none, some (.ireturn), some (.iinc 2 1), none, none, some (.iload_n 3), some (.istore 4), none, some (.goto (-100)), none, none, some (.iload_n 1), some (.ifCond .ge 7)],
  [none, none, some (.iload_n 2), some (.goto 5), none, none, some (.bipush (-4)), none, some (.ireturn)]]
theorem q_code23_ok : q_dec prog_2_method_24_code q_code23 := q_chk_ok (by decide +kernel)
def q_code24 : List (List (Option Instr)) := [[some (.iconst 0), some (.istore_n 1), some (.iconst 1), some (.istore_n 2), some (.iload_n 2), some (.aload_n 0), some (.getfield 9), none, none, some (.if_icmp .ge 38), none, none, some (.aload_n 0), some (.getfield 59), none, none],
  [some (.sipush 4000), none, none, some (.iload_n 2), some (.iadd), some (.invokestatic 86), none, none, some (.aload_n 0), some (.getfield 59), none, none, some (.sipush 4000), none, none, some (.iload_n 1)],
  [some (.iadd), some (.invokestatic 86), none, none, some (.if_icmp .ge 5), none, none, some (.iload_n 2), some (.istore_n 1), some (.iinc 2 1), none, none, some (.goto (-40)), none, none, some (.aload_n 0)],
  [some (.getfield 44), none, none, some (.iload_n 1), some (.invokestatic 86), none, none, some (.ireturn)]]
theorem q_code24_ok : q_dec prog_2_method_25_code q_code24 := q_chk_ok (by decide +kernel)
def q_code25 : List (List (Option Instr)) := [[some (.iconst 0), some (.istore_n 1), some (.iconst 0), some (.istore_n 2), some (.iload_n 2), some (.aload_n 0), some (.getfield 21), none, none, some (.if_icmp .ge 86), none, none, some (.iconst 0), some (.istore_n 3), some (.iconst 0), some (.istore 4)],
  [none, some (.iload 4), none, some (.aload_n 0), some (.getfield 9), none, none, some (.if_icmp .ge 42), none, none, some (.iload_n 3), some (.aload_n 0), some (.getfield 41), none, none, some (.iload 4)],
  [none, some (.invokestatic 86), none, none, some (.iload_n 2), some (.if_icmp .ne 19), none, none, some (.aload_n 0), some (.getfield 59), none, none, some (.sipush 4000), none, none, some (.iload 4)],
  [none, some (.iadd), some (.invokestatic 86), none, none, some (.goto 4), none, none, some (.iconst 0), some (.iadd), some (.istore_n 3), some (.iinc 4 1), none, none, some (.goto (-45)), none],
  [none, some (.iload_n 1), some (.aload_n 0), some (.getfield 38), none, none, some (.iload_n 2), some (.invokestatic 86), none, none, some (.ifCond .eq 12), none, none, some (.iload_n 3), some (.iconst (-1)), some (.if_icmp .ge 7)],
  [none, none, some (.iconst 1), some (.goto 4), none, none, some (.iconst 0), some (.iadd), some (.istore_n 1), some (.iinc 2 1), none, none, some (.goto (-88)), none, none, some (.iload_n 1)],
  [some (.ireturn)]]
theorem q_code25_ok : q_dec prog_2_method_26_code q_code25 := q_chk_ok (by decide +kernel)
def q_code26 : List (List (Option Instr)) := [[some (.iconst 0), some (.istore_n 2), some (.iconst 0), some (.istore_n 3), some (.iload_n 3), some (.aload_n 0), some (.getfield 9), none, none, some (.if_icmp .ge 32), none, none, some (.iload_n 2), some (.iload_n 1), some (.aload_n 0), some (.getfield 56)],
  [none, none, some (.iload_n 3), some (.bipush 6), none, some (.imul), some (.invokestatic 86), none, none, some (.if_icmp .le 7), none, none, some (.iconst 1), some (.goto 4), none, none],
  [some (.iconst 0), some (.iadd), some (.istore_n 2), some (.iinc 3 1), none, none, some (.goto (-34)), none, none, some (.iload_n 2), some (.ireturn)]]
theorem q_code26_ok : q_dec prog_2_method_27_code q_code26 := q_chk_ok (by decide +kernel)
def q_code27 : List (List (Option Instr)) := [[some (.aload_n 0), some (.invokevirtual 171), none, none, some (.iconst (-1)), some (.istore_n 1), some (.iconst 0), some (.istore_n 2), some (.iconst 1), some (.aload_n 0), some (.getfield 9), none, none, some (.ishl), some (.iconst 1), some (.isub)],
  [some (.istore_n 3), some (.iconst 2), some (.istore 4), none, some (.iload 4), none, some (.iload_n 3), some (.if_icmp .gt 56), none, none, some (.aload_n 0), some (.iconst 0), some (.putfield 27), none, none, some (.aload_n 0)],
  [some (.getfield 65), none, none, some (.iconst 0), some (.invokestatic 112), none, none, some (.aload_n 0), some (.iload 4), none, some (.invokevirtual 190), none, none, some (.aload_n 0), some (.iload_n 3), some (.iload 4)],
  [none, some (.isub), some (.invokevirtual 190), none, none, some (.aload_n 0), some (.invokevirtual 184), none, none, some (.aload_n 0), some (.getfield 15), none, none, some (.iload_n 1), some (.if_icmp .le 11), none],
  [none, some (.aload_n 0), some (.getfield 15), none, none, some (.istore_n 1), some (.iload 4), none, some (.istore_n 2), some (.iinc 4 2), none, none, some (.goto (-56)), none, none, some (.aload_n 0)],
  [some (.iload_n 1), some (.putfield 15), none, none, some (.iload_n 2), some (.ireturn)]]
theorem q_code27_ok : q_dec prog_2_method_28_code q_code27 := q_chk_ok (by decide +kernel)
def q_code28 : List (List (Option Instr)) := [[some (.iconst 0), some (.istore_n 2), some (.iload_n 2), some (.bipush 100), none, some (.if_icmp .ge 68), none, none, some (.iconst 0), some (.istore_n 3), some (.iconst 0), some (.istore 4), none, some (.iload 4), none, some (.aload_n 0)],
  [some (.getfield 9), none, none, some (.if_icmp .ge 39), none, none, some (.iload_n 3), some (.iload_n 1), some (.iload 4), none, some (.ishr), some (.iconst 1), some (.iand), some (.ifCond .eq 20), none, none],
  [some (.aload_n 0), some (.getfield 59), none, none, some (.iload_n 2), some (.bipush 40), none, some (.imul), some (.iload 4), none, some (.iadd), some (.invokestatic 86), none, none, some (.goto 4), none],
  [none, some (.iconst 0), some (.iadd), some (.istore_n 3), some (.iinc 4 1), none, none, some (.goto (-42)), none, none, some (.aload_n 0), some (.getfield 62), none, none, some (.iload_n 2), some (.iload_n 3)],
  [some (.invokestatic 120), none, none, some (.iinc 2 1), none, none, some (.goto (-68)), none, none, some (.aload_n 0), some (.iconst 0), some (.sipush 500), none, none, some (.invokevirtual 181), none],
  [none, some (.return_)]]
theorem q_code28_ok : q_dec prog_2_method_29_code q_code28 := q_chk_ok (by decide +kernel)
def q_code29 : List (List (Option Instr)) := [[some (.iconst 1), some (.aload_n 0), some (.getfield 9), none, none, some (.iadd), some (.aload_n 0), some (.invokevirtual 193), none, none, some (.iadd), some (.ireturn)]]
theorem q_code29_ok : q_dec prog_2_method_30_code q_code29 := q_chk_ok (by decide +kernel)
def q_code30 : List (List (Option Instr)) := [[some (.iload_n 1), some (.iconst 1), some (.if_icmp .lt 43), none, none, some (.iload_n 1), some (.aload_n 0), some (.getfield 9), none, none, some (.if_icmp .gt 35), none, none, some (.aload_n 0), some (.getfield 50), none],
  [none, some (.iload_n 1), some (.iconst 1), some (.isub), some (.aload_n 0), some (.getfield 50), none, none, some (.iload_n 1), some (.iconst 1), some (.isub), some (.invokestatic 86), none, none, some (.iconst 1), some (.iadd)],
  [some (.invokestatic 120), none, none, some (.aload_n 0), some (.iload_n 1), some (.iconst 1), some (.isub), some (.invokevirtual 151), none, none, some (.goto 31), none, none, some (.iload_n 1), some (.aload_n 0), some (.getfield 9)],
  [none, none, some (.if_icmp .le 23), none, none, some (.aload_n 0), some (.getfield 38), none, none, some (.aload_n 0), some (.iload_n 1), some (.aload_n 0), some (.getfield 9), none, none, some (.isub)],
  [some (.iconst 1), some (.isub), some (.invokevirtual 197), none, none, some (.iconst 0), some (.invokestatic 120), none, none, some (.return_)]]
theorem q_code30_ok : q_dec prog_2_method_31_code q_code30 := q_chk_ok (by decide +kernel)
def q_code31 : List (List (Option Instr)) := [[some (.iload_n 1), some (.iconst 1), some (.if_icmp .lt 43), none, none, some (.iload_n 1), some (.aload_n 0), some (.getfield 9), none, none, some (.if_icmp .gt 35), none, none, some (.aload_n 0), some (.getfield 50), none],
  [none, some (.iload_n 1), some (.iconst 1), some (.isub), some (.aload_n 0), some (.getfield 50), none, none, some (.iload_n 1), some (.iconst 1), some (.isub), some (.invokestatic 86), none, none, some (.iconst 1), some (.isub)],
  [some (.invokestatic 120), none, none, some (.aload_n 0), some (.iload_n 1), some (.iconst 1), some (.isub), some (.invokevirtual 151), none, none, some (.goto 20), none, none, some (.iload_n 1), some (.aload_n 0), some (.getfield 9)],
  [none, none, some (.if_icmp .le 12), none, none, some (.aload_n 0), some (.getfield 38), none, none, some (.iload_n 2), some (.iconst 1), some (.invokestatic 120), none, none, some (.return_)]]
theorem q_code31_ok : q_dec prog_2_method_32_code q_code31 := q_chk_ok (by decide +kernel)
def q_code32 : List (List (Option Instr)) := [[some (.iconst 0), some (.istore_n 2), some (.iconst 0), some (.istore_n 3), some (.iload_n 3), some (.aload_n 0), some (.getfield 21), none, none, some (.if_icmp .ge 30), none, none, some (.aload_n 0), some (.getfield 38), none, none],
  [some (.iload_n 3), some (.invokestatic 86), none, none, some (.ifCond .eq 13), none, none, some (.iload_n 2), some (.iload_n 1), some (.if_icmp .ne 5), none, none, some (.iload_n 3), some (.ireturn), some (.iinc 2 1), none],
  [none, some (.iinc 3 1), none, none, some (.goto (-32)), none, none, some (.iconst (-1)), some (.ireturn)]]
theorem q_code32_ok : q_dec prog_2_method_33_code q_code32 := q_chk_ok (by decide +kernel)
def q_code33 : List (List (Option Instr)) := [[some (.aload_n 0), some (.invokespecial 3), none, none, some (.aload_n 0), some (.sipush 240), none, none, some (.newarray .int), none, some (.putfield 9), none, none, some (.aload_n 0), some (.sipush 240), none],
  [none, some (.newarray .int), none, some (.putfield 15), none, none, some (.aload_n 0), some (.sipush 160), none, none, some (.newarray .int), none, some (.putfield 18), none, none, some (.aload_n 0)],
  [some (.bipush 40), none, some (.newarray .int), none, some (.putfield 21), none, none, some (.aload_n 0), some (.bipush 40), none, some (.newarray .int), none, some (.putfield 24), none, none, some (.aload_n 0)],
  [some (.bipush 40), none, some (.newarray .int), none, some (.putfield 27), none, none, some (.return_)]]
theorem q_code33_ok : q_dec prog_3_method_1_code q_code33 := q_chk_ok (by decide +kernel)
def q_code34 : List (List (Option Instr)) := [[some (.aload_n 1), some (.getfield 9), none, none, some (.aload_n 0), some (.getfield 9), none, none, some (.invokestatic 30), none, none, some (.aload_n 1), some (.getfield 15), none, none, some (.aload_n 0)],
  [some (.getfield 15), none, none, some (.invokestatic 30), none, none, some (.aload_n 1), some (.getfield 18), none, none, some (.aload_n 0), some (.getfield 18), none, none, some (.invokestatic 30), none],
  [none, some (.aload_n 1), some (.getfield 21), none, none, some (.aload_n 0), some (.getfield 21), none, none, some (.invokestatic 30), none, none, some (.aload_n 1), some (.getfield 24), none, none],
  [some (.aload_n 0), some (.getfield 24), none, none, some (.invokestatic 30), none, none, some (.aload_n 1), some (.getfield 27), none, none, some (.aload_n 0), some (.getfield 27), none, none, some (.invokestatic 30)],
  [none, none, some (.return_)]]
theorem q_code34_ok : q_dec prog_3_method_2_code q_code34 := q_chk_ok (by decide +kernel)
def q_code35 : List (List (Option Instr)) := [[some (.iconst 0), some (.istore_n 2), some (.iload_n 2), some (.iconst 4), some (.if_icmp .ge 31), none, none, some (.aload_n 0), some (.getfield 18), none, none, some (.iload_n 1), some (.iconst 4), some (.imul), some (.iload_n 2), some (.iadd)],
  [some (.iload_n 2), some (.ifCond .ne 8), none, none, some (.bipush 100), none, some (.goto 4), none, none, some (.iconst 0), some (.invokestatic 34), none, none, some (.iinc 2 1), none, none],
  [some (.goto (-30)), none, none, some (.aload_n 0), some (.getfield 21), none, none, some (.iload_n 1), some (.iconst 0), some (.invokestatic 34), none, none, some (.aload_n 0), some (.getfield 24), none, none],
  [some (.iload_n 1), some (.iconst (-1)), some (.invokestatic 34), none, none, some (.aload_n 0), some (.getfield 27), none, none, some (.iload_n 1), some (.iconst (-1)), some (.invokestatic 34), none, none, some (.return_)]]
theorem q_code35_ok : q_dec prog_3_method_3_code q_code35 := q_chk_ok (by decide +kernel)
def q_code36 : List (List (Option Instr)) := [[some (.iload_n 1), some (.bipush 6), none, some (.imul), some (.istore_n 3), some (.iload_n 3), some (.iload_n 2), some (.iadd), some (.iconst 1), some (.isub), some (.istore 4), none, some (.aload_n 0), some (.getfield 9), none, none],
  [some (.iload_n 3), some (.invokestatic 38), none, none, some (.ifCond .ne 40), none, none, some (.aload_n 0), some (.getfield 9), none, none, some (.iload 4), none, some (.invokestatic 38), none, none],
  [some (.bipush 60), none, some (.if_icmp .gt 26), none, none, some (.aload_n 0), some (.getfield 15), none, none, some (.iload_n 3), some (.invokestatic 38), none, none, some (.ifCond .eq 15), none, none],
  [some (.aload_n 0), some (.getfield 15), none, none, some (.iload 4), none, some (.invokestatic 38), none, none, some (.ifCond .eq 5), none, none, some (.iconst 0), some (.ireturn), some (.iload_n 3), some (.iconst 1)],
  [some (.iadd), some (.istore 5), none, some (.iload 5), none, some (.iload 4), none, some (.if_icmp .gt 57), none, none, some (.aload_n 0), some (.getfield 9), none, none, some (.iload 5), none],
  [some (.invokestatic 38), none, none, some (.aload_n 0), some (.getfield 9), none, none, some (.iload 5), none, some (.iconst 1), some (.isub), some (.invokestatic 38), none, none, some (.if_icmp .le 26), none],
  [none, some (.aload_n 0), some (.getfield 15), none, none, some (.iload 5), none, some (.invokestatic 38), none, none, some (.aload_n 0), some (.getfield 15), none, none, some (.iload 5), none],
  [some (.iconst 1), some (.isub), some (.invokestatic 38), none, none, some (.if_icmp .lt 5), none, none, some (.iconst 0), some (.ireturn), some (.iinc 5 1), none, none, some (.goto (-58)), none, none],
  [some (.iconst 1), some (.ireturn)]]
theorem q_code36_ok : q_dec prog_3_method_4_code q_code36 := q_chk_ok (by decide +kernel)
def q_code37 : List (List (Option Instr)) := [[some (.aload_n 0), some (.getfield 9), none, none, some (.iload_n 1), some (.bipush 6), none, some (.imul), some (.iload_n 2), some (.iadd), some (.iconst 1), some (.isub), some (.invokestatic 38), none, none, some (.ireturn)]]
theorem q_code37_ok : q_dec prog_3_method_5_code q_code37 := q_chk_ok (by decide +kernel)
def q_code38 : List (List (Option Instr)) := [[some (.aload_n 0), some (.getfield 24), none, none, some (.iload_n 1), some (.invokestatic 38), none, none, some (.istore_n 3), some (.aload_n 0), some (.getfield 27), none, none, some (.iload_n 1), some (.invokestatic 38), none],
  [none, some (.istore 4), none, some (.iload_n 3), some (.ifCond .lt 8), none, none, some (.iload 4), none, some (.ifCond .ge 6), none, none, some (.bipush 100), none, some (.ireturn), some (.iconst 0)],
  [some (.istore 5), none, some (.iconst 0), some (.istore 6), none, some (.iload_n 3), some (.bipush 100), none, some (.idiv), some (.istore 7), none, some (.iload 7), none, some (.iload 4), none, some (.bipush 100)],
  [none, some (.idiv), some (.if_icmp .gt 59), none, none, some (.iload_n 3), some (.bipush 100), none, some (.irem), some (.istore 8), none, some (.iload 8), none, some (.iload 4), none, some (.bipush 100)],
  [none, some (.irem), some (.if_icmp .gt 37), none, none, some (.iinc 5 1), none, none, some (.iload 6), none, some (.aload_n 2), some (.iload 8), none, some (.bipush 20), none, some (.imul)],
  [some (.iload 7), none, some (.iadd), some (.invokestatic 38), none, none, some (.ifCond .ne 7), none, none, some (.iconst 1), some (.goto 4), none, none, some (.iconst 0), some (.iadd), some (.istore 6)],
  [none, some (.iinc 8 1), none, none, some (.goto (-41)), none, none, some (.iinc 7 1), none, none, some (.goto (-63)), none, none, some (.iload 5), none, some (.ifCond .ne 8)],
  [none, none, some (.bipush 100), none, some (.goto 11), none, none, some (.iload 6), none, some (.bipush 100), none, some (.imul), some (.iload 5), none, some (.idiv), some (.ireturn)]]
theorem q_code38_ok : q_dec prog_3_method_6_code q_code38 := q_chk_ok (by decide +kernel)
def q_code39 : List (List (Option Instr)) := [[some (.iconst 0), some (.istore_n 2), some (.iconst 0), some (.istore_n 3), some (.iload_n 3), some (.aload_n 1), some (.getfield 42), none, none, some (.if_icmp .ge 34), none, none, some (.aload_n 1), some (.getfield 48), none, none],
  [some (.iload_n 3), some (.invokestatic 38), none, none, some (.ifCond .ne 17), none, none, some (.aload_n 0), some (.getfield 21), none, none, some (.iload_n 3), some (.invokestatic 38), none, none, some (.ifCond .eq 6)],
  [none, none, some (.iinc 2 1), none, none, some (.iinc 3 1), none, none, some (.goto (-36)), none, none, some (.iload_n 2), some (.ireturn)]]
theorem q_code39_ok : q_dec prog_3_method_7_code q_code39 := q_chk_ok (by decide +kernel)
def q_code40 : List (List (Option Instr)) := [[some (.aload_n 0), some (.invokespecial 3), none, none, some (.aload_n 0), some (.iconst 0), some (.putfield 9), none, none, some (.aload_n 0), some (.bipush 81), none, some (.newarray .int), none, some (.putfield 15), none],
  [none, some (.aload_n 0), some (.sipush 9801), none, none, some (.newarray .int), none, some (.putfield 19), none, none, some (.aload_n 0), some (.sipush 600), none, none, some (.newarray .int), none],
  [some (.putfield 22), none, none, some (.return_)]]
theorem q_code40_ok : q_dec prog_4_method_1_code q_code40 := q_chk_ok (by decide +kernel)
def q_code41 : List (List (Option Instr)) := [[some (.aload_n 0), some (.iconst 0), some (.putfield 9), none, none, some (.aload_n 1), some (.invokevirtual 25), none, none, some (.istore_n 3), some (.iconst 0), some (.istore 4), none, some (.iload 4), none, some (.iload_n 3)],
  [some (.if_icmp .ge 61), none, none, some (.aload_n 1), some (.iload 4), none, some (.aload_n 1), some (.getfield 31), none, none, some (.isub), some (.iconst 1), some (.isub), some (.invokevirtual 34), none, none],
  [some (.istore 5), none, some (.aload_n 1), some (.iload 4), none, some (.invokevirtual 38), none, none, some (.aload_n 1), some (.bipush (-128)), none, some (.bipush 127), none, some (.invokevirtual 42), none, none],
  [some (.aload_n 1), some (.aload_n 2), some (.invokestatic 46), none, none, some (.ifCond .eq 10), none, none, some (.aload_n 0), some (.aload_n 1), some (.iload 4), none, some (.invokevirtual 50), none, none, some (.aload_n 1)],
  [some (.iload 4), none, some (.iload 5), none, some (.invokevirtual 54), none, none, some (.iinc 4 1), none, none, some (.goto (-61)), none, none, some (.return_)]]
theorem q_code41_ok : q_dec prog_4_method_2_code q_code41 := q_chk_ok (by decide +kernel)
def q_code42 : List (List (Option Instr)) := [[some (.iconst 0), some (.istore_n 2), some (.iload_n 2), some (.iconst 1), some (.iadd), some (.aload_n 1), some (.getfield 57), none, none, some (.if_icmp .ge 36), none, none, some (.aload_n 0), some (.aload_n 1), some (.getfield 62), none],
  [none, some (.iload_n 2), some (.invokestatic 65), none, none, some (.invokevirtual 69), none, none, some (.aload_n 1), some (.getfield 62), none, none, some (.iload_n 2), some (.iconst 1), some (.iadd), some (.invokestatic 65)],
  [none, none, some (.if_icmp .eq 5), none, none, some (.iconst 0), some (.ireturn), some (.iinc 2 2), none, none, some (.goto (-40)), none, none, some (.iconst 1), some (.ireturn)]]
theorem q_code42_ok : q_dec prog_4_method_3_code q_code42 := q_chk_ok (by decide +kernel)
def q_code43 : List (List (Option Instr)) := [[some (.aload_n 0), some (.getfield 15), none, none, some (.aload_n 0), some (.getfield 9), none, none, some (.iload_n 2), some (.invokestatic 72), none, none, some (.iconst 0), some (.istore_n 3), some (.iload_n 3), some (.bipush 121)],
  [none, some (.if_icmp .ge 30), none, none, some (.aload_n 0), some (.getfield 19), none, none, some (.aload_n 0), some (.getfield 9), none, none, some (.bipush 121), none, some (.imul), some (.iload_n 3)],
  [some (.iadd), some (.aload_n 1), some (.iload_n 3), some (.invokevirtual 69), none, none, some (.invokestatic 72), none, none, some (.iinc 3 1), none, none, some (.goto (-30)), none, none, some (.aload_n 0)],
  [some (.dup), some (.getfield 9), none, none, some (.iconst 1), some (.iadd), some (.putfield 9), none, none, some (.return_)]]
theorem q_code43_ok : q_dec prog_4_method_4_code q_code43 := q_chk_ok (by decide +kernel)
def q_code44 : List (List (Option Instr)) := [[some (.iload_n 1), some (.ifCond .ge 10), none, none, some (.aload_n 0), some (.getfield 9), none, none, some (.goto 24), none, none, some (.iload_n 1), some (.aload_n 0), some (.getfield 9), none, none],
  [some (.if_icmp .ge 14), none, none, some (.aload_n 0), some (.getfield 15), none, none, some (.iload_n 1), some (.invokestatic 65), none, none, some (.goto 5), none, none, some (.bipush (-4)), none],
  [some (.ireturn)]]
theorem q_code44_ok : q_dec prog_4_method_5_code q_code44 := q_chk_ok (by decide +kernel)
def q_code45 : List (List (Option Instr)) := [[some (.aload_n 0), some (.getfield 9), none, none, some (.ifCond .ne 6), none, none, some (.bipush (-4)), none, some (.ireturn), some (.iconst 0), some (.istore_n 1), some (.aload_n 0), some (.getfield 9), none, none],
  [some (.iconst 1), some (.iadd), some (.istore_n 2), some (.iconst 0), some (.istore_n 3), some (.iload_n 3), some (.bipush 121), none, some (.if_icmp .ge 27), none, none, some (.aload_n 0), some (.iload_n 3), some (.invokevirtual 76), none, none],
  [some (.istore 4), none, some (.iload 4), none, some (.iload_n 2), some (.if_icmp .ge 8), none, none, some (.iload 4), none, some (.istore_n 2), some (.iload_n 3), some (.istore_n 1), some (.iinc 3 1), none, none],
  [some (.goto (-27)), none, none, some (.iload_n 1), some (.ireturn)]]
theorem q_code45_ok : q_dec prog_4_method_6_code q_code45 := q_chk_ok (by decide +kernel)
def q_code46 : List (List (Option Instr)) := [[some (.aload_n 0), some (.getfield 22), none, none, some (.iconst 0), some (.invokestatic 79), none, none, some (.iconst 0), some (.istore_n 2), some (.iconst 0), some (.istore_n 3), some (.iload_n 3), some (.aload_n 0), some (.getfield 9), none],
  [none, some (.if_icmp .ge 58), none, none, some (.aload_n 0), some (.getfield 19), none, none, some (.iload_n 3), some (.bipush 121), none, some (.imul), some (.iload_n 1), some (.iadd), some (.invokestatic 65), none],
  [none, some (.istore 4), none, some (.aload_n 0), some (.getfield 22), none, none, some (.iload 4), none, some (.aload_n 0), some (.getfield 22), none, none, some (.iload 4), none, some (.invokestatic 65)],
  [none, none, some (.iconst 1), some (.iadd), some (.invokestatic 72), none, none, some (.iload_n 2), some (.aload_n 0), some (.getfield 22), none, none, some (.iload 4), none, some (.invokestatic 65), none],
  [none, some (.invokestatic 85), none, none, some (.istore_n 2), some (.iinc 3 1), none, none, some (.goto (-60)), none, none, some (.iload_n 2), some (.ireturn)]]
theorem q_code46_ok : q_dec prog_4_method_7_code q_code46 := q_chk_ok (by decide +kernel)
def q_code47 : List (List (Option Instr)) := [[some (.aload_n 0), some (.invokespecial 3), none, none, some (.aload_n 0), some (.new 9), none, none, some (.dup), some (.invokespecial 11), none, none, some (.putfield 12), none, none, some (.aload_n 0)],
  [some (.new 18), none, none, some (.dup), some (.invokespecial 20), none, none, some (.putfield 21), none, none, some (.aload_n 0), some (.bipush 40), none, some (.anewarray 25), none, none],
  [some (.putfield 27), none, none, some (.aload_n 0), some (.new 31), none, none, some (.dup), some (.invokespecial 33), none, none, some (.putfield 34), none, none, some (.aload_n 0), some (.new 38)],
  [none, none, some (.dup), some (.invokespecial 40), none, none, some (.putfield 41), none, none, some (.iconst 0), some (.istore_n 1), some (.iload_n 1), some (.bipush 40), none, some (.if_icmp .ge 22), none],
  [none, some (.aload_n 0), some (.getfield 27), none, none, some (.iload_n 1), some (.new 25), none, none, some (.dup), some (.invokespecial 45), none, none, some (.aastore), some (.iinc 1 1), none],
  [none, some (.goto (-22)), none, none, some (.return_)]]
theorem q_code47_ok : q_dec prog_5_method_1_code q_code47 := q_chk_ok (by decide +kernel)
def q_code48 : List (List (Option Instr)) := [[some (.aload_n 0), some (.getfield 12), none, none, some (.aload_n 1), some (.getfield 12), none, none, some (.invokevirtual 46), none, none, some (.aload_n 0), some (.getfield 21), none, none, some (.aload_n 1)],
  [some (.getfield 21), none, none, some (.invokevirtual 50), none, none, some (.iconst 0), some (.istore_n 2), some (.iload_n 2), some (.aload_n 0), some (.getfield 27), none, none, some (.arraylength), some (.if_icmp .ge 48), none],
  [none, some (.iload_n 2), some (.aload_n 1), some (.getfield 27), none, none, some (.arraylength), some (.if_icmp .ge 39), none, none, some (.aload_n 0), some (.getfield 27), none, none, some (.iload_n 2), some (.aaload)],
  [some (.astore_n 3), some (.aload_n 1), some (.getfield 27), none, none, some (.iload_n 2), some (.aaload), some (.astore 4), none, some (.aload_n 3), some (.ifnull 14), none, none, some (.aload 4), none, some (.ifnull 9)],
  [none, none, some (.aload_n 3), some (.aload 4), none, some (.invokevirtual 53), none, none, some (.iinc 2 1), none, none, some (.goto (-51)), none, none, some (.aload_n 0), some (.getfield 34)],
  [none, none, some (.aload_n 1), some (.getfield 34), none, none, some (.invokevirtual 56), none, none, some (.aload_n 0), some (.getfield 41), none, none, some (.aload_n 1), some (.getfield 41), none],
  [none, some (.invokevirtual 59), none, none, some (.return_)]]
theorem q_code48_ok : q_dec prog_5_method_2_code q_code48 := q_chk_ok (by decide +kernel)
def q_code49 : List (List (Option Instr)) := [[some (.aload_n 0), some (.getfield 12), none, none, some (.iload_n 1), some (.iload_n 2), some (.invokevirtual 62), none, none, some (.istore_n 3), some (.aload_n 0), some (.getfield 21), none, none, some (.iload_n 3), some (.invokevirtual 66)],
  [none, none, some (.iload_n 3), some (.ifCond .lt 32), none, none, some (.iload_n 3), some (.aload_n 0), some (.getfield 27), none, none, some (.arraylength), some (.if_icmp .ge 23), none, none, some (.aload_n 0)],
  [some (.getfield 27), none, none, some (.iload_n 3), some (.aaload), some (.ifnull 14), none, none, some (.aload_n 0), some (.getfield 27), none, none, some (.iload_n 3), some (.aaload), some (.iconst 0), some (.iconst 5)],
  [some (.invokevirtual 69), none, none, some (.iload_n 3), some (.ireturn)]]
theorem q_code49_ok : q_dec prog_5_method_3_code q_code49 := q_chk_ok (by decide +kernel)
def q_code50 : List (List (Option Instr)) := [[some (.aload_n 0), some (.invokespecial 3), none, none, some (.aload_n 0), some (.iconst 0), some (.putfield 9), none, none, some (.aload_n 0), some (.bipush 40), none, some (.newarray .int), none, some (.putfield 15), none],
  [none, some (.aload_n 0), some (.bipush 40), none, some (.newarray .int), none, some (.putfield 19), none, none, some (.aload_n 0), some (.bipush 40), none, some (.newarray .int), none, some (.putfield 22), none],
  [none, some (.aload_n 0), some (.bipush 40), none, some (.newarray .int), none, some (.putfield 25), none, none, some (.aload_n 0), some (.sipush 320), none, none, some (.newarray .int), none, some (.putfield 28)],
  [none, none, some (.aload_n 0), some (.sipush 320), none, none, some (.newarray .int), none, some (.putfield 31), none, none, some (.aload_n 0), some (.sipush 320), none, none, some (.newarray .int)],
  [none, some (.putfield 34), none, none, some (.return_)]]
theorem q_code50_ok : q_dec prog_6_method_1_code q_code50 := q_chk_ok (by decide +kernel)
def q_code51 : List (List (Option Instr)) := [[some (.aload_n 0), some (.aload_n 1), some (.getfield 9), none, none, some (.putfield 9), none, none, some (.aload_n 1), some (.getfield 15), none, none, some (.aload_n 0), some (.getfield 15), none, none],
  [some (.invokestatic 37), none, none, some (.aload_n 1), some (.getfield 19), none, none, some (.aload_n 0), some (.getfield 19), none, none, some (.invokestatic 37), none, none, some (.aload_n 1), some (.getfield 22)],
  [none, none, some (.aload_n 0), some (.getfield 22), none, none, some (.invokestatic 37), none, none, some (.aload_n 1), some (.getfield 25), none, none, some (.aload_n 0), some (.getfield 25), none],
  [none, some (.invokestatic 37), none, none, some (.aload_n 1), some (.getfield 28), none, none, some (.aload_n 0), some (.getfield 28), none, none, some (.invokestatic 37), none, none, some (.aload_n 1)],
  [some (.getfield 31), none, none, some (.aload_n 0), some (.getfield 31), none, none, some (.invokestatic 37), none, none, some (.aload_n 1), some (.getfield 34), none, none, some (.aload_n 0), some (.getfield 34)],
  [none, none, some (.invokestatic 37), none, none, some (.return_)]]
theorem q_code51_ok : q_dec prog_6_method_2_code q_code51 := q_chk_ok (by decide +kernel)
def q_code52 : List (List (Option Instr)) := [[some (.aload_n 0), some (.getfield 9), none, none, some (.istore_n 3), some (.aload_n 0), some (.getfield 15), none, none, some (.iload_n 3), some (.iload_n 1), some (.invokestatic 41), none, none, some (.aload_n 0), some (.getfield 19)],
  [none, none, some (.iload_n 3), some (.iload_n 2), some (.invokestatic 41), none, none, some (.aload_n 0), some (.getfield 22), none, none, some (.iload_n 3), some (.iconst (-1)), some (.invokestatic 41), none, none],
  [some (.aload_n 0), some (.getfield 25), none, none, some (.iload_n 3), some (.iconst 0), some (.invokestatic 41), none, none, some (.aload_n 0), some (.dup), some (.getfield 9), none, none, some (.iconst 1), some (.iadd)],
  [some (.putfield 9), none, none, some (.iload_n 3), some (.ireturn)]]
theorem q_code52_ok : q_dec prog_6_method_3_code q_code52 := q_chk_ok (by decide +kernel)
def q_code53 : List (List (Option Instr)) := [[some (.iload_n 2), some (.ifCond .lt 23), none, none, some (.iload_n 2), some (.iload_n 1), some (.if_icmp .ge 18), none, none, some (.aload_n 0), some (.getfield 22), none, none, some (.iload_n 2), some (.invokestatic 45), none],
  [none, some (.ifCond .ge 7), none, none, some (.iconst 1), some (.goto 4), none, none, some (.iconst 0), some (.istore 5), none, some (.iload 5), none, some (.ifCond .eq 25), none, none],
  [some (.aload_n 0), some (.getfield 15), none, none, some (.iload_n 1), some (.invokestatic 45), none, none, some (.aload_n 0), some (.getfield 15), none, none, some (.iload_n 2), some (.invokestatic 45), none, none],
  [some (.invokestatic 49), none, none, some (.ifCond .ne 5), none, none, some (.iconst 0), some (.ireturn), some (.iload_n 1), some (.bipush 8), none, some (.imul), some (.aload_n 0), some (.getfield 25), none, none],
  [some (.iload_n 1), some (.invokestatic 45), none, none, some (.iadd), some (.istore 6), none, some (.aload_n 0), some (.getfield 28), none, none, some (.iload 6), none, some (.iload_n 2), some (.invokestatic 41), none],
  [none, some (.aload_n 0), some (.getfield 31), none, none, some (.iload 6), none, some (.iload_n 3), some (.invokestatic 41), none, none, some (.aload_n 0), some (.getfield 34), none, none, some (.iload 6)],
  [none, some (.iload 4), none, some (.invokestatic 41), none, none, some (.aload_n 0), some (.getfield 25), none, none, some (.iload_n 1), some (.aload_n 0), some (.getfield 25), none, none, some (.iload_n 1)],
  [some (.invokestatic 45), none, none, some (.iconst 1), some (.iadd), some (.invokestatic 41), none, none, some (.aload_n 0), some (.getfield 22), none, none, some (.iload_n 2), some (.iload_n 1), some (.invokestatic 41), none],
  [none, some (.iconst 1), some (.ireturn)]]
theorem q_code53_ok : q_dec prog_6_method_4_code q_code53 := q_chk_ok (by decide +kernel)
def q_code54 : List (List (Option Instr)) := [[some (.iload_n 0), some (.iconst 1), some (.if_icmp .ne 7), none, none, some (.iload_n 1), some (.ifCond .eq 27), none, none, some (.iload_n 0), some (.iconst 2), some (.if_icmp .ne 12), none, none, some (.iload_n 1), some (.ifCond .eq 18)],
  [none, none, some (.iload_n 1), some (.iconst 1), some (.if_icmp .eq 13), none, none, some (.iload_n 0), some (.iconst 3), some (.if_icmp .ne 12), none, none, some (.iload_n 1), some (.iconst 3), some (.if_icmp .eq 7), none],
  [none, some (.iconst 1), some (.goto 4), none, none, some (.iconst 0), some (.ireturn)]]
theorem q_code54_ok : q_dec prog_6_method_5_code q_code54 := q_chk_ok (by decide +kernel)
def q_code55 : List (List (Option Instr)) := [[some (.aload_n 0), some (.iload_n 1), some (.putfield 9), none, none, some (.iconst 0), some (.istore_n 2), some (.iload_n 2), some (.iload_n 1), some (.if_icmp .ge 30), none, none, some (.aload_n 0), some (.getfield 22), none, none],
  [some (.iload_n 2), some (.invokestatic 45), none, none, some (.iload_n 1), some (.if_icmp .lt 12), none, none, some (.aload_n 0), some (.getfield 22), none, none, some (.iload_n 2), some (.iconst (-1)), some (.invokestatic 41), none],
  [none, some (.iinc 2 1), none, none, some (.goto (-29)), none, none, some (.return_)]]
theorem q_code55_ok : q_dec prog_6_method_6_code q_code55 := q_chk_ok (by decide +kernel)
def q_code56 : List (List (Option Instr)) := [[some (.iconst 0), some (.istore_n 2), some (.iconst 0), some (.istore_n 3), some (.iload_n 3), some (.aload_n 0), some (.getfield 9), none, none, some (.if_icmp .ge 24), none, none, some (.aload_n 0), some (.getfield 15), none, none],
  [some (.iload_n 3), some (.invokestatic 45), none, none, some (.iload_n 1), some (.if_icmp .ne 6), none, none, some (.iinc 2 1), none, none, some (.iinc 3 1), none, none, some (.goto (-26)), none],
  [none, some (.iload_n 2), some (.ireturn)]]
theorem q_code56_ok : q_dec prog_6_method_7_code q_code56 := q_chk_ok (by decide +kernel)
def q_code57 : List (List (Option Instr)) := [[some (.aload_n 0), some (.invokespecial 3), none, none, some (.aload_n 0), some (.iconst 0), some (.putfield 9), none, none, some (.aload_n 0), some (.iconst 0), some (.putfield 15), none, none, some (.aload_n 0), some (.iconst 0)],
  [some (.putfield 18), none, none, some (.aload_n 0), some (.iconst 0), some (.putfield 21), none, none, some (.aload_n 0), some (.iconst 0), some (.putfield 24), none, none, some (.aload_n 0), some (.iconst 0), some (.putfield 28)],
  [none, none, some (.aload_n 0), some (.iconst 0), some (.putfield 31), none, none, some (.aload_n 0), some (.iconst 0), some (.putfield 34), none, none, some (.aload_n 0), some (.iconst 0), some (.putfield 37), none],
  [none, some (.aload_n 0), some (.bipush 120), none, some (.newarray .int), none, some (.putfield 40), none, none, some (.aload_n 0), some (.bipush 120), none, some (.newarray .int), none, some (.putfield 44), none],
  [none, some (.aload_n 0), some (.bipush 121), none, some (.newarray .int), none, some (.putfield 47), none, none, some (.aload_n 0), some (.bipush 120), none, some (.newarray .int), none, some (.putfield 50), none],
  [none, some (.aload_n 0), some (.bipush 120), none, some (.newarray .int), none, some (.putfield 53), none, none, some (.aload_n 0), some (.bipush 120), none, some (.newarray .int), none, some (.putfield 56), none],
  [none, some (.aload_n 0), some (.bipush 120), none, some (.newarray .int), none, some (.putfield 59), none, none, some (.return_)]]
theorem q_code57_ok : q_dec prog_7_method_1_code q_code57 := q_chk_ok (by decide +kernel)
def q_code58 : List (List (Option Instr)) := [[some (.aload_n 0), some (.aload_n 1), some (.invokevirtual 62), none, none, some (.ifCond .ne 12), none, none, some (.sipush (-1000)), none, none, some (.aload_n 0), some (.getfield 15), none, none, some (.isub)],
  [some (.ireturn), some (.aload_n 2), some (.getfield 66), none, none, some (.getfield 72), none, none, some (.istore_n 3), some (.iconst 0), some (.istore 4), none, some (.iload 4), none, some (.aload_n 0), some (.getfield 34)],
  [none, none, some (.if_icmp .ge 41), none, none, some (.aload_n 0), some (.aload_n 2), some (.iload 4), none, some (.invokevirtual 75), none, none, some (.ifCond .ne 25), none, none, some (.aload_n 2)],
  [some (.getfield 66), none, none, some (.iload_n 3), some (.invokevirtual 79), none, none, some (.sipush (-2000)), none, none, some (.aload_n 0), some (.getfield 40), none, none, some (.iload 4), none],
  [some (.invokestatic 83), none, none, some (.isub), some (.ireturn), some (.iinc 4 1), none, none, some (.goto (-44)), none, none, some (.aload_n 2), some (.getfield 66), none, none, some (.getfield 72)],
  [none, none, some (.iload_n 3), some (.isub), some (.ireturn)]]
theorem q_code58_ok : q_dec prog_7_method_2_code q_code58 := q_chk_ok (by decide +kernel)
def q_code59 : List (List (Option Instr)) := [[some (.aload_n 0), some (.aload_n 1), some (.getfield 87), none, none, some (.putfield 9), none, none, some (.aload_n 0), some (.iconst 0), some (.putfield 18), none, none, some (.aload_n 0), some (.iconst 0), some (.putfield 34)],
  [none, none, some (.aload_n 0), some (.iconst 0), some (.putfield 37), none, none, some (.aload_n 0), some (.iconst 0), some (.putfield 15), none, none, some (.aload_n 0), some (.getfield 15), none, none],
  [some (.aload_n 0), some (.getfield 9), none, none, some (.if_icmp .ge 36), none, none, some (.aload_n 0), some (.aload_n 1), some (.getfield 90), none, none, some (.aload_n 0), some (.getfield 15), none, none],
  [some (.invokestatic 83), none, none, some (.invokevirtual 93), none, none, some (.ifCond .ne 5), none, none, some (.iconst 0), some (.ireturn), some (.aload_n 0), some (.dup), some (.getfield 15), none, none],
  [some (.iconst 1), some (.iadd), some (.putfield 15), none, none, some (.goto (-41)), none, none, some (.aload_n 0), some (.getfield 18), none, none, some (.ifCond .ne 14), none, none, some (.aload_n 0)],
  [some (.getfield 34), none, none, some (.ifCond .le 7), none, none, some (.iconst 1), some (.goto 4), none, none, some (.iconst 0), some (.ireturn)]]
theorem q_code59_ok : q_dec prog_7_method_3_code q_code59 := q_chk_ok (by decide +kernel)
def q_code60 : List (List (Option Instr)) := [[some (.aload_n 0), some (.getfield 18), none, none, some (.ifCond .ne 9), none, none, some (.aload_n 0), some (.iload_n 1), some (.invokevirtual 97), none, none, some (.ireturn), some (.iload_n 1), some (.bipush 48), none],
  [some (.if_icmp .lt 13), none, none, some (.iload_n 1), some (.bipush 57), none, some (.if_icmp .gt 7), none, none, some (.iconst 1), some (.goto 4), none, none, some (.iconst 0), some (.istore_n 2), some (.aload_n 0)],
  [some (.getfield 18), none, none, some (.iconst 1), some (.if_icmp .ne 24), none, none, some (.iload_n 2), some (.ifCond .eq 14), none, none, some (.aload_n 0), some (.iload_n 1), some (.bipush 48), none, some (.isub)],
  [some (.invokevirtual 100), none, none, some (.goto 8), none, none, some (.aload_n 0), some (.iload_n 1), some (.invokevirtual 103), none, none, some (.ireturn), some (.iload_n 2), some (.ifCond .eq 52), none, none],
  [some (.aload_n 0), some (.getfield 18), none, none, some (.iconst 2), some (.if_icmp .ne 44), none, none, some (.aload_n 0), some (.getfield 53), none, none, some (.aload_n 0), some (.getfield 37), none, none],
  [some (.iconst 1), some (.isub), some (.bipush 10), none, some (.aload_n 0), some (.getfield 53), none, none, some (.aload_n 0), some (.getfield 37), none, none, some (.iconst 1), some (.isub), some (.invokestatic 83), none],
  [none, some (.imul), some (.iload_n 1), some (.iadd), some (.bipush 48), none, some (.isub), some (.invokestatic 106), none, none, some (.aload_n 0), some (.iconst 3), some (.putfield 18), none, none, some (.iconst 1)],
  [some (.ireturn), some (.iload_n 1), some (.bipush 47), none, some (.if_icmp .ne 10), none, none, some (.aload_n 0), some (.invokevirtual 110), none, none, some (.goto 47), none, none, some (.iload_n 1), some (.bipush 93)],
  [none, some (.if_icmp .ne 10), none, none, some (.aload_n 0), some (.invokevirtual 114), none, none, some (.goto 34), none, none, some (.iload_n 1), some (.bipush 32), none, some (.if_icmp .ne 10), none],
  [none, some (.aload_n 0), some (.invokevirtual 117), none, none, some (.goto 21), none, none, some (.iload_n 1), some (.bipush 59), none, some (.if_icmp .ne 14), none, none, some (.aload_n 0), some (.invokevirtual 120)],
  [none, none, some (.ifCond .eq 7), none, none, some (.iconst 1), some (.goto 4), none, none, some (.iconst 0), some (.ireturn)]]
theorem q_code60_ok : q_dec prog_7_method_4_code q_code60 := q_chk_ok (by decide +kernel)
def q_code61 : List (List (Option Instr)) := [[some (.iload_n 1), some (.bipush 99), none, some (.if_icmp .eq 23), none, none, some (.iload_n 1), some (.bipush 114), none, some (.if_icmp .eq 17), none, none, some (.iload_n 1), some (.bipush 102), none, some (.if_icmp .eq 11)],
  [none, none, some (.iload_n 1), some (.bipush 98), none, some (.if_icmp .eq 5), none, none, some (.iconst 0), some (.ireturn), some (.aload_n 0), some (.getfield 40), none, none, some (.aload_n 0), some (.getfield 34)],
  [none, none, some (.aload_n 0), some (.getfield 15), none, none, some (.invokestatic 106), none, none, some (.aload_n 0), some (.getfield 44), none, none, some (.aload_n 0), some (.getfield 34), none],
  [none, some (.iload_n 1), some (.invokestatic 106), none, none, some (.aload_n 0), some (.iload_n 1), some (.putfield 21), none, none, some (.aload_n 0), some (.iconst 0), some (.putfield 24), none, none, some (.aload_n 0)],
  [some (.iconst 0), some (.putfield 28), none, none, some (.aload_n 0), some (.iconst 1), some (.putfield 31), none, none, some (.aload_n 0), some (.iconst 1), some (.putfield 18), none, none, some (.iconst 1), some (.ireturn)]]
theorem q_code61_ok : q_dec prog_7_method_5_code q_code61 := q_chk_ok (by decide +kernel)
def q_code62 : List (List (Option Instr)) := [[some (.aload_n 0), some (.getfield 53), none, none, some (.aload_n 0), some (.getfield 37), none, none, some (.iload_n 1), some (.invokestatic 106), none, none, some (.aload_n 0), some (.getfield 56), none, none],
  [some (.aload_n 0), some (.getfield 37), none, none, some (.aload_n 0), some (.getfield 31), none, none, some (.iconst 1), some (.isub), some (.invokestatic 106), none, none, some (.aload_n 0), some (.getfield 59), none],
  [none, some (.aload_n 0), some (.getfield 37), none, none, some (.aload_n 0), some (.getfield 28), none, none, some (.invokestatic 106), none, none, some (.aload_n 0), some (.dup), some (.getfield 37), none],
  [none, some (.iconst 1), some (.iadd), some (.putfield 37), none, none, some (.aload_n 0), some (.iload_n 1), some (.ifCond .ne 7), none, none, some (.iconst 3), some (.goto 4), none, none, some (.iconst 2)],
  [some (.putfield 18), none, none, some (.iconst 1), some (.ireturn)]]
theorem q_code62_ok : q_dec prog_7_method_6_code q_code62 := q_chk_ok (by decide +kernel)
def q_code63 : List (List (Option Instr)) := [[some (.iload_n 1), some (.bipush 91), none, some (.if_icmp .ne 19), none, none, some (.aload_n 0), some (.getfield 21), none, none, some (.bipush 114), none, some (.if_icmp .ne 10), none, none, some (.aload_n 0)],
  [some (.getfield 28), none, none, some (.ifCond .eq 5), none, none, some (.iconst 0), some (.ireturn), some (.aload_n 0), some (.iconst 1), some (.putfield 28), none, none, some (.iconst 1), some (.ireturn)]]
theorem q_code63_ok : q_dec prog_7_method_7_code q_code63 := q_chk_ok (by decide +kernel)
def q_code64 : List (List (Option Instr)) := [[some (.aload_n 0), some (.getfield 21), none, none, some (.bipush 99), none, some (.if_icmp .ne 10), none, none, some (.aload_n 0), some (.getfield 24), none, none, some (.ifCond .eq 5), none, none],
  [some (.iconst 0), some (.ireturn), some (.aload_n 0), some (.iconst 1), some (.putfield 24), none, none, some (.aload_n 0), some (.iconst 1), some (.putfield 18), none, none, some (.iconst 1), some (.ireturn)]]
theorem q_code64_ok : q_dec prog_7_method_8_code q_code64 := q_chk_ok (by decide +kernel)
def q_code65 : List (List (Option Instr)) := [[some (.aload_n 0), some (.getfield 28), none, none, some (.ifCond .ne 5), none, none, some (.iconst 0), some (.ireturn), some (.aload_n 0), some (.iconst 0), some (.putfield 28), none, none, some (.aload_n 0), some (.iconst 3)],
  [some (.putfield 18), none, none, some (.iconst 1), some (.ireturn)]]
theorem q_code65_ok : q_dec prog_7_method_9_code q_code65 := q_chk_ok (by decide +kernel)
def q_code66 : List (List (Option Instr)) := [[some (.aload_n 0), some (.getfield 21), none, none, some (.bipush 98), none, some (.if_icmp .eq 19), none, none, some (.aload_n 0), some (.getfield 21), none, none, some (.bipush 99), none, some (.if_icmp .ne 12)],
  [none, none, some (.aload_n 0), some (.getfield 24), none, none, some (.ifCond .ne 5), none, none, some (.iconst 0), some (.ireturn), some (.aload_n 0), some (.getfield 28), none, none, some (.ifCond .ne 13)],
  [none, none, some (.aload_n 0), some (.dup), some (.getfield 31), none, none, some (.iconst 1), some (.iadd), some (.putfield 31), none, none, some (.aload_n 0), some (.iconst 0), some (.putfield 24), none],
  [none, some (.aload_n 0), some (.iconst 1), some (.putfield 18), none, none, some (.iconst 1), some (.ireturn)]]
theorem q_code66_ok : q_dec prog_7_method_10_code q_code66 := q_chk_ok (by decide +kernel)
def q_code67 : List (List (Option Instr)) := [[some (.aload_n 0), some (.getfield 28), none, none, some (.ifCond .ne 19), none, none, some (.aload_n 0), some (.getfield 21), none, none, some (.bipush 99), none, some (.if_icmp .ne 12), none, none],
  [some (.aload_n 0), some (.getfield 24), none, none, some (.ifCond .ne 5), none, none, some (.iconst 0), some (.ireturn), some (.aload_n 0), some (.getfield 50), none, none, some (.aload_n 0), some (.getfield 34), none],
  [none, some (.aload_n 0), some (.getfield 31), none, none, some (.invokestatic 106), none, none, some (.aload_n 0), some (.dup), some (.getfield 34), none, none, some (.iconst 1), some (.iadd), some (.putfield 34)],
  [none, none, some (.aload_n 0), some (.getfield 47), none, none, some (.aload_n 0), some (.getfield 34), none, none, some (.aload_n 0), some (.getfield 37), none, none, some (.invokestatic 106), none],
  [none, some (.aload_n 0), some (.iconst 0), some (.putfield 18), none, none, some (.iconst 1), some (.ireturn)]]
theorem q_code67_ok : q_dec prog_7_method_11_code q_code67 := q_chk_ok (by decide +kernel)
