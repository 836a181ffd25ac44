def q_at {α : Type} (L : List (List (Option α))) (pc : Nat) : Option α := match (L.getD (pc / 16) []).getD (pc % 16) none with
  | some i => some i
  | none => none
/-- the listed instructions are what the bytes decode to -/
def q_chk (b : ByteArray) (L : List (List (Option Instr))) : Bool := (List.range (16 * L.length)).all (fun pc => match q_at L pc with
  | some i => (match decode b pc with
    | .ok (j, len) => decide (j = i) && (decide (m_len i = len) || decide (m_len i = 0))
    | _ => false)
  | none => true)
def q_chkR (b : ByteArray) (L : List (List (Option Instr))) (lo n : Nat) : Bool := (List.range n).all (fun k => match q_at L (lo + k) with
  | some i => (match decode b (lo + k) with
    | .ok (j, len) => decide (j = i) && (decide (m_len i = len) || decide (m_len i = 0))
    | _ => false)
  | none => true)
def q_dec (b : ByteArray) (L : List (List (Option Instr))) : Prop := ∀ (pc : Nat) (i : Instr), q_at L pc = some i → ∃ len, decode b pc = .ok (i, len) ∧ (m_len i = len ∨ m_len i = 0)
theorem q_at_lt {L : List (List (Option Instr))} {pc : Nat} {i : Instr} (hi : q_at L pc = some i) : pc < 16 * L.length := by
  refine Nat.lt_of_not_le fun hge => ?_
  have h1 : L.getD (pc / 16) [] = [] := by
    rw [List.getD_eq_getElem?_getD, List.getElem?_eq_none (by omega)]; rfl
  unfold q_at at hi
  rw [h1] at hi
  cases hi
theorem q_chkR_ok {b : ByteArray} {L : List (List (Option Instr))} {m k : Nat} (hm : 16 * L.length ≤ k * m) (h : ∀ j, j < m → q_chkR b L (j * k) k = true) : q_dec b L := by
  intro pc i hi
  have hlt := Nat.lt_of_lt_of_le (q_at_lt hi) hm
  have hk : 0 < k := Nat.pos_of_ne_zero fun h0 => by subst h0; omega
  have hj : pc / k < m := (Nat.div_lt_iff_lt_mul hk).mpr (by rw [Nat.mul_comm]; exact hlt)
  have h2 := List.all_eq_true.mp (h _ hj) (pc % k) (List.mem_range.mpr (Nat.mod_lt _ hk))
  rw [show pc / k * k + pc % k = pc by rw [Nat.mul_comm]; exact Nat.div_add_mod _ _] at h2
  rw [hi] at h2
  dsimp only at h2
  split at h2
  · rename_i j len hd
    simp only [Bool.and_eq_true, Bool.or_eq_true, decide_eq_true_eq] at h2
    obtain ⟨rfl, h3⟩ := h2
    exact ⟨len, hd, h3⟩
  · cases h2
theorem q_chk_ok {b : ByteArray} {L : List (List (Option Instr))} (h : q_chk b L = true) : q_dec b L := by
  intro pc i hi
  have hlt : pc < 16 * L.length := by
    refine Nat.lt_of_not_le fun hge => ?_
    have h1 : L.getD (pc / 16) [] = [] := by
      rw [List.getD_eq_getElem?_getD, List.getElem?_eq_none (by omega)]; rfl
    unfold q_at at hi
    rw [h1] at hi
    cases hi
  have h2 := List.all_eq_true.mp h pc (List.mem_range.mpr hlt)
  rw [hi] at h2
  dsimp only at h2
  split at h2
  · rename_i j len hd
    simp only [Bool.and_eq_true, Bool.or_eq_true, decide_eq_true_eq] at h2
    obtain ⟨rfl, h3⟩ := h2
    exact ⟨len, hd, h3⟩
  · cases h2
/-! a quick decoder of the instructions that occur -/
def f_dec (x0 x1 x2 : Nat) : Option (Instr × Nat) := match x0 with
  | 1 => some (.aconst_null, 1)
  | 2 => some ((.iconst (-1)), 1)
  | 3 => some ((.iconst 0), 1)
  | 4 => some ((.iconst 1), 1)
  | 5 => some ((.iconst 2), 1)
  | 6 => some ((.iconst 3), 1)
  | 7 => some ((.iconst 4), 1)
  | 8 => some ((.iconst 5), 1)
  | 9 => some ((.lconst 0), 1)
  | 10 => some ((.lconst 1), 1)
  | 26 => some ((.iload_n 0), 1)
  | 27 => some ((.iload_n 1), 1)
  | 28 => some ((.iload_n 2), 1)
  | 29 => some ((.iload_n 3), 1)
  | 30 => some ((.lload_n 0), 1)
  | 31 => some ((.lload_n 1), 1)
  | 32 => some ((.lload_n 2), 1)
  | 33 => some ((.lload_n 3), 1)
  | 42 => some ((.aload_n 0), 1)
  | 43 => some ((.aload_n 1), 1)
  | 44 => some ((.aload_n 2), 1)
  | 45 => some ((.aload_n 3), 1)
  | 59 => some ((.istore_n 0), 1)
  | 60 => some ((.istore_n 1), 1)
  | 61 => some ((.istore_n 2), 1)
  | 62 => some ((.istore_n 3), 1)
  | 63 => some ((.lstore_n 0), 1)
  | 64 => some ((.lstore_n 1), 1)
  | 65 => some ((.lstore_n 2), 1)
  | 66 => some ((.lstore_n 3), 1)
  | 75 => some ((.astore_n 0), 1)
  | 76 => some ((.astore_n 1), 1)
  | 77 => some ((.astore_n 2), 1)
  | 78 => some ((.astore_n 3), 1)
  | 46 => some (.iaload, 1)
  | 50 => some (.aaload, 1)
  | 79 => some (.iastore, 1)
  | 80 => some (.lastore, 1)
  | 83 => some (.aastore, 1)
  | 87 => some (.pop, 1)
  | 89 => some (.dup, 1)
  | 92 => some (.dup2, 1)
  | 96 => some (.iadd, 1)
  | 97 => some (.ladd, 1)
  | 100 => some (.isub, 1)
  | 101 => some (.lsub, 1)
  | 104 => some (.imul, 1)
  | 105 => some (.lmul, 1)
  | 108 => some (.idiv, 1)
  | 109 => some (.ldiv, 1)
  | 112 => some (.irem, 1)
  | 116 => some (.ineg, 1)
  | 120 => some (.ishl, 1)
  | 122 => some (.ishr, 1)
  | 124 => some (.iushr, 1)
  | 126 => some (.iand, 1)
  | 128 => some (.ior, 1)
  | 130 => some (.ixor, 1)
  | 133 => some (.i2l, 1)
  | 136 => some (.l2i, 1)
  | 145 => some (.i2b, 1)
  | 147 => some (.i2s, 1)
  | 148 => some (.lcmp, 1)
  | 172 => some (.ireturn, 1)
  | 173 => some (.lreturn, 1)
  | 176 => some (.areturn, 1)
  | 177 => some (.return_, 1)
  | 190 => some (.arraylength, 1)
  | 191 => some (.athrow, 1)
  | 18 => some (.ldc x1, 2)
  | 21 => some (.iload x1, 2)
  | 22 => some (.lload x1, 2)
  | 25 => some (.aload x1, 2)
  | 54 => some (.istore x1, 2)
  | 55 => some (.lstore x1, 2)
  | 58 => some (.astore x1, 2)
  | 16 => some (.bipush (Reader.signed 8 x1), 2)
  | 19 => some (.ldc_w (x1 * 256 + x2), 3)
  | 20 => some (.ldc2_w (x1 * 256 + x2), 3)
  | 178 => some (.getstatic (x1 * 256 + x2), 3)
  | 180 => some (.getfield (x1 * 256 + x2), 3)
  | 181 => some (.putfield (x1 * 256 + x2), 3)
  | 182 => some (.invokevirtual (x1 * 256 + x2), 3)
  | 183 => some (.invokespecial (x1 * 256 + x2), 3)
  | 184 => some (.invokestatic (x1 * 256 + x2), 3)
  | 187 => some (.new (x1 * 256 + x2), 3)
  | 189 => some (.anewarray (x1 * 256 + x2), 3)
  | 17 => some (.sipush (Reader.signed 16 (x1 * 256 + x2)), 3)
  | 167 => some (.goto (Reader.signed 16 (x1 * 256 + x2)), 3)
  | 198 => some (.ifnull (Reader.signed 16 (x1 * 256 + x2)), 3)
  | 199 => some (.ifnonnull (Reader.signed 16 (x1 * 256 + x2)), 3)
  | 153 => some (.ifCond .eq (Reader.signed 16 (x1 * 256 + x2)), 3)
  | 154 => some (.ifCond .ne (Reader.signed 16 (x1 * 256 + x2)), 3)
  | 155 => some (.ifCond .lt (Reader.signed 16 (x1 * 256 + x2)), 3)
  | 156 => some (.ifCond .ge (Reader.signed 16 (x1 * 256 + x2)), 3)
  | 157 => some (.ifCond .gt (Reader.signed 16 (x1 * 256 + x2)), 3)
  | 158 => some (.ifCond .le (Reader.signed 16 (x1 * 256 + x2)), 3)
  | 159 => some (.if_icmp .eq (Reader.signed 16 (x1 * 256 + x2)), 3)
  | 160 => some (.if_icmp .ne (Reader.signed 16 (x1 * 256 + x2)), 3)
  | 161 => some (.if_icmp .lt (Reader.signed 16 (x1 * 256 + x2)), 3)
  | 162 => some (.if_icmp .ge (Reader.signed 16 (x1 * 256 + x2)), 3)
  | 163 => some (.if_icmp .gt (Reader.signed 16 (x1 * 256 + x2)), 3)
  | 164 => some (.if_icmp .le (Reader.signed 16 (x1 * 256 + x2)), 3)
  | 132 => some (.iinc x1 (Reader.signed 8 x2), 3)
  | 188 => match x1 with
    | 10 => some (.newarray .int, 2)
    | 11 => some (.newarray .long, 2)
    | _ => none
  | _ => none
def f_b (b : ByteArray) (p : Nat) : Option Nat := (b.data.toList[p]?).map UInt8.toNat
section FD
variable {b : ByteArray} {p pc : Nat}
theorem f_bind {α β : Type} {x : Decoder α} {f : α → Decoder β} {a : α} {p' : Nat} (h : x b p = .ok (a, p')) : (x >>= f) b p = f a b p' := by
  show Except.bind (x b p) _ = _
  rw [h]
  rfl
theorem f_u1 {x : Nat} (h : f_b b p = some x) : (Reader.u1 : Decoder Nat) b p = .ok (x, p + 1) := by
  unfold f_b at h
  have hp : p < b.data.toList.length := by
    rcases Nat.lt_or_ge p b.data.toList.length with c | c
    · exact c
    · rw [List.getElem?_eq_none c] at h
      cases h
  rw [List.getElem?_eq_getElem hp] at h
  have hs : p < b.size := by
    rw [Array.length_toList] at hp
    exact hp
  have hx : (b[p]'hs).toNat = x := Option.some.inj h
  show ((if h : p < b.size then (do set (p + 1); pure (b[p]'h).toNat : Decoder Nat) else throw (HasTruncated.truncated p)) : Decoder Nat) b p = _
  rw [dif_pos hs]
  show Except.ok ((b[p]'hs).toNat, p + 1) = _
  rw [hx]
theorem f_pure {α : Type} {a : α} : (pure a : Decoder α) b p = .ok (a, p) := rfl
theorem f_1 {x : Nat} {C : Nat → Instr} (h : f_b b p = some x) : ((Reader.u1 : Decoder Nat) >>= fun k => pure (C k)) b p = .ok (C x, p + 1) := by
  rw [f_bind (f_u1 h)]
  rfl
theorem f_u2 {x y : Nat} (h : f_b b p = some x) (h2 : f_b b (p + 1) = some y) : (Reader.u2 : Decoder Nat) b p = .ok (x * 256 + y, p + 2) := by
  unfold Reader.u2
  rw [f_bind (f_u1 h), f_bind (f_u1 h2)]
  rfl
theorem f_2 {x y : Nat} {C : Nat → Instr} (h : f_b b p = some x) (h2 : f_b b (p + 1) = some y) : ((Reader.u2 : Decoder Nat) >>= fun k => pure (C k)) b p = .ok (C (x * 256 + y), p + 2) := by
  rw [f_bind (f_u2 h h2)]
  rfl
theorem f_s1 {x : Nat} (h : f_b b p = some x) : (Reader.s1 : Decoder Int) b p = .ok (Reader.signed 8 x, p + 1) := by
  show ((Reader.u1 : Decoder Nat) >>= fun k => pure (Reader.signed 8 k)) b p = _
  rw [f_bind (f_u1 h)]
  rfl
theorem f_s2 {x y : Nat} (h : f_b b p = some x) (h2 : f_b b (p + 1) = some y) : (Reader.s2 : Decoder Int) b p = .ok (Reader.signed 16 (x * 256 + y), p + 2) := by
  show ((Reader.u2 : Decoder Nat) >>= fun k => pure (Reader.signed 16 k)) b p = _
  rw [f_bind (f_u2 h h2)]
  rfl
theorem f_3 {x : Nat} {C : Int → Instr} (h : f_b b p = some x) : ((Reader.s1 : Decoder Int) >>= fun k => pure (C k)) b p = .ok (C (Reader.signed 8 x), p + 1) := by
  rw [f_bind (f_s1 h)]
  rfl
theorem f_4 {x y : Nat} {C : Int → Instr} (h : f_b b p = some x) (h2 : f_b b (p + 1) = some y) : ((Reader.s2 : Decoder Int) >>= fun k => pure (C k)) b p = .ok (C (Reader.signed 16 (x * 256 + y)), p + 2) := by
  rw [f_bind (f_s2 h h2)]
  rfl
theorem f_5 {x y : Nat} {C : Nat → Int → Instr} (h : f_b b p = some x) (h2 : f_b b (p + 1) = some y) : ((Reader.u1 : Decoder Nat) >>= fun k => (Reader.s1 : Decoder Int) >>= fun d => pure (C k d)) b p = .ok (C x (Reader.signed 8 y), p + 2) := by
  rw [f_bind (f_u1 h), f_bind (f_s1 h2)]
  rfl
theorem f_end {i : Instr} {n : Nat} (h : Decoder.instr pc b pc = .ok (i, pc + n)) : decode b pc = .ok (i, n) := by
  show Except.bind (Decoder.instr pc b pc) (fun r => Except.ok (r.1, r.2 - pc)) = _
  rw [h]
  show Except.ok (i, pc + n - pc) = _
  rw [Nat.add_sub_cancel_left]

set_option maxRecDepth 100000 in
theorem f_d1 (h0 : f_b b pc = some 1) : decode b pc = .ok (.aconst_null, 1) := by
  refine f_end ((f_bind (f_u1 h0)).trans ?_)
  rfl
set_option maxRecDepth 100000 in
theorem f_d2 (h0 : f_b b pc = some 2) : decode b pc = .ok ((.iconst (-1)), 1) := by
  refine f_end ((f_bind (f_u1 h0)).trans ?_)
  rfl
set_option maxRecDepth 100000 in
theorem f_d3 (h0 : f_b b pc = some 3) : decode b pc = .ok ((.iconst 0), 1) := by
  refine f_end ((f_bind (f_u1 h0)).trans ?_)
  rfl
set_option maxRecDepth 100000 in
theorem f_d4 (h0 : f_b b pc = some 4) : decode b pc = .ok ((.iconst 1), 1) := by
  refine f_end ((f_bind (f_u1 h0)).trans ?_)
  rfl
set_option maxRecDepth 100000 in
theorem f_d5 (h0 : f_b b pc = some 5) : decode b pc = .ok ((.iconst 2), 1) := by
  refine f_end ((f_bind (f_u1 h0)).trans ?_)
  rfl
set_option maxRecDepth 100000 in
theorem f_d6 (h0 : f_b b pc = some 6) : decode b pc = .ok ((.iconst 3), 1) := by
  refine f_end ((f_bind (f_u1 h0)).trans ?_)
  rfl
set_option maxRecDepth 100000 in
theorem f_d7 (h0 : f_b b pc = some 7) : decode b pc = .ok ((.iconst 4), 1) := by
  refine f_end ((f_bind (f_u1 h0)).trans ?_)
  rfl
set_option maxRecDepth 100000 in
theorem f_d8 (h0 : f_b b pc = some 8) : decode b pc = .ok ((.iconst 5), 1) := by
  refine f_end ((f_bind (f_u1 h0)).trans ?_)
  rfl
set_option maxRecDepth 100000 in
theorem f_d9 (h0 : f_b b pc = some 9) : decode b pc = .ok ((.lconst 0), 1) := by
  refine f_end ((f_bind (f_u1 h0)).trans ?_)
  rfl
set_option maxRecDepth 100000 in
theorem f_d10 (h0 : f_b b pc = some 10) : decode b pc = .ok ((.lconst 1), 1) := by
  refine f_end ((f_bind (f_u1 h0)).trans ?_)
  rfl
set_option maxRecDepth 100000 in
theorem f_d26 (h0 : f_b b pc = some 26) : decode b pc = .ok ((.iload_n 0), 1) := by
  refine f_end ((f_bind (f_u1 h0)).trans ?_)
  rfl
set_option maxRecDepth 100000 in
theorem f_d27 (h0 : f_b b pc = some 27) : decode b pc = .ok ((.iload_n 1), 1) := by
  refine f_end ((f_bind (f_u1 h0)).trans ?_)
  rfl
set_option maxRecDepth 100000 in
theorem f_d28 (h0 : f_b b pc = some 28) : decode b pc = .ok ((.iload_n 2), 1) := by
  refine f_end ((f_bind (f_u1 h0)).trans ?_)
  rfl
set_option maxRecDepth 100000 in
theorem f_d29 (h0 : f_b b pc = some 29) : decode b pc = .ok ((.iload_n 3), 1) := by
  refine f_end ((f_bind (f_u1 h0)).trans ?_)
  rfl
set_option maxRecDepth 100000 in
theorem f_d30 (h0 : f_b b pc = some 30) : decode b pc = .ok ((.lload_n 0), 1) := by
  refine f_end ((f_bind (f_u1 h0)).trans ?_)
  rfl
set_option maxRecDepth 100000 in
theorem f_d31 (h0 : f_b b pc = some 31) : decode b pc = .ok ((.lload_n 1), 1) := by
  refine f_end ((f_bind (f_u1 h0)).trans ?_)
  rfl
set_option maxRecDepth 100000 in
theorem f_d32 (h0 : f_b b pc = some 32) : decode b pc = .ok ((.lload_n 2), 1) := by
  refine f_end ((f_bind (f_u1 h0)).trans ?_)
  rfl
set_option maxRecDepth 100000 in
theorem f_d33 (h0 : f_b b pc = some 33) : decode b pc = .ok ((.lload_n 3), 1) := by
  refine f_end ((f_bind (f_u1 h0)).trans ?_)
  rfl
set_option maxRecDepth 100000 in
theorem f_d42 (h0 : f_b b pc = some 42) : decode b pc = .ok ((.aload_n 0), 1) := by
  refine f_end ((f_bind (f_u1 h0)).trans ?_)
  rfl
set_option maxRecDepth 100000 in
theorem f_d43 (h0 : f_b b pc = some 43) : decode b pc = .ok ((.aload_n 1), 1) := by
  refine f_end ((f_bind (f_u1 h0)).trans ?_)
  rfl
set_option maxRecDepth 100000 in
theorem f_d44 (h0 : f_b b pc = some 44) : decode b pc = .ok ((.aload_n 2), 1) := by
  refine f_end ((f_bind (f_u1 h0)).trans ?_)
  rfl
set_option maxRecDepth 100000 in
theorem f_d45 (h0 : f_b b pc = some 45) : decode b pc = .ok ((.aload_n 3), 1) := by
  refine f_end ((f_bind (f_u1 h0)).trans ?_)
  rfl
set_option maxRecDepth 100000 in
theorem f_d59 (h0 : f_b b pc = some 59) : decode b pc = .ok ((.istore_n 0), 1) := by
  refine f_end ((f_bind (f_u1 h0)).trans ?_)
  rfl
set_option maxRecDepth 100000 in
theorem f_d60 (h0 : f_b b pc = some 60) : decode b pc = .ok ((.istore_n 1), 1) := by
  refine f_end ((f_bind (f_u1 h0)).trans ?_)
  rfl
set_option maxRecDepth 100000 in
theorem f_d61 (h0 : f_b b pc = some 61) : decode b pc = .ok ((.istore_n 2), 1) := by
  refine f_end ((f_bind (f_u1 h0)).trans ?_)
  rfl
set_option maxRecDepth 100000 in
theorem f_d62 (h0 : f_b b pc = some 62) : decode b pc = .ok ((.istore_n 3), 1) := by
  refine f_end ((f_bind (f_u1 h0)).trans ?_)
  rfl
set_option maxRecDepth 100000 in
theorem f_d63 (h0 : f_b b pc = some 63) : decode b pc = .ok ((.lstore_n 0), 1) := by
  refine f_end ((f_bind (f_u1 h0)).trans ?_)
  rfl
set_option maxRecDepth 100000 in
theorem f_d64 (h0 : f_b b pc = some 64) : decode b pc = .ok ((.lstore_n 1), 1) := by
  refine f_end ((f_bind (f_u1 h0)).trans ?_)
  rfl
set_option maxRecDepth 100000 in
theorem f_d65 (h0 : f_b b pc = some 65) : decode b pc = .ok ((.lstore_n 2), 1) := by
  refine f_end ((f_bind (f_u1 h0)).trans ?_)
  rfl
set_option maxRecDepth 100000 in
theorem f_d66 (h0 : f_b b pc = some 66) : decode b pc = .ok ((.lstore_n 3), 1) := by
  refine f_end ((f_bind (f_u1 h0)).trans ?_)
  rfl
set_option maxRecDepth 100000 in
theorem f_d75 (h0 : f_b b pc = some 75) : decode b pc = .ok ((.astore_n 0), 1) := by
  refine f_end ((f_bind (f_u1 h0)).trans ?_)
  rfl
set_option maxRecDepth 100000 in
theorem f_d76 (h0 : f_b b pc = some 76) : decode b pc = .ok ((.astore_n 1), 1) := by
  refine f_end ((f_bind (f_u1 h0)).trans ?_)
  rfl
set_option maxRecDepth 100000 in
theorem f_d77 (h0 : f_b b pc = some 77) : decode b pc = .ok ((.astore_n 2), 1) := by
  refine f_end ((f_bind (f_u1 h0)).trans ?_)
  rfl
set_option maxRecDepth 100000 in
theorem f_d78 (h0 : f_b b pc = some 78) : decode b pc = .ok ((.astore_n 3), 1) := by
  refine f_end ((f_bind (f_u1 h0)).trans ?_)
  rfl
set_option maxRecDepth 100000 in
theorem f_d46 (h0 : f_b b pc = some 46) : decode b pc = .ok (.iaload, 1) := by
  refine f_end ((f_bind (f_u1 h0)).trans ?_)
  rfl
set_option maxRecDepth 100000 in
theorem f_d50 (h0 : f_b b pc = some 50) : decode b pc = .ok (.aaload, 1) := by
  refine f_end ((f_bind (f_u1 h0)).trans ?_)
  rfl
set_option maxRecDepth 100000 in
theorem f_d79 (h0 : f_b b pc = some 79) : decode b pc = .ok (.iastore, 1) := by
  refine f_end ((f_bind (f_u1 h0)).trans ?_)
  rfl
set_option maxRecDepth 100000 in
theorem f_d80 (h0 : f_b b pc = some 80) : decode b pc = .ok (.lastore, 1) := by
  refine f_end ((f_bind (f_u1 h0)).trans ?_)
  rfl
set_option maxRecDepth 100000 in
theorem f_d83 (h0 : f_b b pc = some 83) : decode b pc = .ok (.aastore, 1) := by
  refine f_end ((f_bind (f_u1 h0)).trans ?_)
  rfl
set_option maxRecDepth 100000 in
theorem f_d87 (h0 : f_b b pc = some 87) : decode b pc = .ok (.pop, 1) := by
  refine f_end ((f_bind (f_u1 h0)).trans ?_)
  rfl
set_option maxRecDepth 100000 in
theorem f_d89 (h0 : f_b b pc = some 89) : decode b pc = .ok (.dup, 1) := by
  refine f_end ((f_bind (f_u1 h0)).trans ?_)
  rfl
set_option maxRecDepth 100000 in
theorem f_d92 (h0 : f_b b pc = some 92) : decode b pc = .ok (.dup2, 1) := by
  refine f_end ((f_bind (f_u1 h0)).trans ?_)
  rfl
set_option maxRecDepth 100000 in
theorem f_d96 (h0 : f_b b pc = some 96) : decode b pc = .ok (.iadd, 1) := by
  refine f_end ((f_bind (f_u1 h0)).trans ?_)
  rfl
set_option maxRecDepth 100000 in
theorem f_d97 (h0 : f_b b pc = some 97) : decode b pc = .ok (.ladd, 1) := by
  refine f_end ((f_bind (f_u1 h0)).trans ?_)
  rfl
set_option maxRecDepth 100000 in
theorem f_d100 (h0 : f_b b pc = some 100) : decode b pc = .ok (.isub, 1) := by
  refine f_end ((f_bind (f_u1 h0)).trans ?_)
  rfl
set_option maxRecDepth 100000 in
theorem f_d101 (h0 : f_b b pc = some 101) : decode b pc = .ok (.lsub, 1) := by
  refine f_end ((f_bind (f_u1 h0)).trans ?_)
  rfl
set_option maxRecDepth 100000 in
theorem f_d104 (h0 : f_b b pc = some 104) : decode b pc = .ok (.imul, 1) := by
  refine f_end ((f_bind (f_u1 h0)).trans ?_)
  rfl
set_option maxRecDepth 100000 in
theorem f_d105 (h0 : f_b b pc = some 105) : decode b pc = .ok (.lmul, 1) := by
  refine f_end ((f_bind (f_u1 h0)).trans ?_)
  rfl
set_option maxRecDepth 100000 in
theorem f_d108 (h0 : f_b b pc = some 108) : decode b pc = .ok (.idiv, 1) := by
  refine f_end ((f_bind (f_u1 h0)).trans ?_)
  rfl
set_option maxRecDepth 100000 in
theorem f_d109 (h0 : f_b b pc = some 109) : decode b pc = .ok (.ldiv, 1) := by
  refine f_end ((f_bind (f_u1 h0)).trans ?_)
  rfl
set_option maxRecDepth 100000 in
theorem f_d112 (h0 : f_b b pc = some 112) : decode b pc = .ok (.irem, 1) := by
  refine f_end ((f_bind (f_u1 h0)).trans ?_)
  rfl
set_option maxRecDepth 100000 in
theorem f_d116 (h0 : f_b b pc = some 116) : decode b pc = .ok (.ineg, 1) := by
  refine f_end ((f_bind (f_u1 h0)).trans ?_)
  rfl
set_option maxRecDepth 100000 in
theorem f_d120 (h0 : f_b b pc = some 120) : decode b pc = .ok (.ishl, 1) := by
  refine f_end ((f_bind (f_u1 h0)).trans ?_)
  rfl
set_option maxRecDepth 100000 in
theorem f_d122 (h0 : f_b b pc = some 122) : decode b pc = .ok (.ishr, 1) := by
  refine f_end ((f_bind (f_u1 h0)).trans ?_)
  rfl
set_option maxRecDepth 100000 in
theorem f_d124 (h0 : f_b b pc = some 124) : decode b pc = .ok (.iushr, 1) := by
  refine f_end ((f_bind (f_u1 h0)).trans ?_)
  rfl
set_option maxRecDepth 100000 in
theorem f_d126 (h0 : f_b b pc = some 126) : decode b pc = .ok (.iand, 1) := by
  refine f_end ((f_bind (f_u1 h0)).trans ?_)
  rfl
set_option maxRecDepth 100000 in
theorem f_d128 (h0 : f_b b pc = some 128) : decode b pc = .ok (.ior, 1) := by
  refine f_end ((f_bind (f_u1 h0)).trans ?_)
  rfl
set_option maxRecDepth 100000 in
theorem f_d130 (h0 : f_b b pc = some 130) : decode b pc = .ok (.ixor, 1) := by
  refine f_end ((f_bind (f_u1 h0)).trans ?_)
  rfl
set_option maxRecDepth 100000 in
theorem f_d133 (h0 : f_b b pc = some 133) : decode b pc = .ok (.i2l, 1) := by
  refine f_end ((f_bind (f_u1 h0)).trans ?_)
  rfl
set_option maxRecDepth 100000 in
theorem f_d136 (h0 : f_b b pc = some 136) : decode b pc = .ok (.l2i, 1) := by
  refine f_end ((f_bind (f_u1 h0)).trans ?_)
  rfl
set_option maxRecDepth 100000 in
theorem f_d145 (h0 : f_b b pc = some 145) : decode b pc = .ok (.i2b, 1) := by
  refine f_end ((f_bind (f_u1 h0)).trans ?_)
  rfl
set_option maxRecDepth 100000 in
theorem f_d147 (h0 : f_b b pc = some 147) : decode b pc = .ok (.i2s, 1) := by
  refine f_end ((f_bind (f_u1 h0)).trans ?_)
  rfl
set_option maxRecDepth 100000 in
theorem f_d148 (h0 : f_b b pc = some 148) : decode b pc = .ok (.lcmp, 1) := by
  refine f_end ((f_bind (f_u1 h0)).trans ?_)
  rfl
set_option maxRecDepth 100000 in
theorem f_d172 (h0 : f_b b pc = some 172) : decode b pc = .ok (.ireturn, 1) := by
  refine f_end ((f_bind (f_u1 h0)).trans ?_)
  rfl
set_option maxRecDepth 100000 in
theorem f_d173 (h0 : f_b b pc = some 173) : decode b pc = .ok (.lreturn, 1) := by
  refine f_end ((f_bind (f_u1 h0)).trans ?_)
  rfl
set_option maxRecDepth 100000 in
theorem f_d176 (h0 : f_b b pc = some 176) : decode b pc = .ok (.areturn, 1) := by
  refine f_end ((f_bind (f_u1 h0)).trans ?_)
  rfl
set_option maxRecDepth 100000 in
theorem f_d177 (h0 : f_b b pc = some 177) : decode b pc = .ok (.return_, 1) := by
  refine f_end ((f_bind (f_u1 h0)).trans ?_)
  rfl
set_option maxRecDepth 100000 in
theorem f_d190 (h0 : f_b b pc = some 190) : decode b pc = .ok (.arraylength, 1) := by
  refine f_end ((f_bind (f_u1 h0)).trans ?_)
  rfl
set_option maxRecDepth 100000 in
theorem f_d191 (h0 : f_b b pc = some 191) : decode b pc = .ok (.athrow, 1) := by
  refine f_end ((f_bind (f_u1 h0)).trans ?_)
  rfl
set_option maxRecDepth 100000 in
theorem f_d18 (h0 : f_b b pc = some 18) {x1 : Nat} (h1 : f_b b (pc + 1) = some x1) : decode b pc = .ok (.ldc x1, 2) := by
  refine f_end ((f_bind (f_u1 h0)).trans ?_)
  exact f_1 (C := fun k => .ldc k) h1
set_option maxRecDepth 100000 in
theorem f_d21 (h0 : f_b b pc = some 21) {x1 : Nat} (h1 : f_b b (pc + 1) = some x1) : decode b pc = .ok (.iload x1, 2) := by
  refine f_end ((f_bind (f_u1 h0)).trans ?_)
  exact f_1 (C := fun k => .iload k) h1
set_option maxRecDepth 100000 in
theorem f_d22 (h0 : f_b b pc = some 22) {x1 : Nat} (h1 : f_b b (pc + 1) = some x1) : decode b pc = .ok (.lload x1, 2) := by
  refine f_end ((f_bind (f_u1 h0)).trans ?_)
  exact f_1 (C := fun k => .lload k) h1
set_option maxRecDepth 100000 in
theorem f_d25 (h0 : f_b b pc = some 25) {x1 : Nat} (h1 : f_b b (pc + 1) = some x1) : decode b pc = .ok (.aload x1, 2) := by
  refine f_end ((f_bind (f_u1 h0)).trans ?_)
  exact f_1 (C := fun k => .aload k) h1
set_option maxRecDepth 100000 in
theorem f_d54 (h0 : f_b b pc = some 54) {x1 : Nat} (h1 : f_b b (pc + 1) = some x1) : decode b pc = .ok (.istore x1, 2) := by
  refine f_end ((f_bind (f_u1 h0)).trans ?_)
  exact f_1 (C := fun k => .istore k) h1
set_option maxRecDepth 100000 in
theorem f_d55 (h0 : f_b b pc = some 55) {x1 : Nat} (h1 : f_b b (pc + 1) = some x1) : decode b pc = .ok (.lstore x1, 2) := by
  refine f_end ((f_bind (f_u1 h0)).trans ?_)
  exact f_1 (C := fun k => .lstore k) h1
set_option maxRecDepth 100000 in
theorem f_d58 (h0 : f_b b pc = some 58) {x1 : Nat} (h1 : f_b b (pc + 1) = some x1) : decode b pc = .ok (.astore x1, 2) := by
  refine f_end ((f_bind (f_u1 h0)).trans ?_)
  exact f_1 (C := fun k => .astore k) h1
set_option maxRecDepth 100000 in
theorem f_d16 (h0 : f_b b pc = some 16) {x1 : Nat} (h1 : f_b b (pc + 1) = some x1) : decode b pc = .ok (.bipush (Reader.signed 8 x1), 2) := by
  refine f_end ((f_bind (f_u1 h0)).trans ?_)
  exact f_3 (C := fun k => .bipush k) h1
set_option maxRecDepth 100000 in
theorem f_d19 (h0 : f_b b pc = some 19) {x1 x2 : Nat} (h1 : f_b b (pc + 1) = some x1) (h2 : f_b b (pc + 2) = some x2) : decode b pc = .ok (.ldc_w (x1 * 256 + x2), 3) := by
  refine f_end ((f_bind (f_u1 h0)).trans ?_)
  exact f_2 (C := fun k => .ldc_w k) h1 h2
set_option maxRecDepth 100000 in
theorem f_d20 (h0 : f_b b pc = some 20) {x1 x2 : Nat} (h1 : f_b b (pc + 1) = some x1) (h2 : f_b b (pc + 2) = some x2) : decode b pc = .ok (.ldc2_w (x1 * 256 + x2), 3) := by
  refine f_end ((f_bind (f_u1 h0)).trans ?_)
  exact f_2 (C := fun k => .ldc2_w k) h1 h2
set_option maxRecDepth 100000 in
theorem f_d178 (h0 : f_b b pc = some 178) {x1 x2 : Nat} (h1 : f_b b (pc + 1) = some x1) (h2 : f_b b (pc + 2) = some x2) : decode b pc = .ok (.getstatic (x1 * 256 + x2), 3) := by
  refine f_end ((f_bind (f_u1 h0)).trans ?_)
  exact f_2 (C := fun k => .getstatic k) h1 h2
set_option maxRecDepth 100000 in
theorem f_d180 (h0 : f_b b pc = some 180) {x1 x2 : Nat} (h1 : f_b b (pc + 1) = some x1) (h2 : f_b b (pc + 2) = some x2) : decode b pc = .ok (.getfield (x1 * 256 + x2), 3) := by
  refine f_end ((f_bind (f_u1 h0)).trans ?_)
  exact f_2 (C := fun k => .getfield k) h1 h2
set_option maxRecDepth 100000 in
theorem f_d181 (h0 : f_b b pc = some 181) {x1 x2 : Nat} (h1 : f_b b (pc + 1) = some x1) (h2 : f_b b (pc + 2) = some x2) : decode b pc = .ok (.putfield (x1 * 256 + x2), 3) := by
  refine f_end ((f_bind (f_u1 h0)).trans ?_)
  exact f_2 (C := fun k => .putfield k) h1 h2
set_option maxRecDepth 100000 in
theorem f_d182 (h0 : f_b b pc = some 182) {x1 x2 : Nat} (h1 : f_b b (pc + 1) = some x1) (h2 : f_b b (pc + 2) = some x2) : decode b pc = .ok (.invokevirtual (x1 * 256 + x2), 3) := by
  refine f_end ((f_bind (f_u1 h0)).trans ?_)
  exact f_2 (C := fun k => .invokevirtual k) h1 h2
set_option maxRecDepth 100000 in
theorem f_d183 (h0 : f_b b pc = some 183) {x1 x2 : Nat} (h1 : f_b b (pc + 1) = some x1) (h2 : f_b b (pc + 2) = some x2) : decode b pc = .ok (.invokespecial (x1 * 256 + x2), 3) := by
  refine f_end ((f_bind (f_u1 h0)).trans ?_)
  exact f_2 (C := fun k => .invokespecial k) h1 h2
set_option maxRecDepth 100000 in
theorem f_d184 (h0 : f_b b pc = some 184) {x1 x2 : Nat} (h1 : f_b b (pc + 1) = some x1) (h2 : f_b b (pc + 2) = some x2) : decode b pc = .ok (.invokestatic (x1 * 256 + x2), 3) := by
  refine f_end ((f_bind (f_u1 h0)).trans ?_)
  exact f_2 (C := fun k => .invokestatic k) h1 h2
set_option maxRecDepth 100000 in
theorem f_d187 (h0 : f_b b pc = some 187) {x1 x2 : Nat} (h1 : f_b b (pc + 1) = some x1) (h2 : f_b b (pc + 2) = some x2) : decode b pc = .ok (.new (x1 * 256 + x2), 3) := by
  refine f_end ((f_bind (f_u1 h0)).trans ?_)
  exact f_2 (C := fun k => .new k) h1 h2
set_option maxRecDepth 100000 in
theorem f_d189 (h0 : f_b b pc = some 189) {x1 x2 : Nat} (h1 : f_b b (pc + 1) = some x1) (h2 : f_b b (pc + 2) = some x2) : decode b pc = .ok (.anewarray (x1 * 256 + x2), 3) := by
  refine f_end ((f_bind (f_u1 h0)).trans ?_)
  exact f_2 (C := fun k => .anewarray k) h1 h2
set_option maxRecDepth 100000 in
theorem f_d17 (h0 : f_b b pc = some 17) {x1 x2 : Nat} (h1 : f_b b (pc + 1) = some x1) (h2 : f_b b (pc + 2) = some x2) : decode b pc = .ok (.sipush (Reader.signed 16 (x1 * 256 + x2)), 3) := by
  refine f_end ((f_bind (f_u1 h0)).trans ?_)
  exact f_4 (C := fun k => .sipush k) h1 h2
set_option maxRecDepth 100000 in
theorem f_d167 (h0 : f_b b pc = some 167) {x1 x2 : Nat} (h1 : f_b b (pc + 1) = some x1) (h2 : f_b b (pc + 2) = some x2) : decode b pc = .ok (.goto (Reader.signed 16 (x1 * 256 + x2)), 3) := by
  refine f_end ((f_bind (f_u1 h0)).trans ?_)
  exact f_4 (C := fun k => .goto k) h1 h2
set_option maxRecDepth 100000 in
theorem f_d198 (h0 : f_b b pc = some 198) {x1 x2 : Nat} (h1 : f_b b (pc + 1) = some x1) (h2 : f_b b (pc + 2) = some x2) : decode b pc = .ok (.ifnull (Reader.signed 16 (x1 * 256 + x2)), 3) := by
  refine f_end ((f_bind (f_u1 h0)).trans ?_)
  exact f_4 (C := fun k => .ifnull k) h1 h2
set_option maxRecDepth 100000 in
theorem f_d199 (h0 : f_b b pc = some 199) {x1 x2 : Nat} (h1 : f_b b (pc + 1) = some x1) (h2 : f_b b (pc + 2) = some x2) : decode b pc = .ok (.ifnonnull (Reader.signed 16 (x1 * 256 + x2)), 3) := by
  refine f_end ((f_bind (f_u1 h0)).trans ?_)
  exact f_4 (C := fun k => .ifnonnull k) h1 h2
set_option maxRecDepth 100000 in
theorem f_d153 (h0 : f_b b pc = some 153) {x1 x2 : Nat} (h1 : f_b b (pc + 1) = some x1) (h2 : f_b b (pc + 2) = some x2) : decode b pc = .ok (.ifCond .eq (Reader.signed 16 (x1 * 256 + x2)), 3) := by
  refine f_end ((f_bind (f_u1 h0)).trans ?_)
  exact f_4 (C := fun k => .ifCond .eq k) h1 h2
set_option maxRecDepth 100000 in
theorem f_d154 (h0 : f_b b pc = some 154) {x1 x2 : Nat} (h1 : f_b b (pc + 1) = some x1) (h2 : f_b b (pc + 2) = some x2) : decode b pc = .ok (.ifCond .ne (Reader.signed 16 (x1 * 256 + x2)), 3) := by
  refine f_end ((f_bind (f_u1 h0)).trans ?_)
  exact f_4 (C := fun k => .ifCond .ne k) h1 h2
set_option maxRecDepth 100000 in
theorem f_d155 (h0 : f_b b pc = some 155) {x1 x2 : Nat} (h1 : f_b b (pc + 1) = some x1) (h2 : f_b b (pc + 2) = some x2) : decode b pc = .ok (.ifCond .lt (Reader.signed 16 (x1 * 256 + x2)), 3) := by
  refine f_end ((f_bind (f_u1 h0)).trans ?_)
  exact f_4 (C := fun k => .ifCond .lt k) h1 h2
set_option maxRecDepth 100000 in
theorem f_d156 (h0 : f_b b pc = some 156) {x1 x2 : Nat} (h1 : f_b b (pc + 1) = some x1) (h2 : f_b b (pc + 2) = some x2) : decode b pc = .ok (.ifCond .ge (Reader.signed 16 (x1 * 256 + x2)), 3) := by
  refine f_end ((f_bind (f_u1 h0)).trans ?_)
  exact f_4 (C := fun k => .ifCond .ge k) h1 h2
set_option maxRecDepth 100000 in
theorem f_d157 (h0 : f_b b pc = some 157) {x1 x2 : Nat} (h1 : f_b b (pc + 1) = some x1) (h2 : f_b b (pc + 2) = some x2) : decode b pc = .ok (.ifCond .gt (Reader.signed 16 (x1 * 256 + x2)), 3) := by
  refine f_end ((f_bind (f_u1 h0)).trans ?_)
  exact f_4 (C := fun k => .ifCond .gt k) h1 h2
set_option maxRecDepth 100000 in
theorem f_d158 (h0 : f_b b pc = some 158) {x1 x2 : Nat} (h1 : f_b b (pc + 1) = some x1) (h2 : f_b b (pc + 2) = some x2) : decode b pc = .ok (.ifCond .le (Reader.signed 16 (x1 * 256 + x2)), 3) := by
  refine f_end ((f_bind (f_u1 h0)).trans ?_)
  exact f_4 (C := fun k => .ifCond .le k) h1 h2
set_option maxRecDepth 100000 in
theorem f_d159 (h0 : f_b b pc = some 159) {x1 x2 : Nat} (h1 : f_b b (pc + 1) = some x1) (h2 : f_b b (pc + 2) = some x2) : decode b pc = .ok (.if_icmp .eq (Reader.signed 16 (x1 * 256 + x2)), 3) := by
  refine f_end ((f_bind (f_u1 h0)).trans ?_)
  exact f_4 (C := fun k => .if_icmp .eq k) h1 h2
set_option maxRecDepth 100000 in
theorem f_d160 (h0 : f_b b pc = some 160) {x1 x2 : Nat} (h1 : f_b b (pc + 1) = some x1) (h2 : f_b b (pc + 2) = some x2) : decode b pc = .ok (.if_icmp .ne (Reader.signed 16 (x1 * 256 + x2)), 3) := by
  refine f_end ((f_bind (f_u1 h0)).trans ?_)
  exact f_4 (C := fun k => .if_icmp .ne k) h1 h2
set_option maxRecDepth 100000 in
theorem f_d161 (h0 : f_b b pc = some 161) {x1 x2 : Nat} (h1 : f_b b (pc + 1) = some x1) (h2 : f_b b (pc + 2) = some x2) : decode b pc = .ok (.if_icmp .lt (Reader.signed 16 (x1 * 256 + x2)), 3) := by
  refine f_end ((f_bind (f_u1 h0)).trans ?_)
  exact f_4 (C := fun k => .if_icmp .lt k) h1 h2
set_option maxRecDepth 100000 in
theorem f_d162 (h0 : f_b b pc = some 162) {x1 x2 : Nat} (h1 : f_b b (pc + 1) = some x1) (h2 : f_b b (pc + 2) = some x2) : decode b pc = .ok (.if_icmp .ge (Reader.signed 16 (x1 * 256 + x2)), 3) := by
  refine f_end ((f_bind (f_u1 h0)).trans ?_)
  exact f_4 (C := fun k => .if_icmp .ge k) h1 h2
set_option maxRecDepth 100000 in
theorem f_d163 (h0 : f_b b pc = some 163) {x1 x2 : Nat} (h1 : f_b b (pc + 1) = some x1) (h2 : f_b b (pc + 2) = some x2) : decode b pc = .ok (.if_icmp .gt (Reader.signed 16 (x1 * 256 + x2)), 3) := by
  refine f_end ((f_bind (f_u1 h0)).trans ?_)
  exact f_4 (C := fun k => .if_icmp .gt k) h1 h2
set_option maxRecDepth 100000 in
theorem f_d164 (h0 : f_b b pc = some 164) {x1 x2 : Nat} (h1 : f_b b (pc + 1) = some x1) (h2 : f_b b (pc + 2) = some x2) : decode b pc = .ok (.if_icmp .le (Reader.signed 16 (x1 * 256 + x2)), 3) := by
  refine f_end ((f_bind (f_u1 h0)).trans ?_)
  exact f_4 (C := fun k => .if_icmp .le k) h1 h2
set_option maxRecDepth 100000 in
theorem f_d132 (h0 : f_b b pc = some 132) {x1 x2 : Nat} (h1 : f_b b (pc + 1) = some x1) (h2 : f_b b (pc + 2) = some x2) : decode b pc = .ok (.iinc x1 (Reader.signed 8 x2), 3) := by
  refine f_end ((f_bind (f_u1 h0)).trans ?_)
  exact f_5 (C := fun k d => .iinc k d) h1 h2
set_option maxRecDepth 100000 in
theorem f_d188_10 (h0 : f_b b pc = some 188) (h1 : f_b b (pc + 1) = some 10) : decode b pc = .ok (.newarray .int, 2) := by
  refine f_end ((f_bind (f_u1 h0)).trans ?_)
  show (Decoder.newarray pc) b (pc + 1) = _
  unfold Decoder.newarray
  rw [f_bind (f_u1 h1)]
  rfl
set_option maxRecDepth 100000 in
theorem f_d188_11 (h0 : f_b b pc = some 188) (h1 : f_b b (pc + 1) = some 11) : decode b pc = .ok (.newarray .long, 2) := by
  refine f_end ((f_bind (f_u1 h0)).trans ?_)
  show (Decoder.newarray pc) b (pc + 1) = _
  unfold Decoder.newarray
  rw [f_bind (f_u1 h1)]
  rfl
set_option maxRecDepth 100000 in
theorem f_dec_ok {x0 x1 x2 n : Nat} {i : Instr} (h : f_dec x0 x1 x2 = some (i, n)) (h0 : f_b b pc = some x0) (h1 : 2 ≤ n → f_b b (pc + 1) = some x1) (h2 : 3 ≤ n → f_b b (pc + 2) = some x2) : decode b pc = .ok (i, n) := by
  unfold f_dec at h
  split at h
  · cases h; exact f_d1 h0
  · cases h; exact f_d2 h0
  · cases h; exact f_d3 h0
  · cases h; exact f_d4 h0
  · cases h; exact f_d5 h0
  · cases h; exact f_d6 h0
  · cases h; exact f_d7 h0
  · cases h; exact f_d8 h0
  · cases h; exact f_d9 h0
  · cases h; exact f_d10 h0
  · cases h; exact f_d26 h0
  · cases h; exact f_d27 h0
  · cases h; exact f_d28 h0
  · cases h; exact f_d29 h0
  · cases h; exact f_d30 h0
  · cases h; exact f_d31 h0
  · cases h; exact f_d32 h0
  · cases h; exact f_d33 h0
  · cases h; exact f_d42 h0
  · cases h; exact f_d43 h0
  · cases h; exact f_d44 h0
  · cases h; exact f_d45 h0
  · cases h; exact f_d59 h0
  · cases h; exact f_d60 h0
  · cases h; exact f_d61 h0
  · cases h; exact f_d62 h0
  · cases h; exact f_d63 h0
  · cases h; exact f_d64 h0
  · cases h; exact f_d65 h0
  · cases h; exact f_d66 h0
  · cases h; exact f_d75 h0
  · cases h; exact f_d76 h0
  · cases h; exact f_d77 h0
  · cases h; exact f_d78 h0
  · cases h; exact f_d46 h0
  · cases h; exact f_d50 h0
  · cases h; exact f_d79 h0
  · cases h; exact f_d80 h0
  · cases h; exact f_d83 h0
  · cases h; exact f_d87 h0
  · cases h; exact f_d89 h0
  · cases h; exact f_d92 h0
  · cases h; exact f_d96 h0
  · cases h; exact f_d97 h0
  · cases h; exact f_d100 h0
  · cases h; exact f_d101 h0
  · cases h; exact f_d104 h0
  · cases h; exact f_d105 h0
  · cases h; exact f_d108 h0
  · cases h; exact f_d109 h0
  · cases h; exact f_d112 h0
  · cases h; exact f_d116 h0
  · cases h; exact f_d120 h0
  · cases h; exact f_d122 h0
  · cases h; exact f_d124 h0
  · cases h; exact f_d126 h0
  · cases h; exact f_d128 h0
  · cases h; exact f_d130 h0
  · cases h; exact f_d133 h0
  · cases h; exact f_d136 h0
  · cases h; exact f_d145 h0
  · cases h; exact f_d147 h0
  · cases h; exact f_d148 h0
  · cases h; exact f_d172 h0
  · cases h; exact f_d173 h0
  · cases h; exact f_d176 h0
  · cases h; exact f_d177 h0
  · cases h; exact f_d190 h0
  · cases h; exact f_d191 h0
  · cases h; exact f_d18 h0 (h1 (by decide))
  · cases h; exact f_d21 h0 (h1 (by decide))
  · cases h; exact f_d22 h0 (h1 (by decide))
  · cases h; exact f_d25 h0 (h1 (by decide))
  · cases h; exact f_d54 h0 (h1 (by decide))
  · cases h; exact f_d55 h0 (h1 (by decide))
  · cases h; exact f_d58 h0 (h1 (by decide))
  · cases h; exact f_d16 h0 (h1 (by decide))
  · cases h; exact f_d19 h0 (h1 (by decide)) (h2 (by decide))
  · cases h; exact f_d20 h0 (h1 (by decide)) (h2 (by decide))
  · cases h; exact f_d178 h0 (h1 (by decide)) (h2 (by decide))
  · cases h; exact f_d180 h0 (h1 (by decide)) (h2 (by decide))
  · cases h; exact f_d181 h0 (h1 (by decide)) (h2 (by decide))
  · cases h; exact f_d182 h0 (h1 (by decide)) (h2 (by decide))
  · cases h; exact f_d183 h0 (h1 (by decide)) (h2 (by decide))
  · cases h; exact f_d184 h0 (h1 (by decide)) (h2 (by decide))
  · cases h; exact f_d187 h0 (h1 (by decide)) (h2 (by decide))
  · cases h; exact f_d189 h0 (h1 (by decide)) (h2 (by decide))
  · cases h; exact f_d17 h0 (h1 (by decide)) (h2 (by decide))
  · cases h; exact f_d167 h0 (h1 (by decide)) (h2 (by decide))
  · cases h; exact f_d198 h0 (h1 (by decide)) (h2 (by decide))
  · cases h; exact f_d199 h0 (h1 (by decide)) (h2 (by decide))
  · cases h; exact f_d153 h0 (h1 (by decide)) (h2 (by decide))
  · cases h; exact f_d154 h0 (h1 (by decide)) (h2 (by decide))
  · cases h; exact f_d155 h0 (h1 (by decide)) (h2 (by decide))
  · cases h; exact f_d156 h0 (h1 (by decide)) (h2 (by decide))
  · cases h; exact f_d157 h0 (h1 (by decide)) (h2 (by decide))
  · cases h; exact f_d158 h0 (h1 (by decide)) (h2 (by decide))
  · cases h; exact f_d159 h0 (h1 (by decide)) (h2 (by decide))
  · cases h; exact f_d160 h0 (h1 (by decide)) (h2 (by decide))
  · cases h; exact f_d161 h0 (h1 (by decide)) (h2 (by decide))
  · cases h; exact f_d162 h0 (h1 (by decide)) (h2 (by decide))
  · cases h; exact f_d163 h0 (h1 (by decide)) (h2 (by decide))
  · cases h; exact f_d164 h0 (h1 (by decide)) (h2 (by decide))
  · cases h; exact f_d132 h0 (h1 (by decide)) (h2 (by decide))
  · split at h
    · cases h; exact f_d188_10 h0 (h1 (by decide))
    · cases h; exact f_d188_11 h0 (h1 (by decide))
    · cases h
  · cases h
end FD
/-! the same by a table; a whole code in one walk -/
def f_no : Nat → Nat → Option (Instr × Nat) := fun _ _ => none
def f_new : Nat → Nat → Option (Instr × Nat) := fun x1 _ => match x1 with
  | 10 => some (.newarray .int, 2)
  | 11 => some (.newarray .long, 2)
  | _ => none
def f_tab : List (List (Nat → Nat → Option (Instr × Nat))) := [[f_no, fun _ _ => some (.aconst_null, 1), fun _ _ => some ((.iconst (-1)), 1), fun _ _ => some ((.iconst 0), 1), fun _ _ => some ((.iconst 1), 1), fun _ _ => some ((.iconst 2), 1), fun _ _ => some ((.iconst 3), 1), fun _ _ => some ((.iconst 4), 1), fun _ _ => some ((.iconst 5), 1), fun _ _ => some ((.lconst 0), 1), fun _ _ => some ((.lconst 1), 1), f_no, f_no, f_no, f_no, f_no],
  [fun x1 _ => some (.bipush (Reader.signed 8 x1), 2), fun x1 x2 => some (.sipush (Reader.signed 16 (x1 * 256 + x2)), 3), fun x1 _ => some (.ldc x1, 2), fun x1 x2 => some (.ldc_w (x1 * 256 + x2), 3), fun x1 x2 => some (.ldc2_w (x1 * 256 + x2), 3), fun x1 _ => some (.iload x1, 2), fun x1 _ => some (.lload x1, 2), f_no, f_no, fun x1 _ => some (.aload x1, 2), fun _ _ => some ((.iload_n 0), 1), fun _ _ => some ((.iload_n 1), 1), fun _ _ => some ((.iload_n 2), 1), fun _ _ => some ((.iload_n 3), 1), fun _ _ => some ((.lload_n 0), 1), fun _ _ => some ((.lload_n 1), 1)],
  [fun _ _ => some ((.lload_n 2), 1), fun _ _ => some ((.lload_n 3), 1), f_no, f_no, f_no, f_no, f_no, f_no, f_no, f_no, fun _ _ => some ((.aload_n 0), 1), fun _ _ => some ((.aload_n 1), 1), fun _ _ => some ((.aload_n 2), 1), fun _ _ => some ((.aload_n 3), 1), fun _ _ => some (.iaload, 1), f_no],
  [f_no, f_no, fun _ _ => some (.aaload, 1), f_no, f_no, f_no, fun x1 _ => some (.istore x1, 2), fun x1 _ => some (.lstore x1, 2), f_no, f_no, fun x1 _ => some (.astore x1, 2), fun _ _ => some ((.istore_n 0), 1), fun _ _ => some ((.istore_n 1), 1), fun _ _ => some ((.istore_n 2), 1), fun _ _ => some ((.istore_n 3), 1), fun _ _ => some ((.lstore_n 0), 1)],
  [fun _ _ => some ((.lstore_n 1), 1), fun _ _ => some ((.lstore_n 2), 1), fun _ _ => some ((.lstore_n 3), 1), f_no, f_no, f_no, f_no, f_no, f_no, f_no, f_no, fun _ _ => some ((.astore_n 0), 1), fun _ _ => some ((.astore_n 1), 1), fun _ _ => some ((.astore_n 2), 1), fun _ _ => some ((.astore_n 3), 1), fun _ _ => some (.iastore, 1)],
  [fun _ _ => some (.lastore, 1), f_no, f_no, fun _ _ => some (.aastore, 1), f_no, f_no, f_no, fun _ _ => some (.pop, 1), f_no, fun _ _ => some (.dup, 1), f_no, f_no, fun _ _ => some (.dup2, 1), f_no, f_no, f_no],
  [fun _ _ => some (.iadd, 1), fun _ _ => some (.ladd, 1), f_no, f_no, fun _ _ => some (.isub, 1), fun _ _ => some (.lsub, 1), f_no, f_no, fun _ _ => some (.imul, 1), fun _ _ => some (.lmul, 1), f_no, f_no, fun _ _ => some (.idiv, 1), fun _ _ => some (.ldiv, 1), f_no, f_no],
  [fun _ _ => some (.irem, 1), f_no, f_no, f_no, fun _ _ => some (.ineg, 1), f_no, f_no, f_no, fun _ _ => some (.ishl, 1), f_no, fun _ _ => some (.ishr, 1), f_no, fun _ _ => some (.iushr, 1), f_no, fun _ _ => some (.iand, 1), f_no],
  [fun _ _ => some (.ior, 1), f_no, fun _ _ => some (.ixor, 1), f_no, fun x1 x2 => some (.iinc x1 (Reader.signed 8 x2), 3), fun _ _ => some (.i2l, 1), f_no, f_no, fun _ _ => some (.l2i, 1), f_no, f_no, f_no, f_no, f_no, f_no, f_no],
  [f_no, fun _ _ => some (.i2b, 1), f_no, fun _ _ => some (.i2s, 1), fun _ _ => some (.lcmp, 1), f_no, f_no, f_no, f_no, fun x1 x2 => some (.ifCond .eq (Reader.signed 16 (x1 * 256 + x2)), 3), fun x1 x2 => some (.ifCond .ne (Reader.signed 16 (x1 * 256 + x2)), 3), fun x1 x2 => some (.ifCond .lt (Reader.signed 16 (x1 * 256 + x2)), 3), fun x1 x2 => some (.ifCond .ge (Reader.signed 16 (x1 * 256 + x2)), 3), fun x1 x2 => some (.ifCond .gt (Reader.signed 16 (x1 * 256 + x2)), 3), fun x1 x2 => some (.ifCond .le (Reader.signed 16 (x1 * 256 + x2)), 3), fun x1 x2 => some (.if_icmp .eq (Reader.signed 16 (x1 * 256 + x2)), 3)],
  [fun x1 x2 => some (.if_icmp .ne (Reader.signed 16 (x1 * 256 + x2)), 3), fun x1 x2 => some (.if_icmp .lt (Reader.signed 16 (x1 * 256 + x2)), 3), fun x1 x2 => some (.if_icmp .ge (Reader.signed 16 (x1 * 256 + x2)), 3), fun x1 x2 => some (.if_icmp .gt (Reader.signed 16 (x1 * 256 + x2)), 3), fun x1 x2 => some (.if_icmp .le (Reader.signed 16 (x1 * 256 + x2)), 3), f_no, f_no, fun x1 x2 => some (.goto (Reader.signed 16 (x1 * 256 + x2)), 3), f_no, f_no, f_no, f_no, fun _ _ => some (.ireturn, 1), fun _ _ => some (.lreturn, 1), f_no, f_no],
  [fun _ _ => some (.areturn, 1), fun _ _ => some (.return_, 1), fun x1 x2 => some (.getstatic (x1 * 256 + x2), 3), f_no, fun x1 x2 => some (.getfield (x1 * 256 + x2), 3), fun x1 x2 => some (.putfield (x1 * 256 + x2), 3), fun x1 x2 => some (.invokevirtual (x1 * 256 + x2), 3), fun x1 x2 => some (.invokespecial (x1 * 256 + x2), 3), fun x1 x2 => some (.invokestatic (x1 * 256 + x2), 3), f_no, f_no, fun x1 x2 => some (.new (x1 * 256 + x2), 3), f_new, fun x1 x2 => some (.anewarray (x1 * 256 + x2), 3), fun _ _ => some (.arraylength, 1), fun _ _ => some (.athrow, 1)],
  [f_no, f_no, f_no, f_no, f_no, f_no, fun x1 x2 => some (.ifnull (Reader.signed 16 (x1 * 256 + x2)), 3), fun x1 x2 => some (.ifnonnull (Reader.signed 16 (x1 * 256 + x2)), 3), f_no, f_no, f_no, f_no, f_no, f_no, f_no, f_no],
  [f_no, f_no, f_no, f_no, f_no, f_no, f_no, f_no, f_no, f_no, f_no, f_no, f_no, f_no, f_no, f_no],
  [f_no, f_no, f_no, f_no, f_no, f_no, f_no, f_no, f_no, f_no, f_no, f_no, f_no, f_no, f_no, f_no],
  [f_no, f_no, f_no, f_no, f_no, f_no, f_no, f_no, f_no, f_no, f_no, f_no, f_no, f_no, f_no, f_no]]
def f_dq (x0 x1 x2 : Nat) : Option (Instr × Nat) := ((f_tab.getD (x0 / 16) []).getD (x0 % 16) f_no) x1 x2
theorem f_tabe : f_tab = (List.range 16).map (fun a => (List.range 16).map (fun c => f_dec (16 * a + c))) := rfl
theorem f_dq_ok {x0 x1 x2 : Nat} {r : Instr × Nat} (h : f_dq x0 x1 x2 = some r) : f_dec x0 x1 x2 = some r := by
  unfold f_dq at h
  rw [f_tabe] at h
  by_cases c : x0 / 16 < 16 ∧ x0 % 16 < 16
  · have e : ((List.range 16).map (fun a => (List.range 16).map (fun c => f_dec (16 * a + c)))).getD (x0 / 16) [] = (List.range 16).map (fun c => f_dec (16 * (x0 / 16) + c)) := by
      rw [List.getD_eq_getElem?_getD, List.getElem?_map, List.getElem?_range c.1]
      rfl
    rw [e, List.getD_eq_getElem?_getD, List.getElem?_map, List.getElem?_range c.2] at h
    have h : f_dec (16 * (x0 / 16) + x0 % 16) x1 x2 = some r := h
    rw [show 16 * (x0 / 16) + x0 % 16 = x0 by omega] at h
    exact h
  · have z : ((List.range 16).map (fun a => (List.range 16).map (fun c => f_dec (16 * a + c)))).getD (x0 / 16) [] = [] := by
      rw [List.getD_eq_getElem?_getD, List.getElem?_eq_none (by rw [List.length_map, List.length_range]; omega)]
      rfl
    rw [z] at h
    cases h
def f_h : List Nat → Nat
  | [] => 0
  | x :: _ => x
def f_e : List Nat → Bool
  | [] => false
  | _ :: _ => true
def f_in1 (b : ByteArray) (pc : Nat) (i : Instr) (x0 : Nat) (T : List Nat) : Bool := match f_dq x0 (f_h T) (f_h T.tail) with
  | some (j, len) => decide (j = i) && (Nat.beq (m_len i) len && ((Nat.ble len 1 || f_e T) && (Nat.ble len 2 || f_e T.tail)))
  | none => match decode b pc with
    | .ok (j, len) => decide (j = i) && (decide (m_len i = len) || decide (m_len i = 0))
    | _ => false
def f_ins (b : ByteArray) (pc : Nat) (i : Instr) : List Nat → Bool
  | [] => false
  | x0 :: T => f_in1 b pc i x0 T
def f_go (b : ByteArray) : List (Option Instr) → Nat → List Nat → Bool
  | [], _, _ => true
  | none :: M, pc, B => f_go b M (pc + 1) B.tail
  | some i :: M, pc, B => f_ins b pc i B && f_go b M (pc + 1) B.tail
theorem f_e_ok {T : List Nat} (h : f_e T = true) : T[0]? = some (f_h T) := by
  cases T with
  | nil => cases h
  | cons x T => rfl
theorem f_go_at {b : ByteArray} : ∀ (M : List (Option Instr)) (pc : Nat) (B : List Nat), f_go b M pc B = true → ∀ k i, M[k]? = some (some i) → f_ins b (pc + k) i (B.drop k) = true := by
  intro M
  induction M with
  | nil => intro pc B _ k i hk; rw [List.getElem?_nil] at hk; cases hk
  | cons o M ih =>
    intro pc B h k i hk
    have hd : ∀ k, B.tail.drop k = B.drop (k + 1) := fun k => by
      cases B with
      | nil => rw [List.tail_nil, List.drop_nil, List.drop_nil]
      | cons x B => rfl
    cases o with
    | none =>
      have h : f_go b M (pc + 1) B.tail = true := h
      cases k with
      | zero => cases hk
      | succ k =>
        have := ih (pc + 1) B.tail h k i hk
        rw [hd, show pc + 1 + k = pc + (k + 1) by omega] at this
        exact this
    | some j =>
      have h : (f_ins b pc j B && f_go b M (pc + 1) B.tail) = true := h
      rw [Bool.and_eq_true] at h
      cases k with
      | zero =>
        cases hk
        exact h.1
      | succ k =>
        have := ih (pc + 1) B.tail h.2 k i hk
        rw [hd, show pc + 1 + k = pc + (k + 1) by omega] at this
        exact this
theorem f_ins_ok {b : ByteArray} {pc : Nat} {i : Instr} {B : List Nat} (hb : ∀ p x, B[p]? = some x → f_b b p = some x) (h : f_ins b pc i (B.drop pc) = true) : ∃ len, decode b pc = .ok (i, len) ∧ (m_len i = len ∨ m_len i = 0) := by
  have at1 : ∀ k x, (B.drop pc)[k]? = some x → f_b b (pc + k) = some x := fun k x hx => hb (pc + k) x (by rw [← List.getElem?_drop]; exact hx)
  generalize B.drop pc = D at *
  cases D with
  | nil => cases h
  | cons x0 T =>
    have a0 := at1 0 x0 rfl
    have a1 : f_e T = true → f_b b (pc + 1) = some (f_h T) := fun e => at1 1 _ (f_e_ok e)
    have a2 : f_e T.tail = true → f_b b (pc + 2) = some (f_h T.tail) := fun e => at1 2 _ (by
      have := f_e_ok e
      cases T with
      | nil => cases e
      | cons y T => exact this)
    have h : f_in1 b pc i x0 T = true := h
    unfold f_in1 at h
    split at h
    · rename_i j len hd
      simp only [Bool.and_eq_true, Bool.or_eq_true, decide_eq_true_eq] at h
      obtain ⟨e, hl, s1, s2⟩ := h
      subst e
      refine ⟨len, f_dec_ok (f_dq_ok hd) a0 (fun hn => a1 ?_) (fun hn => a2 ?_), Or.inl (Nat.eq_of_beq_eq_true hl)⟩
      · exact s1.resolve_left (fun e => absurd (Nat.le_of_ble_eq_true e) (by omega))
      · exact s2.resolve_left (fun e => absurd (Nat.le_of_ble_eq_true e) (by omega))
    · split at h
      · rename_i j len hd
        simp only [Bool.and_eq_true, Bool.or_eq_true, decide_eq_true_eq] at h
        obtain ⟨rfl, h3⟩ := h
        exact ⟨len, hd, h3⟩
      · cases h
/-- rows of sixteen -/
def f_rl {α : Type} : List (List α) → Bool
  | [] => true
  | [_] => true
  | r :: s :: t => Nat.beq r.length 16 && f_rl (s :: t)
theorem f_rl_ok {α : Type} : ∀ {B : List (List (Option α))}, f_rl B = true → ∀ p x, q_at B p = some x → B.flatten[p]? = some (some x) := by
  intro B
  induction B with
  | nil =>
    intro _ p x h
    unfold q_at at h
    cases h
  | cons r t ih =>
    intro hr p x h
    rw [List.flatten_cons]
    have at0 : p < 16 → r[p]? = some (some x) := fun c => by
      unfold q_at at h
      rw [show p / 16 = 0 by omega, show p % 16 = p by omega] at h
      have h : (match r.getD p none with | some i => some i | none => none) = some x := h
      rw [List.getD_eq_getElem?_getD] at h
      cases e : r[p]? with
      | none => rw [e] at h; cases h
      | some o =>
        rw [e] at h
        cases o with
        | none => cases h
        | some y => cases h; rfl
    rcases Nat.lt_or_ge p 16 with c | c
    · have k := at0 c
      have hp : p < r.length := by
        rcases Nat.lt_or_ge p r.length with d | d
        · exact d
        · rw [List.getElem?_eq_none d] at k; cases k
      rw [List.getElem?_append_left hp]
      exact k
    · have hq : q_at t (p - 16) = some x := by
        unfold q_at at h ⊢
        rw [show p / 16 = (p - 16) / 16 + 1 by omega] at h
        rw [show (p - 16) % 16 = p % 16 by omega]
        exact h
      cases t with
      | nil =>
        unfold q_at at hq
        cases hq
      | cons s t =>
        have hr : (Nat.beq r.length 16 && f_rl (s :: t)) = true := hr
        rw [Bool.and_eq_true] at hr
        have h16 : r.length = 16 := Nat.eq_of_beq_eq_true hr.1
        rw [List.getElem?_append_right (by omega), h16]
        exact ih hr.2 (p - 16) x hq
/-- a code's bytes gone through once -/
theorem f_all2_ok {b : ByteArray} {L : List (List (Option Instr))} (h : (f_rl L && f_go b L.flatten 0 (b.data.toList.map UInt8.toNat)) = true) : q_dec b L := by
  simp only [Bool.and_eq_true] at h
  obtain ⟨hr, hc⟩ := h
  have hb : ∀ p x, (b.data.toList.map UInt8.toNat)[p]? = some x → f_b b p = some x := fun p x hx => by
    rw [List.getElem?_map] at hx
    exact hx
  intro pc i hi
  have k := f_go_at _ _ _ hc pc i (f_rl_ok hr pc i hi)
  rw [Nat.zero_add] at k
  exact f_ins_ok hb k
