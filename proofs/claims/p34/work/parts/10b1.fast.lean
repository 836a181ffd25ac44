def q_at {α : Type} (L : List (List (Option α))) (pc : Nat) : Option α := match (L.getD (pc / 16) []).getD (pc % 16) none with
  | some i => some i
  | none => none
/-- the listed instructions are what the bytes decode to -/
def q_chk (b : ByteArray) (L : List (List (Option Instr))) : Bool := (List.range (16 * L.length)).all (fun pc => match q_at L pc with
  | some i => (match decode b pc with
    | .ok (j, len) => decide (j = i) && (decide (m_len i = len) || decide (m_len i = 0))
    | _ => false)
  | none => true)
def q_chkR (b : ByteArray) (L : List (List (Option Instr))) (lo n : Nat) : Bool := (List.range n).all (fun k => match q_at L (lo + k) with
  | some i => (match decode b (lo + k) with
    | .ok (j, len) => decide (j = i) && (decide (m_len i = len) || decide (m_len i = 0))
    | _ => false)
  | none => true)
def q_dec (b : ByteArray) (L : List (List (Option Instr))) : Prop := ∀ (pc : Nat) (i : Instr), q_at L pc = some i → ∃ len, decode b pc = .ok (i, len) ∧ (m_len i = len ∨ m_len i = 0)
theorem q_at_lt {L : List (List (Option Instr))} {pc : Nat} {i : Instr} (hi : q_at L pc = some i) : pc < 16 * L.length := by
  refine Nat.lt_of_not_le fun hge => ?_
  have h1 : L.getD (pc / 16) [] = [] := by
    rw [List.getD_eq_getElem?_getD, List.getElem?_eq_none (by omega)]; rfl
  unfold q_at at hi
  rw [h1] at hi
  cases hi
theorem q_chkR_ok {b : ByteArray} {L : List (List (Option Instr))} {m k : Nat} (hm : 16 * L.length ≤ k * m) (h : ∀ j, j < m → q_chkR b L (j * k) k = true) : q_dec b L := by
  intro pc i hi
  have hlt := Nat.lt_of_lt_of_le (q_at_lt hi) hm
  have hk : 0 < k := Nat.pos_of_ne_zero fun h0 => by subst h0; omega
  have hj : pc / k < m := (Nat.div_lt_iff_lt_mul hk).mpr (by rw [Nat.mul_comm]; exact hlt)
  have h2 := List.all_eq_true.mp (h _ hj) (pc % k) (List.mem_range.mpr (Nat.mod_lt _ hk))
  rw [show pc / k * k + pc % k = pc by rw [Nat.mul_comm]; exact Nat.div_add_mod _ _] at h2
  rw [hi] at h2
  dsimp only at h2
  split at h2
  · rename_i j len hd
    simp only [Bool.and_eq_true, Bool.or_eq_true, decide_eq_true_eq] at h2
    obtain ⟨rfl, h3⟩ := h2
    exact ⟨len, hd, h3⟩
  · cases h2
theorem q_chk_ok {b : ByteArray} {L : List (List (Option Instr))} (h : q_chk b L = true) : q_dec b L := by
  intro pc i hi
  have hlt : pc < 16 * L.length := by
    refine Nat.lt_of_not_le fun hge => ?_
    have h1 : L.getD (pc / 16) [] = [] := by
      rw [List.getD_eq_getElem?_getD, List.getElem?_eq_none (by omega)]; rfl
    unfold q_at at hi
    rw [h1] at hi
    cases hi
  have h2 := List.all_eq_true.mp h pc (List.mem_range.mpr hlt)
  rw [hi] at h2
  dsimp only at h2
  split at h2
  · rename_i j len hd
    simp only [Bool.and_eq_true, Bool.or_eq_true, decide_eq_true_eq] at h2
    obtain ⟨rfl, h3⟩ := h2
    exact ⟨len, hd, h3⟩
  · cases h2
/-! a quick decoder of the instructions that occur -/
def f_dec (x0 x1 x2 : Nat) : Option (Instr × Nat) := match x0 with
  | 1 => some (.aconst_null, 1)
  | 2 => some ((.iconst (-1)), 1)
  | 3 => some ((.iconst 0), 1)
  | 4 => some ((.iconst 1), 1)
  | 5 => some ((.iconst 2), 1)
  | 6 => some ((.iconst 3), 1)
  | 7 => some ((.iconst 4), 1)
  | 8 => some ((.iconst 5), 1)
  | 9 => some ((.lconst 0), 1)
  | 10 => some ((.lconst 1), 1)
  | 26 => some ((.iload_n 0), 1)
  | 27 => some ((.iload_n 1), 1)
  | 28 => some ((.iload_n 2), 1)
  | 29 => some ((.iload_n 3), 1)
  | 30 => some ((.lload_n 0), 1)
  | 31 => some ((.lload_n 1), 1)
  | 32 => some ((.lload_n 2), 1)
  | 33 => some ((.lload_n 3), 1)
  | 42 => some ((.aload_n 0), 1)
  | 43 => some ((.aload_n 1), 1)
  | 44 => some ((.aload_n 2), 1)
  | 45 => some ((.aload_n 3), 1)
  | 59 => some ((.istore_n 0), 1)
  | 60 => some ((.istore_n 1), 1)
  | 61 => some ((.istore_n 2), 1)
  | 62 => some ((.istore_n 3), 1)
  | 63 => some ((.lstore_n 0), 1)
  | 64 => some ((.lstore_n 1), 1)
  | 65 => some ((.lstore_n 2), 1)
  | 66 => some ((.lstore_n 3), 1)
  | 75 => some ((.astore_n 0), 1)
  | 76 => some ((.astore_n 1), 1)
  | 77 => some ((.astore_n 2), 1)
  | 78 => some ((.astore_n 3), 1)
  | 46 => some (.iaload, 1)
  | 50 => some (.aaload, 1)
  | 79 => some (.iastore, 1)
  | 80 => some (.lastore, 1)
  | 83 => some (.aastore, 1)
  | 87 => some (.pop, 1)
  | 89 => some (.dup, 1)
  | 92 => some (.dup2, 1)
  | 96 => some (.iadd, 1)
  | 97 => some (.ladd, 1)
  | 100 => some (.isub, 1)
  | 101 => some (.lsub, 1)
  | 104 => some (.imul, 1)
  | 105 => some (.lmul, 1)
  | 108 => some (.idiv, 1)
  | 109 => some (.ldiv, 1)
  | 112 => some (.irem, 1)
  | 116 => some (.ineg, 1)
  | 120 => some (.ishl, 1)
  | 122 => some (.ishr, 1)
  | 124 => some (.iushr, 1)
  | 126 => some (.iand, 1)
  | 128 => some (.ior, 1)
  | 130 => some (.ixor, 1)
  | 133 => some (.i2l, 1)
  | 136 => some (.l2i, 1)
  | 145 => some (.i2b, 1)
  | 147 => some (.i2s, 1)
  | 148 => some (.lcmp, 1)
  | 172 => some (.ireturn, 1)
  | 173 => some (.lreturn, 1)
  | 176 => some (.areturn, 1)
  | 177 => some (.return_, 1)
  | 190 => some (.arraylength, 1)
  | 191 => some (.athrow, 1)
  | 18 => some (.ldc x1, 2)
  | 21 => some (.iload x1, 2)
  | 22 => some (.lload x1, 2)
  | 25 => some (.aload x1, 2)
  | 54 => some (.istore x1, 2)
  | 55 => some (.lstore x1, 2)
  | 58 => some (.astore x1, 2)
  | 16 => some (.bipush (Reader.signed 8 x1), 2)
  | 19 => some (.ldc_w (x1 * 256 + x2), 3)
  | 20 => some (.ldc2_w (x1 * 256 + x2), 3)
  | 178 => some (.getstatic (x1 * 256 + x2), 3)
  | 180 => some (.getfield (x1 * 256 + x2), 3)
  | 181 => some (.putfield (x1 * 256 + x2), 3)
  | 182 => some (.invokevirtual (x1 * 256 + x2), 3)
  | 183 => some (.invokespecial (x1 * 256 + x2), 3)
  | 184 => some (.invokestatic (x1 * 256 + x2), 3)
  | 187 => some (.new (x1 * 256 + x2), 3)
  | 189 => some (.anewarray (x1 * 256 + x2), 3)
  | 17 => some (.sipush (Reader.signed 16 (x1 * 256 + x2)), 3)
  | 167 => some (.goto (Reader.signed 16 (x1 * 256 + x2)), 3)
  | 198 => some (.ifnull (Reader.signed 16 (x1 * 256 + x2)), 3)
  | 199 => some (.ifnonnull (Reader.signed 16 (x1 * 256 + x2)), 3)
  | 153 => some (.ifCond .eq (Reader.signed 16 (x1 * 256 + x2)), 3)
  | 154 => some (.ifCond .ne (Reader.signed 16 (x1 * 256 + x2)), 3)
  | 155 => some (.ifCond .lt (Reader.signed 16 (x1 * 256 + x2)), 3)
  | 156 => some (.ifCond .ge (Reader.signed 16 (x1 * 256 + x2)), 3)
  | 157 => some (.ifCond .gt (Reader.signed 16 (x1 * 256 + x2)), 3)
  | 158 => some (.ifCond .le (Reader.signed 16 (x1 * 256 + x2)), 3)
  | 159 => some (.if_icmp .eq (Reader.signed 16 (x1 * 256 + x2)), 3)
  | 160 => some (.if_icmp .ne (Reader.signed 16 (x1 * 256 + x2)), 3)
  | 161 => some (.if_icmp .lt (Reader.signed 16 (x1 * 256 + x2)), 3)
  | 162 => some (.if_icmp .ge (Reader.signed 16 (x1 * 256 + x2)), 3)
  | 163 => some (.if_icmp .gt (Reader.signed 16 (x1 * 256 + x2)), 3)
  | 164 => some (.if_icmp .le (Reader.signed 16 (x1 * 256 + x2)), 3)
  | 132 => some (.iinc x1 (Reader.signed 8 x2), 3)
  | 188 => match x1 with
    | 10 => some (.newarray .int, 2)
    | 11 => some (.newarray .long, 2)
    | _ => none
  | _ => none
def f_b (b : ByteArray) (p : Nat) : Option Nat := (b.data.toList[p]?).map UInt8.toNat
section FD
variable {b : ByteArray} {p pc : Nat}
theorem f_bind {α β : Type} {x : Decoder α} {f : α → Decoder β} {a : α} {p' : Nat} (h : x b p = .ok (a, p')) : (x >>= f) b p = f a b p' := by
  show Except.bind (x b p) _ = _
  rw [h]
  rfl
theorem f_u1 {x : Nat} (h : f_b b p = some x) : (Reader.u1 : Decoder Nat) b p = .ok (x, p + 1) := by
  unfold f_b at h
  have hp : p < b.data.toList.length := by
    rcases Nat.lt_or_ge p b.data.toList.length with c | c
    · exact c
    · rw [List.getElem?_eq_none c] at h
      cases h
  rw [List.getElem?_eq_getElem hp] at h
  have hs : p < b.size := by
    rw [Array.length_toList] at hp
    exact hp
  have hx : (b[p]'hs).toNat = x := Option.some.inj h
  show ((if h : p < b.size then (do set (p + 1); pure (b[p]'h).toNat : Decoder Nat) else throw (HasTruncated.truncated p)) : Decoder Nat) b p = _
  rw [dif_pos hs]
  show Except.ok ((b[p]'hs).toNat, p + 1) = _
  rw [hx]
theorem f_pure {α : Type} {a : α} : (pure a : Decoder α) b p = .ok (a, p) := rfl
theorem f_1 {x : Nat} {C : Nat → Instr} (h : f_b b p = some x) : ((Reader.u1 : Decoder Nat) >>= fun k => pure (C k)) b p = .ok (C x, p + 1) := by
  rw [f_bind (f_u1 h)]
  rfl
theorem f_u2 {x y : Nat} (h : f_b b p = some x) (h2 : f_b b (p + 1) = some y) : (Reader.u2 : Decoder Nat) b p = .ok (x * 256 + y, p + 2) := by
  unfold Reader.u2
  rw [f_bind (f_u1 h), f_bind (f_u1 h2)]
  rfl
theorem f_2 {x y : Nat} {C : Nat → Instr} (h : f_b b p = some x) (h2 : f_b b (p + 1) = some y) : ((Reader.u2 : Decoder Nat) >>= fun k => pure (C k)) b p = .ok (C (x * 256 + y), p + 2) := by
  rw [f_bind (f_u2 h h2)]
  rfl
theorem f_s1 {x : Nat} (h : f_b b p = some x) : (Reader.s1 : Decoder Int) b p = .ok (Reader.signed 8 x, p + 1) := by
  show ((Reader.u1 : Decoder Nat) >>= fun k => pure (Reader.signed 8 k)) b p = _
  rw [f_bind (f_u1 h)]
  rfl
theorem f_s2 {x y : Nat} (h : f_b b p = some x) (h2 : f_b b (p + 1) = some y) : (Reader.s2 : Decoder Int) b p = .ok (Reader.signed 16 (x * 256 + y), p + 2) := by
  show ((Reader.u2 : Decoder Nat) >>= fun k => pure (Reader.signed 16 k)) b p = _
  rw [f_bind (f_u2 h h2)]
  rfl
theorem f_3 {x : Nat} {C : Int → Instr} (h : f_b b p = some x) : ((Reader.s1 : Decoder Int) >>= fun k => pure (C k)) b p = .ok (C (Reader.signed 8 x), p + 1) := by
  rw [f_bind (f_s1 h)]
  rfl
theorem f_4 {x y : Nat} {C : Int → Instr} (h : f_b b p = some x) (h2 : f_b b (p + 1) = some y) : ((Reader.s2 : Decoder Int) >>= fun k => pure (C k)) b p = .ok (C (Reader.signed 16 (x * 256 + y)), p + 2) := by
  rw [f_bind (f_s2 h h2)]
  rfl
theorem f_5 {x y : Nat} {C : Nat → Int → Instr} (h : f_b b p = some x) (h2 : f_b b (p + 1) = some y) : ((Reader.u1 : Decoder Nat) >>= fun k => (Reader.s1 : Decoder Int) >>= fun d => pure (C k d)) b p = .ok (C x (Reader.signed 8 y), p + 2) := by
  rw [f_bind (f_u1 h), f_bind (f_s1 h2)]
  rfl
theorem f_end {i : Instr} {n : Nat} (h : Decoder.instr pc b pc = .ok (i, pc + n)) : decode b pc = .ok (i, n) := by
  show Except.bind (Decoder.instr pc b pc) (fun r => Except.ok (r.1, r.2 - pc)) = _
  rw [h]
  show Except.ok (i, pc + n - pc) = _
  rw [Nat.add_sub_cancel_left]

set_option maxRecDepth 100000 in
theorem f_d1 (h0 : f_b b pc = some 1) : decode b pc = .ok (.aconst_null, 1) := by
  refine f_end ((f_bind (f_u1 h0)).trans ?_)
  rfl
set_option maxRecDepth 100000 in
theorem f_d2 (h0 : f_b b pc = some 2) : decode b pc = .ok ((.iconst (-1)), 1) := by
  refine f_end ((f_bind (f_u1 h0)).trans ?_)
  rfl
set_option maxRecDepth 100000 in
theorem f_d3 (h0 : f_b b pc = some 3) : decode b pc = .ok ((.iconst 0), 1) := by
  refine f_end ((f_bind (f_u1 h0)).trans ?_)
  rfl
set_option maxRecDepth 100000 in
theorem f_d4 (h0 : f_b b pc = some 4) : decode b pc = .ok ((.iconst 1), 1) := by
  refine f_end ((f_bind (f_u1 h0)).trans ?_)
  rfl
set_option maxRecDepth 100000 in
theorem f_d5 (h0 : f_b b pc = some 5) : decode b pc = .ok ((.iconst 2), 1) := by
  refine f_end ((f_bind (f_u1 h0)).trans ?_)
  rfl
set_option maxRecDepth 100000 in
theorem f_d6 (h0 : f_b b pc = some 6) : decode b pc = .ok ((.iconst 3), 1) := by
  refine f_end ((f_bind (f_u1 h0)).trans ?_)
  rfl
set_option maxRecDepth 100000 in
theorem f_d7 (h0 : f_b b pc = some 7) : decode b pc = .ok ((.iconst 4), 1) := by
  refine f_end ((f_bind (f_u1 h0)).trans ?_)
  rfl
set_option maxRecDepth 100000 in
theorem f_d8 (h0 : f_b b pc = some 8) : decode b pc = .ok ((.iconst 5), 1) := by
  refine f_end ((f_bind (f_u1 h0)).trans ?_)
  rfl
set_option maxRecDepth 100000 in
theorem f_d9 (h0 : f_b b pc = some 9) : decode b pc = .ok ((.lconst 0), 1) := by
  refine f_end ((f_bind (f_u1 h0)).trans ?_)
  rfl
set_option maxRecDepth 100000 in
theorem f_d10 (h0 : f_b b pc = some 10) : decode b pc = .ok ((.lconst 1), 1) := by
  refine f_end ((f_bind (f_u1 h0)).trans ?_)
  rfl
set_option maxRecDepth 100000 in
theorem f_d26 (h0 : f_b b pc = some 26) : decode b pc = .ok ((.iload_n 0), 1) := by
  refine f_end ((f_bind (f_u1 h0)).trans ?_)
  rfl
set_option maxRecDepth 100000 in
theorem f_d27 (h0 : f_b b pc = some 27) : decode b pc = .ok ((.iload_n 1), 1) := by
  refine f_end ((f_bind (f_u1 h0)).trans ?_)
  rfl
set_option maxRecDepth 100000 in
theorem f_d28 (h0 : f_b b pc = some 28) : decode b pc = .ok ((.iload_n 2), 1) := by
  refine f_end ((f_bind (f_u1 h0)).trans ?_)
  rfl
set_option maxRecDepth 100000 in
theorem f_d29 (h0 : f_b b pc = some 29) : decode b pc = .ok ((.iload_n 3), 1) := by
  refine f_end ((f_bind (f_u1 h0)).trans ?_)
  rfl
set_option maxRecDepth 100000 in
theorem f_d30 (h0 : f_b b pc = some 30) : decode b pc = .ok ((.lload_n 0), 1) := by
  refine f_end ((f_bind (f_u1 h0)).trans ?_)
  rfl
set_option maxRecDepth 100000 in
theorem f_d31 (h0 : f_b b pc = some 31) : decode b pc = .ok ((.lload_n 1), 1) := by
  refine f_end ((f_bind (f_u1 h0)).trans ?_)
  rfl
set_option maxRecDepth 100000 in
theorem f_d32 (h0 : f_b b pc = some 32) : decode b pc = .ok ((.lload_n 2), 1) := by
  refine f_end ((f_bind (f_u1 h0)).trans ?_)
  rfl
set_option maxRecDepth 100000 in
theorem f_d33 (h0 : f_b b pc = some 33) : decode b pc = .ok ((.lload_n 3), 1) := by
  refine f_end ((f_bind (f_u1 h0)).trans ?_)
  rfl
set_option maxRecDepth 100000 in
theorem f_d42 (h0 : f_b b pc = some 42) : decode b pc = .ok ((.aload_n 0), 1) := by
  refine f_end ((f_bind (f_u1 h0)).trans ?_)
  rfl
set_option maxRecDepth 100000 in
theorem f_d43 (h0 : f_b b pc = some 43) : decode b pc = .ok ((.aload_n 1), 1) := by
  refine f_end ((f_bind (f_u1 h0)).trans ?_)
  rfl
set_option maxRecDepth 100000 in
theorem f_d44 (h0 : f_b b pc = some 44) : decode b pc = .ok ((.aload_n 2), 1) := by
  refine f_end ((f_bind (f_u1 h0)).trans ?_)
  rfl
set_option maxRecDepth 100000 in
theorem f_d45 (h0 : f_b b pc = some 45) : decode b pc = .ok ((.aload_n 3), 1) := by
  refine f_end ((f_bind (f_u1 h0)).trans ?_)
  rfl
set_option maxRecDepth 100000 in
theorem f_d59 (h0 : f_b b pc = some 59) : decode b pc = .ok ((.istore_n 0), 1) := by
  refine f_end ((f_bind (f_u1 h0)).trans ?_)
  rfl
set_option maxRecDepth 100000 in
theorem f_d60 (h0 : f_b b pc = some 60) : decode b pc = .ok ((.istore_n 1), 1) := by
  refine f_end ((f_bind (f_u1 h0)).trans ?_)
  rfl
set_option maxRecDepth 100000 in
theorem f_d61 (h0 : f_b b pc = some 61) : decode b pc = .ok ((.istore_n 2), 1) := by
  refine f_end ((f_bind (f_u1 h0)).trans ?_)
  rfl
set_option maxRecDepth 100000 in
theorem f_d62 (h0 : f_b b pc = some 62) : decode b pc = .ok ((.istore_n 3), 1) := by
  refine f_end ((f_bind (f_u1 h0)).trans ?_)
  rfl
set_option maxRecDepth 100000 in
theorem f_d63 (h0 : f_b b pc = some 63) : decode b pc = .ok ((.lstore_n 0), 1) := by
  refine f_end ((f_bind (f_u1 h0)).trans ?_)
  rfl
set_option maxRecDepth 100000 in
theorem f_d64 (h0 : f_b b pc = some 64) : decode b pc = .ok ((.lstore_n 1), 1) := by
  refine f_end ((f_bind (f_u1 h0)).trans ?_)
  rfl
set_option maxRecDepth 100000 in
theorem f_d65 (h0 : f_b b pc = some 65) : decode b pc = .ok ((.lstore_n 2), 1) := by
  refine f_end ((f_bind (f_u1 h0)).trans ?_)
  rfl
set_option maxRecDepth 100000 in
theorem f_d66 (h0 : f_b b pc = some 66) : decode b pc = .ok ((.lstore_n 3), 1) := by
  refine f_end ((f_bind (f_u1 h0)).trans ?_)
  rfl
set_option maxRecDepth 100000 in
theorem f_d75 (h0 : f_b b pc = some 75) : decode b pc = .ok ((.astore_n 0), 1) := by
  refine f_end ((f_bind (f_u1 h0)).trans ?_)
  rfl
set_option maxRecDepth 100000 in
theorem f_d76 (h0 : f_b b pc = some 76) : decode b pc = .ok ((.astore_n 1), 1) := by
  refine f_end ((f_bind (f_u1 h0)).trans ?_)
  rfl
set_option maxRecDepth 100000 in
theorem f_d77 (h0 : f_b b pc = some 77) : decode b pc = .ok ((.astore_n 2), 1) := by
  refine f_end ((f_bind (f_u1 h0)).trans ?_)
  rfl
set_option maxRecDepth 100000 in
theorem f_d78 (h0 : f_b b pc = some 78) : decode b pc = .ok ((.astore_n 3), 1) := by
  refine f_end ((f_bind (f_u1 h0)).trans ?_)
  rfl
set_option maxRecDepth 100000 in
theorem f_d46 (h0 : f_b b pc = some 46) : decode b pc = .ok (.iaload, 1) := by
  refine f_end ((f_bind (f_u1 h0)).trans ?_)
  rfl
set_option maxRecDepth 100000 in
theorem f_d50 (h0 : f_b b pc = some 50) : decode b pc = .ok (.aaload, 1) := by
  refine f_end ((f_bind (f_u1 h0)).trans ?_)
  rfl
set_option maxRecDepth 100000 in
theorem f_d79 (h0 : f_b b pc = some 79) : decode b pc = .ok (.iastore, 1) := by
  refine f_end ((f_bind (f_u1 h0)).trans ?_)
  rfl
set_option maxRecDepth 100000 in
theorem f_d80 (h0 : f_b b pc = some 80) : decode b pc = .ok (.lastore, 1) := by
  refine f_end ((f_bind (f_u1 h0)).trans ?_)
  rfl
set_option maxRecDepth 100000 in
theorem f_d83 (h0 : f_b b pc = some 83) : decode b pc = .ok (.aastore, 1) := by
  refine f_end ((f_bind (f_u1 h0)).trans ?_)
  rfl
set_option maxRecDepth 100000 in
theorem f_d87 (h0 : f_b b pc = some 87) : decode b pc = .ok (.pop, 1) := by
  refine f_end ((f_bind (f_u1 h0)).trans ?_)
  rfl
set_option maxRecDepth 100000 in
theorem f_d89 (h0 : f_b b pc = some 89) : decode b pc = .ok (.dup, 1) := by
  refine f_end ((f_bind (f_u1 h0)).trans ?_)
  rfl
set_option maxRecDepth 100000 in
theorem f_d92 (h0 : f_b b pc = some 92) : decode b pc = .ok (.dup2, 1) := by
  refine f_end ((f_bind (f_u1 h0)).trans ?_)
  rfl
set_option maxRecDepth 100000 in
theorem f_d96 (h0 : f_b b pc = some 96) : decode b pc = .ok (.iadd, 1) := by
  refine f_end ((f_bind (f_u1 h0)).trans ?_)
  rfl
set_option maxRecDepth 100000 in
theorem f_d97 (h0 : f_b b pc = some 97) : decode b pc = .ok (.ladd, 1) := by
  refine f_end ((f_bind (f_u1 h0)).trans ?_)
  rfl
set_option maxRecDepth 100000 in
theorem f_d100 (h0 : f_b b pc = some 100) : decode b pc = .ok (.isub, 1) := by
  refine f_end ((f_bind (f_u1 h0)).trans ?_)
  rfl
set_option maxRecDepth 100000 in
theorem f_d101 (h0 : f_b b pc = some 101) : decode b pc = .ok (.lsub, 1) := by
  refine f_end ((f_bind (f_u1 h0)).trans ?_)
  rfl
set_option maxRecDepth 100000 in
theorem f_d104 (h0 : f_b b pc = some 104) : decode b pc = .ok (.imul, 1) := by
  refine f_end ((f_bind (f_u1 h0)).trans ?_)
  rfl
set_option maxRecDepth 100000 in
theorem f_d105 (h0 : f_b b pc = some 105) : decode b pc = .ok (.lmul, 1) := by
  refine f_end ((f_bind (f_u1 h0)).trans ?_)
  rfl
set_option maxRecDepth 100000 in
theorem f_d108 (h0 : f_b b pc = some 108) : decode b pc = .ok (.idiv, 1) := by
  refine f_end ((f_bind (f_u1 h0)).trans ?_)
  rfl
set_option maxRecDepth 100000 in
theorem f_d109 (h0 : f_b b pc = some 109) : decode b pc = .ok (.ldiv, 1) := by
  refine f_end ((f_bind (f_u1 h0)).trans ?_)
  rfl
set_option maxRecDepth 100000 in
theorem f_d112 (h0 : f_b b pc = some 112) : decode b pc = .ok (.irem, 1) := by
  refine f_end ((f_bind (f_u1 h0)).trans ?_)
  rfl
set_option maxRecDepth 100000 in
theorem f_d116 (h0 : f_b b pc = some 116) : decode b pc = .ok (.ineg, 1) := by
  refine f_end ((f_bind (f_u1 h0)).trans ?_)
  rfl
set_option maxRecDepth 100000 in
theorem f_d120 (h0 : f_b b pc = some 120) : decode b pc = .ok (.ishl, 1) := by
  refine f_end ((f_bind (f_u1 h0)).trans ?_)
  rfl
set_option maxRecDepth 100000 in
theorem f_d122 (h0 : f_b b pc = some 122) : decode b pc = .ok (.ishr, 1) := by
  refine f_end ((f_bind (f_u1 h0)).trans ?_)
  rfl
set_option maxRecDepth 100000 in
theorem f_d124 (h0 : f_b b pc = some 124) : decode b pc = .ok (.iushr, 1) := by
  refine f_end ((f_bind (f_u1 h0)).trans ?_)
  rfl
set_option maxRecDepth 100000 in
theorem f_d126 (h0 : f_b b pc = some 126) : decode b pc = .ok (.iand, 1) := by
  refine f_end ((f_bind (f_u1 h0)).trans ?_)
  rfl
set_option maxRecDepth 100000 in
theorem f_d128 (h0 : f_b b pc = some 128) : decode b pc = .ok (.ior, 1) := by
  refine f_end ((f_bind (f_u1 h0)).trans ?_)
  rfl
set_option maxRecDepth 100000 in
theorem f_d130 (h0 : f_b b pc = some 130) : decode b pc = .ok (.ixor, 1) := by
  refine f_end ((f_bind (f_u1 h0)).trans ?_)
  rfl
set_option maxRecDepth 100000 in
theorem f_d133 (h0 : f_b b pc = some 133) : decode b pc = .ok (.i2l, 1) := by
  refine f_end ((f_bind (f_u1 h0)).trans ?_)
  rfl
set_option maxRecDepth 100000 in
theorem f_d136 (h0 : f_b b pc = some 136) : decode b pc = .ok (.l2i, 1) := by
  refine f_end ((f_bind (f_u1 h0)).trans ?_)
  rfl
set_option maxRecDepth 100000 in
theorem f_d145 (h0 : f_b b pc = some 145) : decode b pc = .ok (.i2b, 1) := by
  refine f_end ((f_bind (f_u1 h0)).trans ?_)
  rfl
set_option maxRecDepth 100000 in
theorem f_d147 (h0 : f_b b pc = some 147) : decode b pc = .ok (.i2s, 1) := by
  refine f_end ((f_bind (f_u1 h0)).trans ?_)
  rfl
set_option maxRecDepth 100000 in
theorem f_d148 (h0 : f_b b pc = some 148) : decode b pc = .ok (.lcmp, 1) := by
  refine f_end ((f_bind (f_u1 h0)).trans ?_)
  rfl
set_option maxRecDepth 100000 in
theorem f_d172 (h0 : f_b b pc = some 172) : decode b pc = .ok (.ireturn, 1) := by
  refine f_end ((f_bind (f_u1 h0)).trans ?_)
  rfl
set_option maxRecDepth 100000 in
theorem f_d173 (h0 : f_b b pc = some 173) : decode b pc = .ok (.lreturn, 1) := by
  refine f_end ((f_bind (f_u1 h0)).trans ?_)
  rfl
set_option maxRecDepth 100000 in
theorem f_d176 (h0 : f_b b pc = some 176) : decode b pc = .ok (.areturn, 1) := by
  refine f_end ((f_bind (f_u1 h0)).trans ?_)
  rfl
set_option maxRecDepth 100000 in
theorem f_d177 (h0 : f_b b pc = some 177) : decode b pc = .ok (.return_, 1) := by
  refine f_end ((f_bind (f_u1 h0)).trans ?_)
  rfl
set_option maxRecDepth 100000 in
theorem f_d190 (h0 : f_b b pc = some 190) : decode b pc = .ok (.arraylength, 1) := by
  refine f_end ((f_bind (f_u1 h0)).trans ?_)
  rfl
set_option maxRecDepth 100000 in
theorem f_d191 (h0 : f_b b pc = some 191) : decode b pc = .ok (.athrow, 1) := by
  refine f_end ((f_bind (f_u1 h0)).trans ?_)
  rfl
set_option maxRecDepth 100000 in
theorem f_d18 (h0 : f_b b pc = some 18) {x1 : Nat} (h1 : f_b b (pc + 1) = some x1) : decode b pc = .ok (.ldc x1, 2) := by
  refine f_end ((f_bind (f_u1 h0)).trans ?_)
  exact f_1 (C := fun k => .ldc k) h1
set_option maxRecDepth 100000 in
theorem f_d21 (h0 : f_b b pc = some 21) {x1 : Nat} (h1 : f_b b (pc + 1) = some x1) : decode b pc = .ok (.iload x1, 2) := by
  refine f_end ((f_bind (f_u1 h0)).trans ?_)
  exact f_1 (C := fun k => .iload k) h1
set_option maxRecDepth 100000 in
theorem f_d22 (h0 : f_b b pc = some 22) {x1 : Nat} (h1 : f_b b (pc + 1) = some x1) : decode b pc = .ok (.lload x1, 2) := by
  refine f_end ((f_bind (f_u1 h0)).trans ?_)
  exact f_1 (C := fun k => .lload k) h1
set_option maxRecDepth 100000 in
theorem f_d25 (h0 : f_b b pc = some 25) {x1 : Nat} (h1 : f_b b (pc + 1) = some x1) : decode b pc = .ok (.aload x1, 2) := by
  refine f_end ((f_bind (f_u1 h0)).trans ?_)
  exact f_1 (C := fun k => .aload k) h1
set_option maxRecDepth 100000 in
theorem f_d54 (h0 : f_b b pc = some 54) {x1 : Nat} (h1 : f_b b (pc + 1) = some x1) : decode b pc = .ok (.istore x1, 2) := by
  refine f_end ((f_bind (f_u1 h0)).trans ?_)
  exact f_1 (C := fun k => .istore k) h1
set_option maxRecDepth 100000 in
theorem f_d55 (h0 : f_b b pc = some 55) {x1 : Nat} (h1 : f_b b (pc + 1) = some x1) : decode b pc = .ok (.lstore x1, 2) := by
  refine f_end ((f_bind (f_u1 h0)).trans ?_)
  exact f_1 (C := fun k => .lstore k) h1
set_option maxRecDepth 100000 in
theorem f_d58 (h0 : f_b b pc = some 58) {x1 : Nat} (h1 : f_b b (pc + 1) = some x1) : decode b pc = .ok (.astore x1, 2) := by
  refine f_end ((f_bind (f_u1 h0)).trans ?_)
  exact f_1 (C := fun k => .astore k) h1
set_option maxRecDepth 100000 in
theorem f_d16 (h0 : f_b b pc = some 16) {x1 : Nat} (h1 : f_b b (pc + 1) = some x1) : decode b pc = .ok (.bipush (Reader.signed 8 x1), 2) := by
  refine f_end ((f_bind (f_u1 h0)).trans ?_)
  exact f_3 (C := fun k => .bipush k) h1
set_option maxRecDepth 100000 in
theorem f_d19 (h0 : f_b b pc = some 19) {x1 x2 : Nat} (h1 : f_b b (pc + 1) = some x1) (h2 : f_b b (pc + 2) = some x2) : decode b pc = .ok (.ldc_w (x1 * 256 + x2), 3) := by
  refine f_end ((f_bind (f_u1 h0)).trans ?_)
  exact f_2 (C := fun k => .ldc_w k) h1 h2
set_option maxRecDepth 100000 in
theorem f_d20 (h0 : f_b b pc = some 20) {x1 x2 : Nat} (h1 : f_b b (pc + 1) = some x1) (h2 : f_b b (pc + 2) = some x2) : decode b pc = .ok (.ldc2_w (x1 * 256 + x2), 3) := by
  refine f_end ((f_bind (f_u1 h0)).trans ?_)
  exact f_2 (C := fun k => .ldc2_w k) h1 h2
set_option maxRecDepth 100000 in
theorem f_d178 (h0 : f_b b pc = some 178) {x1 x2 : Nat} (h1 : f_b b (pc + 1) = some x1) (h2 : f_b b (pc + 2) = some x2) : decode b pc = .ok (.getstatic (x1 * 256 + x2), 3) := by
  refine f_end ((f_bind (f_u1 h0)).trans ?_)
  exact f_2 (C := fun k => .getstatic k) h1 h2
set_option maxRecDepth 100000 in
theorem f_d180 (h0 : f_b b pc = some 180) {x1 x2 : Nat} (h1 : f_b b (pc + 1) = some x1) (h2 : f_b b (pc + 2) = some x2) : decode b pc = .ok (.getfield (x1 * 256 + x2), 3) := by
  refine f_end ((f_bind (f_u1 h0)).trans ?_)
  exact f_2 (C := fun k => .getfield k) h1 h2
set_option maxRecDepth 100000 in
theorem f_d181 (h0 : f_b b pc = some 181) {x1 x2 : Nat} (h1 : f_b b (pc + 1) = some x1) (h2 : f_b b (pc + 2) = some x2) : decode b pc = .ok (.putfield (x1 * 256 + x2), 3) := by
  refine f_end ((f_bind (f_u1 h0)).trans ?_)
  exact f_2 (C := fun k => .putfield k) h1 h2
set_option maxRecDepth 100000 in
theorem f_d182 (h0 : f_b b pc = some 182) {x1 x2 : Nat} (h1 : f_b b (pc + 1) = some x1) (h2 : f_b b (pc + 2) = some x2) : decode b pc = .ok (.invokevirtual (x1 * 256 + x2), 3) := by
  refine f_end ((f_bind (f_u1 h0)).trans ?_)
  exact f_2 (C := fun k => .invokevirtual k) h1 h2
set_option maxRecDepth 100000 in
theorem f_d183 (h0 : f_b b pc = some 183) {x1 x2 : Nat} (h1 : f_b b (pc + 1) = some x1) (h2 : f_b b (pc + 2) = some x2) : decode b pc = .ok (.invokespecial (x1 * 256 + x2), 3) := by
  refine f_end ((f_bind (f_u1 h0)).trans ?_)
  exact f_2 (C := fun k => .invokespecial k) h1 h2
set_option maxRecDepth 100000 in
theorem f_d184 (h0 : f_b b pc = some 184) {x1 x2 : Nat} (h1 : f_b b (pc + 1) = some x1) (h2 : f_b b (pc + 2) = some x2) : decode b pc = .ok (.invokestatic (x1 * 256 + x2), 3) := by
  refine f_end ((f_bind (f_u1 h0)).trans ?_)
  exact f_2 (C := fun k => .invokestatic k) h1 h2
set_option maxRecDepth 100000 in
theorem f_d187 (h0 : f_b b pc = some 187) {x1 x2 : Nat} (h1 : f_b b (pc + 1) = some x1) (h2 : f_b b (pc + 2) = some x2) : decode b pc = .ok (.new (x1 * 256 + x2), 3) := by
  refine f_end ((f_bind (f_u1 h0)).trans ?_)
  exact f_2 (C := fun k => .new k) h1 h2
set_option maxRecDepth 100000 in
theorem f_d189 (h0 : f_b b pc = some 189) {x1 x2 : Nat} (h1 : f_b b (pc + 1) = some x1) (h2 : f_b b (pc + 2) = some x2) : decode b pc = .ok (.anewarray (x1 * 256 + x2), 3) := by
  refine f_end ((f_bind (f_u1 h0)).trans ?_)
  exact f_2 (C := fun k => .anewarray k) h1 h2
set_option maxRecDepth 100000 in
theorem f_d17 (h0 : f_b b pc = some 17) {x1 x2 : Nat} (h1 : f_b b (pc + 1) = some x1) (h2 : f_b b (pc + 2) = some x2) : decode b pc = .ok (.sipush (Reader.signed 16 (x1 * 256 + x2)), 3) := by
  refine f_end ((f_bind (f_u1 h0)).trans ?_)
  exact f_4 (C := fun k => .sipush k) h1 h2
set_option maxRecDepth 100000 in
theorem f_d167 (h0 : f_b b pc = some 167) {x1 x2 : Nat} (h1 : f_b b (pc + 1) = some x1) (h2 : f_b b (pc + 2) = some x2) : decode b pc = .ok (.goto (Reader.signed 16 (x1 * 256 + x2)), 3) := by
  refine f_end ((f_bind (f_u1 h0)).trans ?_)
  exact f_4 (C := fun k => .goto k) h1 h2
set_option maxRecDepth 100000 in
theorem f_d198 (h0 : f_b b pc = some 198) {x1 x2 : Nat} (h1 : f_b b (pc + 1) = some x1) (h2 : f_b b (pc + 2) = some x2) : decode b pc = .ok (.ifnull (Reader.signed 16 (x1 * 256 + x2)), 3) := by
  refine f_end ((f_bind (f_u1 h0)).trans ?_)
  exact f_4 (C := fun k => .ifnull k) h1 h2
set_option maxRecDepth 100000 in
theorem f_d199 (h0 : f_b b pc = some 199) {x1 x2 : Nat} (h1 : f_b b (pc + 1) = some x1) (h2 : f_b b (pc + 2) = some x2) : decode b pc = .ok (.ifnonnull (Reader.signed 16 (x1 * 256 + x2)), 3) := by
  refine f_end ((f_bind (f_u1 h0)).trans ?_)
  exact f_4 (C := fun k => .ifnonnull k) h1 h2
set_option maxRecDepth 100000 in
theorem f_d153 (h0 : f_b b pc = some 153) {x1 x2 : Nat} (h1 : f_b b (pc + 1) = some x1) (h2 : f_b b (pc + 2) = some x2) : decode b pc = .ok (.ifCond .eq (Reader.signed 16 (x1 * 256 + x2)), 3) := by
  refine f_end ((f_bind (f_u1 h0)).trans ?_)
  exact f_4 (C := fun k => .ifCond .eq k) h1 h2
set_option maxRecDepth 100000 in
theorem f_d154 (h0 : f_b b pc = some 154) {x1 x2 : Nat} (h1 : f_b b (pc + 1) = some x1) (h2 : f_b b (pc + 2) = some x2) : decode b pc = .ok (.ifCond .ne (Reader.signed 16 (x1 * 256 + x2)), 3) := by
  refine f_end ((f_bind (f_u1 h0)).trans ?_)
  exact f_4 (C := fun k => .ifCond .ne k) h1 h2
set_option maxRecDepth 100000 in
theorem f_d155 (h0 : f_b b pc = some 155) {x1 x2 : Nat} (h1 : f_b b (pc + 1) = some x1) (h2 : f_b b (pc + 2) = some x2) : decode b pc = .ok (.ifCond .lt (Reader.signed 16 (x1 * 256 + x2)), 3) := by
  refine f_end ((f_bind (f_u1 h0)).trans ?_)
  exact f_4 (C := fun k => .ifCond .lt k) h1 h2
set_option maxRecDepth 100000 in
theorem f_d156 (h0 : f_b b pc = some 156) {x1 x2 : Nat} (h1 : f_b b (pc + 1) = some x1) (h2 : f_b b (pc + 2) = some x2) : decode b pc = .ok (.ifCond .ge (Reader.signed 16 (x1 * 256 + x2)), 3) := by
  refine f_end ((f_bind (f_u1 h0)).trans ?_)
  exact f_4 (C := fun k => .ifCond .ge k) h1 h2
set_option maxRecDepth 100000 in
theorem f_d157 (h0 : f_b b pc = some 157) {x1 x2 : Nat} (h1 : f_b b (pc + 1) = some x1) (h2 : f_b b (pc + 2) = some x2) : decode b pc = .ok (.ifCond .gt (Reader.signed 16 (x1 * 256 + x2)), 3) := by
  refine f_end ((f_bind (f_u1 h0)).trans ?_)
  exact f_4 (C := fun k => .ifCond .gt k) h1 h2
set_option maxRecDepth 100000 in
theorem f_d158 (h0 : f_b b pc = some 158) {x1 x2 : Nat} (h1 : f_b b (pc + 1) = some x1) (h2 : f_b b (pc + 2) = some x2) : decode b pc = .ok (.ifCond .le (Reader.signed 16 (x1 * 256 + x2)), 3) := by
  refine f_end ((f_bind (f_u1 h0)).trans ?_)
  exact f_4 (C := fun k => .ifCond .le k) h1 h2
set_option maxRecDepth 100000 in
theorem f_d159 (h0 : f_b b pc = some 159) {x1 x2 : Nat} (h1 : f_b b (pc + 1) = some x1) (h2 : f_b b (pc + 2) = some x2) : decode b pc = .ok (.if_icmp .eq (Reader.signed 16 (x1 * 256 + x2)), 3) := by
  refine f_end ((f_bind (f_u1 h0)).trans ?_)
  exact f_4 (C := fun k => .if_icmp .eq k) h1 h2
set_option maxRecDepth 100000 in
theorem f_d160 (h0 : f_b b pc = some 160) {x1 x2 : Nat} (h1 : f_b b (pc + 1) = some x1) (h2 : f_b b (pc + 2) = some x2) : decode b pc = .ok (.if_icmp .ne (Reader.signed 16 (x1 * 256 + x2)), 3) := by
  refine f_end ((f_bind (f_u1 h0)).trans ?_)
  exact f_4 (C := fun k => .if_icmp .ne k) h1 h2
set_option maxRecDepth 100000 in
theorem f_d161 (h0 : f_b b pc = some 161) {x1 x2 : Nat} (h1 : f_b b (pc + 1) = some x1) (h2 : f_b b (pc + 2) = some x2) : decode b pc = .ok (.if_icmp .lt (Reader.signed 16 (x1 * 256 + x2)), 3) := by
  refine f_end ((f_bind (f_u1 h0)).trans ?_)
  exact f_4 (C := fun k => .if_icmp .lt k) h1 h2
set_option maxRecDepth 100000 in
theorem f_d162 (h0 : f_b b pc = some 162) {x1 x2 : Nat} (h1 : f_b b (pc + 1) = some x1) (h2 : f_b b (pc + 2) = some x2) : decode b pc = .ok (.if_icmp .ge (Reader.signed 16 (x1 * 256 + x2)), 3) := by
  refine f_end ((f_bind (f_u1 h0)).trans ?_)
  exact f_4 (C := fun k => .if_icmp .ge k) h1 h2
set_option maxRecDepth 100000 in
theorem f_d163 (h0 : f_b b pc = some 163) {x1 x2 : Nat} (h1 : f_b b (pc + 1) = some x1) (h2 : f_b b (pc + 2) = some x2) : decode b pc = .ok (.if_icmp .gt (Reader.signed 16 (x1 * 256 + x2)), 3) := by
  refine f_end ((f_bind (f_u1 h0)).trans ?_)
  exact f_4 (C := fun k => .if_icmp .gt k) h1 h2
set_option maxRecDepth 100000 in
theorem f_d164 (h0 : f_b b pc = some 164) {x1 x2 : Nat} (h1 : f_b b (pc + 1) = some x1) (h2 : f_b b (pc + 2) = some x2) : decode b pc = .ok (.if_icmp .le (Reader.signed 16 (x1 * 256 + x2)), 3) := by
  refine f_end ((f_bind (f_u1 h0)).trans ?_)
  exact f_4 (C := fun k => .if_icmp .le k) h1 h2
set_option maxRecDepth 100000 in
theorem f_d132 (h0 : f_b b pc = some 132) {x1 x2 : Nat} (h1 : f_b b (pc + 1) = some x1) (h2 : f_b b (pc + 2) = some x2) : decode b pc = .ok (.iinc x1 (Reader.signed 8 x2), 3) := by
  refine f_end ((f_bind (f_u1 h0)).trans ?_)
  exact f_5 (C := fun k d => .iinc k d) h1 h2
set_option maxRecDepth 100000 in
theorem f_d188_10 (h0 : f_b b pc = some 188) (h1 : f_b b (pc + 1) = some 10) : decode b pc = .ok (.newarray .int, 2) := by
  refine f_end ((f_bind (f_u1 h0)).trans ?_)
  show (Decoder.newarray pc) b (pc + 1) = _
  unfold Decoder.newarray
  rw [f_bind (f_u1 h1)]
  rfl
set_option maxRecDepth 100000 in
theorem f_d188_11 (h0 : f_b b pc = some 188) (h1 : f_b b (pc + 1) = some 11) : decode b pc = .ok (.newarray .long, 2) := by
  refine f_end ((f_bind (f_u1 h0)).trans ?_)
  show (Decoder.newarray pc) b (pc + 1) = _
  unfold Decoder.newarray
  rw [f_bind (f_u1 h1)]
  rfl
set_option maxRecDepth 100000 in
theorem f_dec_ok {x0 x1 x2 n : Nat} {i : Instr} (h : f_dec x0 x1 x2 = some (i, n)) (h0 : f_b b pc = some x0) (h1 : 2 ≤ n → f_b b (pc + 1) = some x1) (h2 : 3 ≤ n → f_b b (pc + 2) = some x2) : decode b pc = .ok (i, n) := by
  unfold f_dec at h
  split at h
  · cases h; exact f_d1 h0
  · cases h; exact f_d2 h0
  · cases h; exact f_d3 h0
  · cases h; exact f_d4 h0
  · cases h; exact f_d5 h0
  · cases h; exact f_d6 h0
  · cases h; exact f_d7 h0
  · cases h; exact f_d8 h0
  · cases h; exact f_d9 h0
  · cases h; exact f_d10 h0
  · cases h; exact f_d26 h0
  · cases h; exact f_d27 h0
  · cases h; exact f_d28 h0
  · cases h; exact f_d29 h0
  · cases h; exact f_d30 h0
  · cases h; exact f_d31 h0
  · cases h; exact f_d32 h0
  · cases h; exact f_d33 h0
  · cases h; exact f_d42 h0
  · cases h; exact f_d43 h0
  · cases h; exact f_d44 h0
  · cases h; exact f_d45 h0
  · cases h; exact f_d59 h0
  · cases h; exact f_d60 h0
  · cases h; exact f_d61 h0
  · cases h; exact f_d62 h0
  · cases h; exact f_d63 h0
  · cases h; exact f_d64 h0
  · cases h; exact f_d65 h0
  · cases h; exact f_d66 h0
  · cases h; exact f_d75 h0
  · cases h; exact f_d76 h0
  · cases h; exact f_d77 h0
  · cases h; exact f_d78 h0
  · cases h; exact f_d46 h0
  · cases h; exact f_d50 h0
  · cases h; exact f_d79 h0
  · cases h; exact f_d80 h0
  · cases h; exact f_d83 h0
  · cases h; exact f_d87 h0
  · cases h; exact f_d89 h0
  · cases h; exact f_d92 h0
  · cases h; exact f_d96 h0
  · cases h; exact f_d97 h0
  · cases h; exact f_d100 h0
  · cases h; exact f_d101 h0
  · cases h; exact f_d104 h0
  · cases h; exact f_d105 h0
  · cases h; exact f_d108 h0
  · cases h; exact f_d109 h0
  · cases h; exact f_d112 h0
  · cases h; exact f_d116 h0
  · cases h; exact f_d120 h0
  · cases h; exact f_d122 h0
  · cases h; exact f_d124 h0
  · cases h; exact f_d126 h0
  · cases h; exact f_d128 h0
  · cases h; exact f_d130 h0
  · cases h; exact f_d133 h0
  · cases h; exact f_d136 h0
  · cases h; exact f_d145 h0
  · cases h; exact f_d147 h0
  · cases h; exact f_d148 h0
  · cases h; exact f_d172 h0
  · cases h; exact f_d173 h0
  · cases h; exact f_d176 h0
  · cases h; exact f_d177 h0
  · cases h; exact f_d190 h0
  · cases h; exact f_d191 h0
  · cases h; exact f_d18 h0 (h1 (by decide))
  · cases h; exact f_d21 h0 (h1 (by decide))
  · cases h; exact f_d22 h0 (h1 (by decide))
  · cases h; exact f_d25 h0 (h1 (by decide))
  · cases h; exact f_d54 h0 (h1 (by decide))
  · cases h; exact f_d55 h0 (h1 (by decide))
  · cases h; exact f_d58 h0 (h1 (by decide))
  · cases h; exact f_d16 h0 (h1 (by decide))
  · cases h; exact f_d19 h0 (h1 (by decide)) (h2 (by decide))
  · cases h; exact f_d20 h0 (h1 (by decide)) (h2 (by decide))
  · cases h; exact f_d178 h0 (h1 (by decide)) (h2 (by decide))
  · cases h; exact f_d180 h0 (h1 (by decide)) (h2 (by decide))
  · cases h; exact f_d181 h0 (h1 (by decide)) (h2 (by decide))
  · cases h; exact f_d182 h0 (h1 (by decide)) (h2 (by decide))
  · cases h; exact f_d183 h0 (h1 (by decide)) (h2 (by decide))
  · cases h; exact f_d184 h0 (h1 (by decide)) (h2 (by decide))
  · cases h; exact f_d187 h0 (h1 (by decide)) (h2 (by decide))
  · cases h; exact f_d189 h0 (h1 (by decide)) (h2 (by decide))
  · cases h; exact f_d17 h0 (h1 (by decide)) (h2 (by decide))
  · cases h; exact f_d167 h0 (h1 (by decide)) (h2 (by decide))
  · cases h; exact f_d198 h0 (h1 (by decide)) (h2 (by decide))
  · cases h; exact f_d199 h0 (h1 (by decide)) (h2 (by decide))
  · cases h; exact f_d153 h0 (h1 (by decide)) (h2 (by decide))
  · cases h; exact f_d154 h0 (h1 (by decide)) (h2 (by decide))
  · cases h; exact f_d155 h0 (h1 (by decide)) (h2 (by decide))
  · cases h; exact f_d156 h0 (h1 (by decide)) (h2 (by decide))
  · cases h; exact f_d157 h0 (h1 (by decide)) (h2 (by decide))
  · cases h; exact f_d158 h0 (h1 (by decide)) (h2 (by decide))
  · cases h; exact f_d159 h0 (h1 (by decide)) (h2 (by decide))
  · cases h; exact f_d160 h0 (h1 (by decide)) (h2 (by decide))
  · cases h; exact f_d161 h0 (h1 (by decide)) (h2 (by decide))
  · cases h; exact f_d162 h0 (h1 (by decide)) (h2 (by decide))
  · cases h; exact f_d163 h0 (h1 (by decide)) (h2 (by decide))
  · cases h; exact f_d164 h0 (h1 (by decide)) (h2 (by decide))
  · cases h; exact f_d132 h0 (h1 (by decide)) (h2 (by decide))
  · split at h
    · cases h; exact f_d188_10 h0 (h1 (by decide))
    · cases h; exact f_d188_11 h0 (h1 (by decide))
    · cases h
  · cases h
end FD
/-- bytes, sixteen to a row -/
def f_at (B : List (List Nat)) (p : Nat) : Option Nat := (B.getD (p / 16) [])[p % 16]?
def f_o (x : Option Nat) : Nat := x.getD 0
def f_rows : List (List Nat) → Bool
  | [] => true
  | [_] => true
  | r :: s :: t => Nat.beq r.length 16 && f_rows (s :: t)
theorem f_at_ok : ∀ {B : List (List Nat)}, f_rows B = true → (∀ r ∈ B, r.length ≤ 16) → ∀ p x, f_at B p = some x → B.flatten[p]? = some x := by
  intro B
  induction B with
  | nil =>
    intro _ _ p x h
    unfold f_at at h
    cases h
  | cons r t ih =>
    intro hr hl p x h
    unfold f_at at h
    rw [List.flatten_cons]
    rcases Nat.lt_or_ge p 16 with c | c
    · rw [show p / 16 = 0 by omega, show p % 16 = p by omega] at h
      have h : r[p]? = some x := h
      have hp : p < r.length := by
        rcases Nat.lt_or_ge p r.length with d | d
        · exact d
        · rw [List.getElem?_eq_none d] at h
          cases h
      rw [List.getElem?_append_left hp]
      exact h
    · obtain ⟨k, hk⟩ : ∃ k, p / 16 = k + 1 := ⟨p / 16 - 1, by omega⟩
      rw [hk] at h
      have h : (t.getD k [])[p % 16]? = some x := h
      match t, hr, ih, hl, h with
      | [], _, _, _, h => cases h
      | s :: t, hr, ih, hl, h =>
        unfold f_rows at hr
        rw [Bool.and_eq_true] at hr
        have h16 : r.length = 16 := Nat.eq_of_beq_eq_true hr.1
        rw [List.getElem?_append_right (by omega), h16]
        refine ih hr.2 (fun q hq => hl q (List.mem_cons_of_mem _ hq)) (p - 16) x ?_
        unfold f_at
        rw [show (p - 16) / 16 = k by omega, show (p - 16) % 16 = p % 16 by omega]
        exact h
def f_one (b : ByteArray) (B : List (List Nat)) (pc : Nat) (i : Instr) : Bool := match f_dec (f_o (f_at B pc)) (f_o (f_at B (pc + 1))) (f_o (f_at B (pc + 2))) with
  | some (j, len) => decide (j = i) && (Nat.beq (m_len i) len && ((f_at B pc).isSome && ((Nat.ble len 1 || (f_at B (pc + 1)).isSome) && (Nat.ble len 2 || (f_at B (pc + 2)).isSome))))
  | none => match decode b pc with
    | .ok (j, len) => decide (j = i) && (decide (m_len i = len) || decide (m_len i = 0))
    | _ => false
def f_chk (b : ByteArray) (B : List (List Nat)) (L : List (List (Option Instr))) : Bool := decide (b.data.toList.map UInt8.toNat = B.flatten) && (f_rows B && (B.all (fun r => Nat.ble r.length 16) && (List.range (16 * L.length)).all (fun k => match q_at L k with
  | some i => f_one b B k i
  | none => true)))
theorem f_one_ok {b : ByteArray} {B : List (List Nat)} {pc : Nat} {i : Instr} (hb : ∀ p x, f_at B p = some x → f_b b p = some x) (h : f_one b B pc i = true) : ∃ len, decode b pc = .ok (i, len) ∧ (m_len i = len ∨ m_len i = 0) := by
  unfold f_one at h
  split at h
  · rename_i j len hd
    simp only [Bool.and_eq_true, Bool.or_eq_true, decide_eq_true_eq] at h
    obtain ⟨e, hl, s0, s1, s2⟩ := h
    subst e
    have at1 : ∀ p, (f_at B p).isSome = true → f_b b p = some (f_o (f_at B p)) := fun p hs => by
      obtain ⟨x, hx⟩ := Option.isSome_iff_exists.mp hs
      rw [hx]
      exact hb p x hx
    refine ⟨len, f_dec_ok hd (at1 _ s0) (fun hn => at1 _ ?_) (fun hn => at1 _ ?_), Or.inl (Nat.eq_of_beq_eq_true hl)⟩
    · exact s1.resolve_left (fun e => absurd (Nat.le_of_ble_eq_true e) (by omega))
    · exact s2.resolve_left (fun e => absurd (Nat.le_of_ble_eq_true e) (by omega))
  · split at h
    · rename_i j len hd
      simp only [Bool.and_eq_true, Bool.or_eq_true, decide_eq_true_eq] at h
      obtain ⟨rfl, h3⟩ := h
      exact ⟨len, hd, h3⟩
    · cases h
theorem f_chk_ok {b : ByteArray} {B : List (List Nat)} {L : List (List (Option Instr))} (h : f_chk b B L = true) : q_dec b L := by
  unfold f_chk at h
  simp only [Bool.and_eq_true, decide_eq_true_eq] at h
  obtain ⟨hB, hr, hl, hc⟩ := h
  have hb : ∀ p x, f_at B p = some x → f_b b p = some x := fun p x hx => by
    have k := f_at_ok hr (fun r hr => Nat.le_of_ble_eq_true (List.all_eq_true.mp hl r hr)) p x hx
    rw [← hB, List.getElem?_map] at k
    exact k
  intro pc i hi
  have h2 := List.all_eq_true.mp hc pc (List.mem_range.mpr (q_at_lt hi))
  rw [hi] at h2
  exact f_one_ok hb h2
