/-! A SMALL MACHINE over numbered cells: what a frame does, as a function of its own; below it is shown that the Java machine does the same. -/
abbrev MV : Type := Int32 ⊕ Int64 ⊕ Option Nat
abbrev ML : Type := List (Nat × MV)
/-- the world: the next number, cells made (with those that a throw made), slots made, what each cell is (its kind, its size), what it holds -/
abbrev MWd : Type := Nat × Nat × Nat × (Nat → Nat × Nat) × (Nat → Nat → MV)
/-- how a frame ends: an answer, or a throw of a class -/
abbrev MOut : Type := Option MV ⊕ String
abbrev MR : Type := Option (Nat × ML × List MV)
def m_int : MV → Int32
  | .inl x => x
  | _ => 0
def m_lng : MV → Int64
  | .inr (.inl x) => x
  | _ => 0
def m_ref : MV → Option Nat
  | .inr (.inr r) => r
  | _ => none
def m_isI : MV → Bool
  | .inl _ => true
  | _ => false
def m_isL : MV → Bool
  | .inr (.inl _) => true
  | _ => false
def m_isR : MV → Bool
  | .inr (.inr _) => true
  | _ => false
def m_val (ad : Nat → Nat) : MV → Value
  | .inl x => .int x
  | .inr (.inl x) => .long x
  | .inr (.inr none) => .null
  | .inr (.inr (some k)) => .ref (ad k)
def ml_val (ad : Nat → Nat) (L : ML) : List (Nat × Value) := L.map (fun q => (q.1, m_val ad q.2))
theorem m_cat (ad : Nat → Nat) (v : MV) : ((m_val ad v).category == 2) = m_isL v := by
  rcases v with x | x | x | x <;> rfl
def m_get : ML → Nat → Option MV
  | [], _ => none
  | (j, v) :: t, i => if j = i then some v else m_get t i
theorem m_get_mem {i : Nat} {v : MV} : ∀ {L : ML}, m_get L i = some v → (i, v) ∈ L
  | [], h => by simp [m_get] at h
  | (j, w) :: t, h => by
    unfold m_get at h
    split at h
    · rename_i hj
      cases h
      rw [hj]
      exact List.mem_cons_self
    · exact List.mem_cons_of_mem _ (m_get_mem h)
theorem m_get_at {ad : Nat → Nat} {L : ML} {i nL : Nat} {v : MV} {ls : Array Slot} (h : m_get L i = some v) (hl : lv_has ls nL (ml_val ad L)) : ls[i]? = some (.val (m_val ad v)) :=
  hl.2.2 (i, m_val ad v) (List.mem_map.mpr ⟨_, m_get_mem h, rfl⟩)
def m_store (L : ML) (i : Nat) (v : MV) : ML := (i, v) :: L.filter (fun q => !(q.1 == i) && !(q.1 + 1 == i && m_isL q.2))
def m_store2 (L : ML) (i : Nat) (v : MV) : ML := (i, v) :: L.filter (fun q => !(q.1 == i) && (!(q.1 == i + 1) && !(q.1 + 1 == i && m_isL q.2)))
theorem m_store_val (ad : Nat → Nat) (L : ML) (i : Nat) (v : MV) : (i, m_val ad v) :: (ml_val ad L).filter (fun q => !(q.1 == i) && !(q.1 + 1 == i && q.2.category == 2)) = ml_val ad (m_store L i v) := by
  simp only [ml_val, m_store, List.map_cons, List.filter_map, Function.comp_def, m_cat]
theorem m_store2_val (ad : Nat → Nat) (L : ML) (i : Nat) (v : MV) : (i, m_val ad v) :: (ml_val ad L).filter (fun q => !(q.1 == i) && (!(q.1 == i + 1) && !(q.1 + 1 == i && q.2.category == 2))) = ml_val ad (m_store2 L i v) := by
  simp only [ml_val, m_store2, List.map_cons, List.filter_map, Function.comp_def, m_cat]
-- the straight instructions
def m_ii (pc : Nat) (L : ML) (st : List MV) (f : Int32 → Int32 → Option MV) : MR := match st with
  | .inl y :: .inl x :: r => match f x y with
    | some v => some (pc, L, v :: r)
    | none => none
  | _ => none
def m_ll (pc : Nat) (L : ML) (st : List MV) (f : Int64 → Int64 → Option MV) : MR := match st with
  | .inr (.inl y) :: .inr (.inl x) :: r => match f x y with
    | some v => some (pc, L, v :: r)
    | none => none
  | _ => none
def m_i1 (pc : Nat) (L : ML) (st : List MV) (f : Int32 → MV) : MR := match st with
  | .inl x :: r => some (pc, L, f x :: r)
  | _ => none
def m_l1 (pc : Nat) (L : ML) (st : List MV) (f : Int64 → MV) : MR := match st with
  | .inr (.inl x) :: r => some (pc, L, f x :: r)
  | _ => none
def m_ld (pc : Nat) (L : ML) (st : List MV) (i : Nat) (t : MV → Bool) : MR := match m_get L i with
  | some v => if t v = true then some (pc, L, v :: st) else none
  | none => none
def m_st1 (pc nL : Nat) (L : ML) (st : List MV) (i : Nat) (t : MV → Bool) : MR := match st with
  | v :: r => if t v = true ∧ i < nL then some (pc, m_store L i v, r) else none
  | _ => none
def m_st2 (pc nL : Nat) (L : ML) (st : List MV) (i : Nat) : MR := match st with
  | v :: r => if m_isL v = true ∧ i + 1 < nL then some (pc, m_store2 L i v, r) else none
  | _ => none
def m_to (pc : Nat) (off : Int) (L : ML) (st : List MV) : MR := if 0 ≤ (pc : Int) + off then some (((pc : Int) + off).toNat, L, st) else none
def m_br1 (pc : Nat) (off : Int) (L : ML) (st : List MV) (c : Int32 → Bool) : MR := match st with
  | .inl x :: r => if 0 ≤ (pc : Int) + off then some (if c x = true then ((pc : Int) + off).toNat else pc + 3, L, r) else none
  | _ => none
def m_br2 (pc : Nat) (off : Int) (L : ML) (st : List MV) (c : Int32 → Int32 → Bool) : MR := match st with
  | .inl y :: .inl x :: r => if 0 ≤ (pc : Int) + off then some (if c x y = true then ((pc : Int) + off).toNat else pc + 3, L, r) else none
  | _ => none
def m_cmp (c : Jvm.ClassFile.Cond) (x y : Int32) : Bool := match c with
  | .eq => decide (x = y)
  | .ne => decide (x ≠ y)
  | .lt => decide (x < y)
  | .ge => decide (y ≤ x)
  | .gt => decide (y < x)
  | .le => decide (x ≤ y)
def m_len : Instr → Nat
  | .aload _ | .astore _ | .iload _ | .istore _ | .lload _ | .lstore _ | .bipush _ | .ldc _ | .newarray _ => 2
  | .sipush _ | .iinc _ _ | .ifCond _ _ | .if_icmp _ _ | .ifnull _ | .ifnonnull _ | .goto _ | .ldc_w _ | .ldc2_w _ | .getfield _ | .putfield _ | .getstatic _ | .invokevirtual _ | .invokestatic _ | .invokespecial _ | .new _ | .anewarray _ => 3
  | .tableswitch _ _ _ _ => 0
  | _ => 1
/-- what touches neither the heap nor another method -/
def m_pure (i : Instr) (pc nL : Nat) (L : ML) (st : List MV) : MR := match i with
  | .iconst n => some (pc + 1, L, .inl (Int32.ofInt n) :: st)
  | .bipush n => some (pc + 2, L, .inl (Int8.ofInt n).toInt32 :: st)
  | .sipush n => some (pc + 3, L, .inl (Int16.ofInt n).toInt32 :: st)
  | .lconst n => some (pc + 1, L, .inr (.inl (Int64.ofNat (n : Nat))) :: st)
  | .aconst_null => some (pc + 1, L, .inr (.inr none) :: st)
  | .iload i => m_ld (pc + 2) L st i m_isI
  | .iload_n k => m_ld (pc + 1) L st (k : Nat) m_isI
  | .lload i => m_ld (pc + 2) L st i m_isL
  | .lload_n k => m_ld (pc + 1) L st (k : Nat) m_isL
  | .aload i => m_ld (pc + 2) L st i m_isR
  | .aload_n k => m_ld (pc + 1) L st (k : Nat) m_isR
  | .istore i => m_st1 (pc + 2) nL L st i m_isI
  | .istore_n k => m_st1 (pc + 1) nL L st (k : Nat) m_isI
  | .lstore i => m_st2 (pc + 2) nL L st i
  | .lstore_n k => m_st2 (pc + 1) nL L st (k : Nat)
  | .astore i => m_st1 (pc + 2) nL L st i m_isR
  | .astore_n k => m_st1 (pc + 1) nL L st (k : Nat) m_isR
  | .iinc i n => match m_get L i with
    | some (.inl x) => if i < nL then some (pc + 3, m_store L i (.inl (x + Int32.ofInt n)), st) else none
    | _ => none
  | .iadd => m_ii (pc + 1) L st (fun x y => some (.inl (x + y)))
  | .isub => m_ii (pc + 1) L st (fun x y => some (.inl (x - y)))
  | .imul => m_ii (pc + 1) L st (fun x y => some (.inl (x * y)))
  | .idiv => m_ii (pc + 1) L st (fun x y => if y = 0 then none else some (.inl (x / y)))
  | .irem => m_ii (pc + 1) L st (fun x y => if y = 0 then none else some (.inl (x - x / y * y)))
  | .iand => m_ii (pc + 1) L st (fun x y => some (.inl (x &&& y)))
  | .ior => m_ii (pc + 1) L st (fun x y => some (.inl (x ||| y)))
  | .ixor => m_ii (pc + 1) L st (fun x y => some (.inl (x ^^^ y)))
  | .ishl => m_ii (pc + 1) L st (fun x y => some (.inl (x <<< (y &&& 31))))
  | .ishr => m_ii (pc + 1) L st (fun x y => some (.inl (x >>> (y &&& 31))))
  | .iushr => m_ii (pc + 1) L st (fun x y => some (.inl (x.toUInt32 >>> (y.toUInt32 &&& Int32.toUInt32 31)).toInt32))
  | .ineg => m_i1 (pc + 1) L st (fun x => .inl (-x))
  | .i2l => m_i1 (pc + 1) L st (fun x => .inr (.inl x.toInt64))
  | .i2b => m_i1 (pc + 1) L st (fun x => .inl x.toInt8.toInt32)
  | .i2s => m_i1 (pc + 1) L st (fun x => .inl x.toInt16.toInt32)
  | .l2i => m_l1 (pc + 1) L st (fun x => .inl x.toInt32)
  | .ladd => m_ll (pc + 1) L st (fun x y => some (.inr (.inl (x + y))))
  | .lsub => m_ll (pc + 1) L st (fun x y => some (.inr (.inl (x - y))))
  | .lmul => m_ll (pc + 1) L st (fun x y => some (.inr (.inl (x * y))))
  | .ldiv => m_ll (pc + 1) L st (fun x y => if y = 0 then none else some (.inr (.inl (x / y))))
  | .lcmp => m_ll (pc + 1) L st (fun x y => some (.inl (lg_cmp x y)))
  | .pop => match st with
    | v :: r => if m_isL v = true then none else some (pc + 1, L, r)
    | _ => none
  | .dup => match st with
    | v :: r => if m_isL v = true then none else some (pc + 1, L, v :: v :: r)
    | _ => none
  | .dup2 => match st with
    | v :: u :: r => if m_isL v = true ∨ m_isL u = true then none else some (pc + 1, L, v :: u :: v :: u :: r)
    | _ => none
  | .goto off => m_to pc off L st
  | .ifCond c off => m_br1 pc off L st (fun x => m_cmp c x 0)
  | .if_icmp c off => m_br2 pc off L st (m_cmp c)
  | .ifnull off => match st with
    | .inr (.inr none) :: r => m_to pc off L r
    | .inr (.inr (some _)) :: r => some (pc + 3, L, r)
    | _ => none
  | .ifnonnull off => match st with
    | .inr (.inr none) :: r => some (pc + 3, L, r)
    | .inr (.inr (some _)) :: r => m_to pc off L r
    | _ => none
  | .tableswitch dflt lo hi offs => match st with
    | .inl x :: r => if x.toInt < lo ∨ hi < x.toInt then m_to pc dflt L r else match offs[(x.toInt - lo).toNat]? with
      | some off => m_to pc off L r
      | none => none
    | _ => none
  | _ => none
theorem m_ii_ok {pc : Nat} {L : ML} {st : List MV} {f : Int32 → Int32 → Option MV} {r : Nat × ML × List MV} (h : m_ii pc L st f = some r) : ∃ x y v rest, st = .inl y :: .inl x :: rest ∧ f x y = some v ∧ r = (pc, L, v :: rest) := by
  unfold m_ii at h
  split at h
  · split at h
    · rename_i hf
      cases h
      exact ⟨_, _, _, _, rfl, hf, rfl⟩
    · cases h
  · cases h
theorem m_ll_ok {pc : Nat} {L : ML} {st : List MV} {f : Int64 → Int64 → Option MV} {r : Nat × ML × List MV} (h : m_ll pc L st f = some r) : ∃ x y v rest, st = .inr (.inl y) :: .inr (.inl x) :: rest ∧ f x y = some v ∧ r = (pc, L, v :: rest) := by
  unfold m_ll at h
  split at h
  · split at h
    · rename_i hf
      cases h
      exact ⟨_, _, _, _, rfl, hf, rfl⟩
    · cases h
  · cases h
theorem m_i1_ok {pc : Nat} {L : ML} {st : List MV} {f : Int32 → MV} {r : Nat × ML × List MV} (h : m_i1 pc L st f = some r) : ∃ x rest, st = .inl x :: rest ∧ r = (pc, L, f x :: rest) := by
  unfold m_i1 at h
  split at h
  · cases h; exact ⟨_, _, rfl, rfl⟩
  · cases h
theorem m_l1_ok {pc : Nat} {L : ML} {st : List MV} {f : Int64 → MV} {r : Nat × ML × List MV} (h : m_l1 pc L st f = some r) : ∃ x rest, st = .inr (.inl x) :: rest ∧ r = (pc, L, f x :: rest) := by
  unfold m_l1 at h
  split at h
  · cases h; exact ⟨_, _, rfl, rfl⟩
  · cases h
theorem m_ld_ok {pc : Nat} {L : ML} {st : List MV} {i : Nat} {t : MV → Bool} {r : Nat × ML × List MV} (h : m_ld pc L st i t = some r) : ∃ v, m_get L i = some v ∧ t v = true ∧ r = (pc, L, v :: st) := by
  unfold m_ld at h
  split at h
  · split at h
    · rename_i h1 h2
      cases h; exact ⟨_, h1, h2, rfl⟩
    · cases h
  · cases h
theorem m_st1_ok {pc nL : Nat} {L : ML} {st : List MV} {i : Nat} {t : MV → Bool} {r : Nat × ML × List MV} (h : m_st1 pc nL L st i t = some r) : ∃ v rest, st = v :: rest ∧ t v = true ∧ i < nL ∧ r = (pc, m_store L i v, rest) := by
  unfold m_st1 at h
  split at h
  · split at h
    · rename_i h2
      cases h; exact ⟨_, _, rfl, h2.1, h2.2, rfl⟩
    · cases h
  · cases h
theorem m_st2_ok {pc nL : Nat} {L : ML} {st : List MV} {i : Nat} {r : Nat × ML × List MV} (h : m_st2 pc nL L st i = some r) : ∃ v rest, st = v :: rest ∧ m_isL v = true ∧ i + 1 < nL ∧ r = (pc, m_store2 L i v, rest) := by
  unfold m_st2 at h
  split at h
  · split at h
    · rename_i h2
      cases h; exact ⟨_, _, rfl, h2.1, h2.2, rfl⟩
    · cases h
  · cases h
theorem m_to_ok {pc : Nat} {off : Int} {L : ML} {st : List MV} {r : Nat × ML × List MV} (h : m_to pc off L st = some r) : ∃ tgt : Nat, (pc : Int) + off = (tgt : Int) ∧ r = (tgt, L, st) := by
  unfold m_to at h
  split at h
  · rename_i h2
    cases h; exact ⟨_, (Int.toNat_of_nonneg h2).symm, rfl⟩
  · cases h
theorem m_br1_ok {pc : Nat} {off : Int} {L : ML} {st : List MV} {c : Int32 → Bool} {r : Nat × ML × List MV} (h : m_br1 pc off L st c = some r) : ∃ (x : Int32) (rest : List MV) (tgt : Nat), st = .inl x :: rest ∧ (pc : Int) + off = (tgt : Int) ∧ r = (if c x = true then tgt else pc + 3, L, rest) := by
  unfold m_br1 at h
  split at h
  · split at h
    · rename_i h2
      cases h
      exact ⟨_, _, _, rfl, (Int.toNat_of_nonneg h2).symm, rfl⟩
    · cases h
  · cases h
theorem m_br2_ok {pc : Nat} {off : Int} {L : ML} {st : List MV} {c : Int32 → Int32 → Bool} {r : Nat × ML × List MV} (h : m_br2 pc off L st c = some r) : ∃ (x y : Int32) (rest : List MV) (tgt : Nat), st = .inl y :: .inl x :: rest ∧ (pc : Int) + off = (tgt : Int) ∧ r = (if c x y = true then tgt else pc + 3, L, rest) := by
  unfold m_br2 at h
  split at h
  · split at h
    · rename_i h2
      cases h
      exact ⟨_, _, _, _, rfl, (Int.toNat_of_nonneg h2).symm, rfl⟩
    · cases h
  · cases h
theorem m_isI_ok {v : MV} (h : m_isI v = true) : ∃ x, v = .inl x := by
  rcases v with x | x | x
  · exact ⟨x, rfl⟩
  · cases h
  · cases h
theorem m_isL_ok {v : MV} (h : m_isL v = true) : ∃ x, v = .inr (.inl x) := by
  rcases v with x | x | x
  · cases h
  · exact ⟨x, rfl⟩
  · cases h
theorem m_isR_ok {v : MV} (h : m_isR v = true) : v = .inr (.inr none) ∨ ∃ k, v = .inr (.inr (some k)) := by
  rcases v with x | x | x | x
  · cases h
  · cases h
  · exact Or.inl rfl
  · exact Or.inr ⟨x, rfl⟩
theorem m_notL {ad : Nat → Nat} {v : MV} (h : ¬ m_isL v = true) : (m_val ad v).category = 1 := by
  rcases v with x | x | x | x
  · rfl
  · exact absurd rfl h
  · rfl
  · rfl
