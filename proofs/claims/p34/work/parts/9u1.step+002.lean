theorem s_numF {m : MV} {p : Int} (h : s_num false m = some p) : ∃ x : Int32, m = .inl x ∧ p = x.toInt := by
  rcases m with x | x | x
  · cases h; exact ⟨x, rfl, rfl⟩
  · cases h
  · cases h
theorem s_dec_o {ρ : Nat → Int32} {E : SE} (hE : s_in ρ E) {c : Jvm.ClassFile.Cond} {x y : SV} {o : Bool} (h : (match s_ord E false x y with
      | some (.inl o) => some (.inl (s_cmp c o))
      | some (.inr z) => some (.inr z)
      | none => none : Option (Bool ⊕ SP)) = some (.inl o)) : ∃ a b : Int32, s_val ρ x = .inl a ∧ s_val ρ y = .inl b ∧ m_cmp c a b = o := by
  split at h
  · rename_i o' ho
    cases h
    obtain ⟨p, q, h1, h2, h3⟩ := s_ord_ok hE ho
    obtain ⟨a, ha, rfl⟩ := s_numF h1
    obtain ⟨b, hb, rfl⟩ := s_numF h2
    exact ⟨a, b, ha, hb, by rw [s_cmp_ok, ← h3]⟩
  · cases h
  · cases h
theorem s_dec_ok {ρ : Nat → Int32} {E : SE} (hE : s_in ρ E) {c : Jvm.ClassFile.Cond} {x y : SV} {o : Bool} (h : s_dec E c x y = some (.inl o)) : ∃ a b : Int32, s_val ρ x = .inl a ∧ s_val ρ y = .inl b ∧ m_cmp c a b = o := by
  unfold s_dec at h
  split at h
  · rename_i k b
    split at h
    · split at h
      · have h2 := s_lt_ok hE (Option.some.inj h)
        refine ⟨ρ k, b, rfl, rfl, ?_⟩
        rw [h2]
        simp only [m_cmp, Int32.lt_iff_toInt_lt]
      · have h2 := s_lt_ok hE (s_not_ok (Option.some.inj h))
        refine ⟨ρ k, b, rfl, rfl, ?_⟩
        rw [← Bool.not_not o, h2]
        simp only [m_cmp, Int32.le_iff_toInt_le, ← decide_not, decide_eq_decide]
        omega
      · have h2 := s_lt_ok hE (Option.some.inj h)
        refine ⟨ρ k, b, rfl, rfl, ?_⟩
        rw [h2]
        simp only [m_cmp, Int32.le_iff_toInt_le, decide_eq_decide]
        omega
      · have h2 := s_lt_ok hE (s_not_ok (Option.some.inj h))
        refine ⟨ρ k, b, rfl, rfl, ?_⟩
        rw [← Bool.not_not o, h2]
        simp only [m_cmp, Int32.lt_iff_toInt_lt, ← decide_not, decide_eq_decide]
        omega
      · exact s_dec_o hE h
    · exact s_dec_o hE h
  · exact s_dec_o hE h
def s_br (E : SE) (pc : Nat) (off : Int) (L : SL) (r : List SV) (A : SW) (c : Jvm.ClassFile.Cond) (x y : SV) : Option SR := match s_dec E c x y with
  | some (.inl o) => if 0 ≤ (pc : Int) + off then s_nx (if o = true then ((pc : Int) + off).toNat else pc + 3) L r A else none
  | some (.inr z) => some (.inr z)
  | none => none
def s_intV (v : SV) : SV := match v with
  | .inl m => .inl (.inl (m_int m))
  | .inr (k, false) => .inr (k, false)
  | .inr (_, true) => .inl (.inl 0)
theorem s_intV_val (ρ : Nat → Int32) (v : SV) : s_val ρ (s_intV v) = .inl (m_int (s_val ρ v)) := by rcases v with m | ⟨k, _ | _⟩ <;> rfl
def s_lngV (v : SV) : SV := match v with
  | .inl m => .inl (.inr (.inl (m_lng m)))
  | .inr (k, true) => .inr (k, true)
  | .inr (_, false) => .inl (.inr (.inl 0))
theorem s_lngV_val (ρ : Nat → Int32) (v : SV) : s_val ρ (s_lngV v) = .inr (.inl (m_lng (s_val ρ v))) := by rcases v with m | ⟨k, _ | _⟩ <;> rfl
def s_refV (v : SV) : SV := match v with
  | .inl m => .inl (.inr (.inr (m_ref m)))
  | .inr _ => .inl (.inr (.inr none))
theorem s_refV_val (ρ : Nat → Int32) (v : SV) : s_val ρ (s_refV v) = .inr (.inr (m_ref (s_val ρ v))) := by rcases v with m | ⟨k, _ | _⟩ <;> rfl
def s_fit (ty : FieldType) (v : SV) : Bool := match v with
  | .inl m => m_fit ty m
  | .inr (_, false) => decide (ty = .int)
  | .inr (_, true) => decide (ty = .long)
theorem s_fit_val {ρ : Nat → Int32} {ty : FieldType} {v : SV} (h : s_fit ty v = true) : m_fit ty (s_val ρ v) = true := by
  rcases v with m | ⟨k, _ | _⟩
  · exact h
  · have : ty = .int := of_decide_eq_true h
    subst this; rfl
  · have : ty = .long := of_decide_eq_true h
    subst this; rfl
def s_cats (st : List SV) : Nat := (st.map (fun v => if s_isL v = true then 2 else 1)).sum
theorem s_cats_val (ρ : Nat → Int32) (st : List SV) : m_cats (st.map (s_val ρ)) = s_cats st := by
  unfold m_cats s_cats
  rw [List.map_map]
  congr 1
  apply List.map_congr_left
  intro v _
  simp only [Function.comp_def, s_isL_val]
def s_and63 (st : List SV) : Option (List SV) := match st with
  | .inl (.inl b) :: .inr (0, false) :: r => if b = 63 then some (.inr (7, false) :: r) else none
  | _ => none
def s_div (st : List SV) : Option (List SV) := match st with
  | .inl (.inl b) :: .inr (2, false) :: r => if b = 10000 then some (.inr (8, false) :: r) else if b = 100 then some (.inr (9, false) :: r) else none
  | _ => none
def s_rem (st : List SV) : Option (List SV) := match st with
  | .inl (.inl b) :: .inr (2, false) :: r => if b = 100 then some (.inr (10, false) :: r) else none
  | _ => none
/-- a switch: whether the number lies outside the table (true), or a split -/
def s_rng (E : SE) (v : SV) (lo hi : Int) : Bool ⊕ SP := match v with
  | .inr (k, false) => if (s_iv E k).2 < lo ∨ hi < (s_iv E k).1 then .inl true else if lo ≤ (s_iv E k).1 ∧ (s_iv E k).2 ≤ hi then .inl false else if (s_iv E k).1 < lo then .inr (k, lo) else .inr (k, hi + 1)
  | _ => .inl false
theorem s_rng_ok {ρ : Nat → Int32} {E : SE} (hE : s_in ρ E) {v : SV} {lo hi : Int} (h : s_rng E v lo hi = .inl true) : ∃ x : Int32, s_val ρ v = .inl x ∧ (x.toInt < lo ∨ hi < x.toInt) := by
  unfold s_rng at h
  split at h
  · rename_i k
    obtain ⟨h1, h2⟩ := hE.2 k
    split at h
    · exact ⟨ρ k, rfl, by omega⟩
    split at h
    · cases h
    split at h <;> cases h
  · cases h
/-- the copied stretch, written out -/
def s_cp (A : SW) (a0 a sp dp n : Nat) (c : SC) : SW := (A.1, A.2.1, A.2.2.1, s_setc A.2.2.2 a (c.1, (List.range n).map (fun j => (dp + j, s_intV (s_mem A.2.2.2 a0 (sp + j)))) ++ c.2))
def s_step (E : SE) (mid d : Nat) (i : Instr) (pc : Nat) (L : SL) (st : List SV) (A : SW) : Option SR := match i with
  | .iconst n => s_nx (pc + 1) L (.inl (.inl (Int32.ofInt n)) :: st) A
  | .bipush n => s_nx (pc + 2) L (.inl (.inl (Int8.ofInt n).toInt32) :: st) A
  | .sipush n => s_nx (pc + 3) L (.inl (.inl (Int16.ofInt n).toInt32) :: st) A
  | .lconst n => s_nx (pc + 1) L (.inl (.inr (.inl (Int64.ofNat (n : Nat)))) :: st) A
  | .aconst_null => s_nx (pc + 1) L (.inl (.inr (.inr none)) :: st) A
  | .iload i => s_ld (pc + 2) L st A i s_isI
  | .iload_n k => s_ld (pc + 1) L st A (k : Nat) s_isI
  | .lload i => s_ld (pc + 2) L st A i s_isL
  | .lload_n k => s_ld (pc + 1) L st A (k : Nat) s_isL
  | .aload i => s_ld (pc + 2) L st A i s_isR
  | .aload_n k => s_ld (pc + 1) L st A (k : Nat) s_isR
  | .istore i => s_st1 (pc + 2) (q_nl mid) L st A i s_isI
  | .istore_n k => s_st1 (pc + 1) (q_nl mid) L st A (k : Nat) s_isI
  | .lstore i => s_st2 (pc + 2) (q_nl mid) L st A i
  | .lstore_n k => s_st2 (pc + 1) (q_nl mid) L st A (k : Nat)
  | .astore i => s_st1 (pc + 2) (q_nl mid) L st A i s_isR
  | .astore_n k => s_st1 (pc + 1) (q_nl mid) L st A (k : Nat) s_isR
  | .iinc i n => match s_gets L i with
    | some v => s_wI E v (fun x => if i < q_nl mid then s_nx (pc + 3) (s_store L i (.inl (.inl (x + Int32.ofInt n)))) st A else none)
    | none => none
  | .iadd => s_ii E (pc + 1) L st A (fun x y => some (.inl (x + y)))
  | .isub => s_ii E (pc + 1) L st A (fun x y => some (.inl (x - y)))
  | .imul => s_ii E (pc + 1) L st A (fun x y => some (.inl (x * y)))
  | .idiv => match s_div st with
    | some r => s_nx (pc + 1) L r A
    | none => s_ii E (pc + 1) L st A (fun x y => if y = 0 then none else some (.inl (x / y)))
  | .irem => match s_rem st with
    | some r => s_nx (pc + 1) L r A
    | none => s_ii E (pc + 1) L st A (fun x y => if y = 0 then none else some (.inl (x - x / y * y)))
  | .iand => match s_and63 st with
    | some r => s_nx (pc + 1) L r A
    | none => s_ii E (pc + 1) L st A (fun x y => some (.inl (x &&& y)))
  | .ior => s_ii E (pc + 1) L st A (fun x y => some (.inl (x ||| y)))
  | .ixor => s_ii E (pc + 1) L st A (fun x y => some (.inl (x ^^^ y)))
  | .ishl => s_ii E (pc + 1) L st A (fun x y => some (.inl (x <<< (y &&& 31))))
  | .ishr => s_ii E (pc + 1) L st A (fun x y => some (.inl (x >>> (y &&& 31))))
  | .ineg => s_i1 E (pc + 1) L st A (fun x => .inl (-x))
  | .i2l => match st with
    | .inr (k, false) :: r => s_nx (pc + 1) L (.inr (k, true) :: r) A
    | .inl (.inl x) :: r => s_nx (pc + 1) L (.inl (.inr (.inl x.toInt64)) :: r) A
    | _ => none
  | .i2b => s_i1 E (pc + 1) L st A (fun x => .inl x.toInt8.toInt32)
  | .i2s => s_i1 E (pc + 1) L st A (fun x => .inl x.toInt16.toInt32)
  | .l2i => match st with
    | .inl (.inr (.inl x)) :: r => s_nx (pc + 1) L (.inl (.inl x.toInt32) :: r) A
    | _ => none
  | .ladd => s_ll (pc + 1) L st A (fun x y => some (.inr (.inl (x + y))))
  | .lsub => s_ll (pc + 1) L st A (fun x y => some (.inr (.inl (x - y))))
  | .lmul => s_ll (pc + 1) L st A (fun x y => some (.inr (.inl (x * y))))
  | .ldiv => s_ll (pc + 1) L st A (fun x y => if y = 0 then none else some (.inr (.inl (x / y))))
  | .lcmp => match st with
    | y :: x :: r => match s_ord E true x y with
      | some (.inl o) => s_nx (pc + 1) L (.inl (.inl (Int32.ofInt o)) :: r) A
      | some (.inr z) => some (.inr z)
      | none => none
    | _ => none
  | .dup => match st with
    | v :: r => if s_isL v = true then none else s_nx (pc + 1) L (v :: v :: r) A
    | _ => none
  | .dup2 => match st with
    | v :: u :: r => if s_isL v = true ∨ s_isL u = true then none else s_nx (pc + 1) L (v :: u :: v :: u :: r) A
    | _ => none
  | .goto off => s_to pc off L st A
  | .ifCond c off => match st with
    | x :: r => s_br E pc off L r A c x (.inl (.inl 0))
    | _ => none
  | .if_icmp c off => match st with
    | y :: x :: r => s_br E pc off L r A c x y
    | _ => none
  | .ifnull off => match st with
    | .inl (.inr (.inr none)) :: r => s_to pc off L r A
    | .inl (.inr (.inr (some _))) :: r => s_nx (pc + 3) L r A
    | _ => none
  | .ifnonnull off => match st with
    | .inl (.inr (.inr none)) :: r => s_nx (pc + 3) L r A
    | .inl (.inr (.inr (some _))) :: r => s_to pc off L r A
    | _ => none
  | .tableswitch dflt lo hi offs => match st with
    | v :: r => match s_rng E v lo hi with
      | .inl true => s_to pc dflt L r A
      | .inl false => s_wI E v (fun x => if x.toInt < lo ∨ hi < x.toInt then s_to pc dflt L r A else match offs[(x.toInt - lo).toNat]? with
        | some off => s_to pc off L r A
        | none => none)
      | .inr z => some (.inr z)
    | _ => none
  | .getfield idx => match q_f mid idx, st with
    | some (ci, k), .inl (.inr (.inr (some a))) :: r => match s_cell A.2.2.2 a with
      | some c => if 8 ≤ a ∧ a < A.1 ∧ c.1 = (ci, q_nf ci) then s_nx (pc + 3) L (s_get c k :: r) A else none
      | none => none
    | _, _ => none
  | .putfield idx => match q_f mid idx, st with
    | some (ci, k), v :: .inl (.inr (.inr (some a))) :: r => match s_cell A.2.2.2 a with
      | some c => if 8 ≤ a ∧ a < A.1 ∧ c.1 = (ci, q_nf ci) ∧ q_pf mid idx = true ∧ s_fit (q_ty ci k) v = true then s_nx (pc + 3) L r (s_wr A a k v) else none
      | none => none
    | _, _ => none
  | .iaload => match st with
    | j :: .inl (.inr (.inr (some a))) :: r => s_wI E j (fun x => if a = 0 then none
      else match s_cell A.2.2.2 a with
        | some c => if 8 ≤ a ∧ a < A.1 ∧ c.1.1 = 100 ∧ ¬ x < 0 ∧ x.toNatClampNeg < c.1.2 then s_nx (pc + 1) L (s_intV (s_get c x.toNatClampNeg) :: r) A else none
        | none => none)
    | _ => none
  | .iastore => match st with
    | v :: j :: .inl (.inr (.inr (some a))) :: r => s_wI E j (fun x => match s_cell A.2.2.2 a with
        | some c => if 8 ≤ a ∧ a < A.1 ∧ c.1.1 = 100 ∧ ¬ x < 0 ∧ x.toNatClampNeg < c.1.2 ∧ s_isI v = true then s_nx (pc + 1) L r (s_wr A a x.toNatClampNeg v) else none
        | none => none)
    | _ => none
  | .laload => match st with
    | j :: .inl (.inr (.inr (some a))) :: r => s_wI E j (fun x => match s_cell A.2.2.2 a with
        | some c => if 8 ≤ a ∧ a < A.1 ∧ c.1.1 = 101 ∧ ¬ x < 0 ∧ x.toNatClampNeg < c.1.2 then s_nx (pc + 1) L (s_lngV (s_get c x.toNatClampNeg) :: r) A else none
        | none => none)
    | _ => none
  | .lastore => match st with
    | v :: j :: .inl (.inr (.inr (some a))) :: r => s_wI E j (fun x => match s_cell A.2.2.2 a with
        | some c => if 8 ≤ a ∧ a < A.1 ∧ c.1.1 = 101 ∧ ¬ x < 0 ∧ x.toNatClampNeg < c.1.2 ∧ s_isL v = true then s_nx (pc + 1) L r (s_wr A a x.toNatClampNeg v) else none
        | none => none)
    | _ => none
  | .aaload => match st with
    | j :: .inl (.inr (.inr (some a))) :: r => s_wI E j (fun x => match s_cell A.2.2.2 a with
        | some c => if 8 ≤ a ∧ a < A.1 ∧ 102 ≤ c.1.1 ∧ q_ra (c.1.1 - 102) = true ∧ ¬ x < 0 ∧ x.toNatClampNeg < c.1.2 then s_nx (pc + 1) L (s_refV (s_get c x.toNatClampNeg) :: r) A else none
        | none => none)
    | _ => none
  | .aastore => match st with
    | .inl (.inr (.inr (some b))) :: j :: .inl (.inr (.inr (some a))) :: r => s_wI E j (fun x => match s_cell A.2.2.2 a with
        | some c => if 8 ≤ a ∧ a < A.1 ∧ 102 ≤ c.1.1 ∧ q_ra (c.1.1 - 102) = true ∧ ¬ x < 0 ∧ x.toNatClampNeg < c.1.2 ∧ 8 ≤ b ∧ b < A.1 ∧ (s_shp A.2.2.2 b).1 + 102 = c.1.1 ∧ (s_shp A.2.2.2 b).1 < 100 then s_nx (pc + 1) L r (s_wr A a x.toNatClampNeg (.inl (.inr (.inr (some b))))) else none
        | none => none)
    | _ => none
  | .arraylength => match st with
    | .inl (.inr (.inr (some a))) :: r => if a = 0 then none else match s_cell A.2.2.2 a with
        | some c => if 8 ≤ a ∧ a < A.1 ∧ 100 ≤ c.1.1 ∧ (c.1.1 ≤ 101 ∨ q_ra (c.1.1 - 102) = true) then s_nx (pc + 1) L (.inl (.inl (Int32.ofNat c.1.2)) :: r) A else none
        | none => none
    | _ => none
  | .new idx => match q_c mid idx with
    | some ci => if A.2.1 + 8 = A.1 ∧ ci < 100 then s_nx (pc + 3) L (.inl (.inr (.inr (some A.1))) :: st) (s_mk A (ci, q_nf ci)) else none
    | none => none
  | .newarray t => match st with
    | .inl (.inl n) :: r => if A.2.1 + 8 = A.1 ∧ ¬ n < 0 ∧ n.toNatClampNeg ≤ 60000 then (match t with
      | .int => s_nx (pc + 2) L (.inl (.inr (.inr (some A.1))) :: r) (s_mk A (100, n.toNatClampNeg))
      | .long => s_nx (pc + 2) L (.inl (.inr (.inr (some A.1))) :: r) (s_mk A (101, n.toNatClampNeg))
      | _ => none) else none
    | _ => none
  | .anewarray idx => match st with
    | .inl (.inl n) :: r => if A.2.1 + 8 = A.1 ∧ ¬ n < 0 ∧ n.toNatClampNeg ≤ 60000 then (match q_ca mid idx with
      | some ci => s_nx (pc + 3) L (.inl (.inr (.inr (some A.1))) :: r) (s_mk A (102 + ci, n.toNatClampNeg))
      | none => none) else none
    | _ => none
  | .ldc idx => match q_k mid idx with
    | some (.inl x) => s_nx (pc + 2) L (.inl (.inl x) :: st) A
    | _ => none
  | .ldc_w idx => match q_k mid idx with
    | some (.inl x) => s_nx (pc + 3) L (.inl (.inl x) :: st) A
    | _ => none
  | .ldc2_w idx => match q_k mid idx with
    | some (.inr (.inl x)) => s_nx (pc + 3) L (.inl (.inr (.inl x)) :: st) A
    | _ => none
  | .invokespecial idx => match q_m mid idx, st with
    | some (_, 5), .inl (.inr (.inr (some _))) :: r => if s_cats r ≤ 8 ∧ d ≠ 0 then s_nx (pc + 3) L r A else none
    | _, _ => none
  | .invokestatic idx => match q_m mid idx, st with
    | some (_, 10), .inl (.inl y) :: .inl (.inl x) :: r => if s_cats r ≤ 8 ∧ d ≠ 0 then s_nx (pc + 3) L (.inl (.inl (if x < y then y else x)) :: r) A else none
    | some (_, 11), .inl (.inl y) :: .inl (.inl x) :: r => if s_cats r ≤ 8 ∧ d ≠ 0 then s_nx (pc + 3) L (.inl (.inl (if y < x then y else x)) :: r) A else none
    | some (_, 12), .inl (.inl x) :: r => if s_cats r ≤ 8 ∧ d ≠ 0 then s_nx (pc + 3) L (.inl (.inl (if 0 ≤ x then x else 0 - x)) :: r) A else none
    | some (_, 9), .inl (.inl n) :: .inl (.inl dp) :: .inl (.inr (.inr (some a))) :: .inl (.inl sp) :: .inl (.inr (.inr (some a0))) :: r => match s_cell A.2.2.2 a with
      | some c => if 8 ≤ a ∧ a < A.1 ∧ c.1.1 = 100 ∧ 8 ≤ a0 ∧ a0 < A.1 ∧ (s_shp A.2.2.2 a0).1 = 100 ∧ ¬ sp < 0 ∧ ¬ dp < 0 ∧ ¬ n < 0 ∧ sp.toNatClampNeg + n.toNatClampNeg ≤ (s_shp A.2.2.2 a0).2 ∧ dp.toNatClampNeg + n.toNatClampNeg ≤ c.1.2 ∧ s_cats r ≤ 8 ∧ d ≠ 0 then
          s_nx (pc + 3) L r (s_cp A a0 a sp.toNatClampNeg dp.toNatClampNeg n.toNatClampNeg c) else none
      | none => none
    | _, _ => none
  | _ => none

