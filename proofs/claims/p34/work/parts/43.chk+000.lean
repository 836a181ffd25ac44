/-! THE CHECK: that the trees are what the instructions do. Types: 0 int, 1 long, 2 object, 3 boolean (an int that is 0 or 1). -/
def e_kt (t : Nat) : Nat := if t = 3 then 0 else t
def e_cat (ts : List Nat) : Nat := (ts.map (fun t => if t = 1 then 2 else 1)).sum
def e_in (mid pc : Nat) : Option Instr := match q_th mid pc with
  | none => q_i mid pc
  | some _ => none
def e_cst (mid : Nat) (i : Instr) : Option (Int32 × Nat) := match i with
  | .iconst n => some (Int32.ofInt n, 1)
  | .bipush n => some ((Int8.ofInt n).toInt32, 2)
  | .sipush n => some ((Int16.ofInt n).toInt32, 3)
  | .ldc idx => match q_k mid idx with
    | some (.inl x) => some (x, 2)
    | _ => none
  | .ldc_w idx => match q_k mid idx with
    | some (.inl x) => some (x, 3)
    | _ => none
  | _ => none
def e_csl (mid : Nat) (i : Instr) : Option (Int64 × Nat) := match i with
  | .lconst n => some (Int64.ofNat (n : Nat), 1)
  | .ldc2_w idx => match q_k mid idx with
    | some (.inr (.inl x)) => some (x, 3)
    | _ => none
  | _ => none
def e_lod (i : Instr) : Option (Nat × Nat × Nat) := match i with
  | .iload i => some (i, 0, 2)
  | .iload_n k => some ((k : Nat), 0, 1)
  | .lload i => some (i, 1, 2)
  | .lload_n k => some ((k : Nat), 1, 1)
  | .aload i => some (i, 2, 2)
  | .aload_n k => some ((k : Nat), 2, 1)
  | _ => none
def e_sto (i : Instr) : Option (Nat × Nat × Nat) := match i with
  | .istore i => some (i, 0, 2)
  | .istore_n k => some ((k : Nat), 0, 1)
  | .lstore i => some (i, 1, 2)
  | .lstore_n k => some ((k : Nat), 1, 1)
  | .astore i => some (i, 2, 2)
  | .astore_n k => some ((k : Nat), 2, 1)
  | _ => none
def e_i2 (i : Instr) : Option (Nat × Nat × Nat) := match i with
  | .iadd => some (10, 0, 0)
  | .isub => some (11, 0, 0)
  | .imul => some (12, 0, 0)
  | .idiv => some (13, 0, 0)
  | .irem => some (14, 0, 0)
  | .iand => some (15, 0, 0)
  | .ior => some (16, 0, 0)
  | .ixor => some (17, 0, 0)
  | .ishl => some (18, 0, 0)
  | .ishr => some (19, 0, 0)
  | .iushr => some (20, 0, 0)
  | .ladd => some (30, 1, 1)
  | .lsub => some (31, 1, 1)
  | .lmul => some (32, 1, 1)
  | .ldiv => some (33, 1, 1)
  | _ => none
def e_i1 (i : Instr) : Option (Nat × Nat × Nat) := match i with
  | .ineg => some (21, 0, 0)
  | .i2l => some (22, 0, 1)
  | .l2i => some (23, 1, 0)
  | .i2b => some (24, 0, 0)
  | .i2s => some (25, 0, 0)
  | _ => none
/-- what the machine does itself for Math: max, min, abs -/
def e_math (mid : Nat) (i : Instr) : Nat := match i with
  | .invokestatic idx => match q_m mid idx with
    | some (_, 10) => 34
    | some (_, 11) => 35
    | some (_, 12) => 36
    | _ => 0
  | _ => 0
def e_co (mid k : Nat) (ts : List Nat) (p h : Nat) : Option (List Nat × Nat) := match e_in mid p with
  | none => none
  | some i => match ts with
    | [t] => match e_i1 i with
      | some c => if c.1 = k ∧ e_kt t = c.2.1 then some ([c.2.2], p + 1) else none
      | none => if i = .arraylength then (if k = 63 ∧ t = 2 then some ([0], p + 1) else none)
        else if e_math mid i = 36 ∧ k = 36 ∧ e_kt t = 0 ∧ h ≤ 8 then some ([0], p + 3) else none
    | [t, u] => match e_i2 i with
      | some c => if c.1 = k ∧ e_kt t = c.2.1 ∧ e_kt u = c.2.1 then some ([c.2.2], p + 1) else none
      | none => if i = .iaload then (if k = 60 ∧ t = 2 ∧ e_kt u = 0 then some ([0], p + 1) else none)
        else if i = .laload then (if k = 61 ∧ t = 2 ∧ e_kt u = 0 then some ([1], p + 1) else none)
        else if i = .aaload then (if k = 62 ∧ t = 2 ∧ e_kt u = 0 then some ([2], p + 1) else none)
        else if (e_math mid i = 34 ∨ e_math mid i = 35) ∧ k = e_math mid i ∧ e_kt t = 0 ∧ e_kt u = 0 ∧ h ≤ 8 then some ([0], p + 3) else none
    | _ => none
def e_fit : List Nat → List Nat → Bool
  | [], [] => true
  | t :: ts, u :: us => (decide (t = u) || (decide (t = 3) && decide (u = 0))) && e_fit ts us
  | _, _ => false
def e_rt (mid : Nat) : Option Nat := match q_rt mid with
  | none => none
  | some .int => some 0
  | some .boolean => some 3
  | some .long => some 1
  | some _ => some 2
/-- a call of u at p, the pushed arguments' types ts, h cells of the stack below them -/
def e_cc (mid hv u : Nat) (ts : List Nat) (p h : Nat) : Bool :=
  decide (e_ht u < hv) && e_fit ts (e_pt u) && decide (e_cat (e_pt u) ≤ q_nl (e_vm u)) && decide (h ≤ 8) && decide (e_nl u = q_nl (e_vm u)) &&
  (match e_in mid p with
  | some (.invokestatic idx) => match q_m mid idx with
    | some (cm, kd) => decide (e_vm u = cm) && (decide (kd = 1) || decide (kd = 3) || decide (kd = 7)) && decide ((e_pt u).length = q_np cm)
    | none => false
  | some (.invokevirtual idx) => match q_m mid idx with
    | some (cm, kd) => decide (e_vm u = cm) && decide (kd = 0) && decide ((e_pt u).length = q_np cm + 1) && decide ((e_pt u).getD 0 0 = 2) && (q_rc cm).isSome
    | none => false
  | _ => false)
def e_cn : Jvm.ClassFile.Cond → Nat
  | .eq => 0
  | .ne => 1
  | .lt => 2
  | .ge => 3
  | .gt => 4
  | .le => 5
def e_ng : Nat → Nat
  | 0 => 1
  | 1 => 0
  | 2 => 3
  | 3 => 2
  | 4 => 5
  | _ => 4
/-- a branch: to tgt where the condition number c of base b holds, else on to nx -/
def e_br (k b c : Nat) (tgt : Int) (nx pt pf : Nat) : Bool :=
  (decide (k = b + c) && decide (tgt = pt) && decide (nx = pf)) || (decide (k = b + e_ng c) && decide (tgt = pf) && decide (nx = pt))
def e_cj (mid k : Nat) (ts : List Nat) (p pt pf : Nat) : Bool := match e_in mid p with
  | some (.if_icmp c off) => (match ts with
    | [t, u] => decide (e_kt t = 0) && decide (e_kt u = 0) && e_br k 40 (e_cn c) (p + off) (p + 3) pt pf
    | _ => false)
  | some (.ifCond c off) => (match ts with
    | [t] => decide (e_kt t = 0) && e_br k 46 (e_cn c) (p + off) (p + 3) pt pf
    | _ => false)
  | some .lcmp => (match ts, e_in mid (p + 1) with
    | [t, u], some (.ifCond c off) => decide (t = 1) && decide (u = 1) && e_br k 54 (e_cn c) (p + 1 + off) (p + 4) pt pf
    | _, _ => false)
  | some (.ifnull off) => (match ts with
    | [t] => decide (t = 2) && ((decide (k = 52) && decide ((p : Int) + off = pt) && decide (p + 3 = pf)) || (decide (k = 53) && decide ((p : Int) + off = pf) && decide (p + 3 = pt)))
    | _ => false)
  | some (.ifnonnull off) => (match ts with
    | [t] => decide (t = 2) && ((decide (k = 53) && decide ((p : Int) + off = pt) && decide (p + 3 = pf)) || (decide (k = 52) && decide ((p : Int) + off = pf) && decide (p + 3 = pt)))
    | _ => false)
  | _ => false
