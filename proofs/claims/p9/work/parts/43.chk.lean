/-! THE CHECK: that the trees are what the instructions do. Types: 0 int, 1 long, 2 object, 3 boolean (an int that is 0 or 1). -/
def e_kt (t : Nat) : Nat := if t = 3 then 0 else t
def e_cat (ts : List Nat) : Nat := (ts.map (fun t => if t = 1 then 2 else 1)).sum
def e_in (mid pc : Nat) : Option Instr := match q_th mid pc with
  | none => q_i mid pc
  | some _ => none
def e_cst (mid : Nat) (i : Instr) : Option (Int32 × Nat) := match i with
  | .iconst n => some (Int32.ofInt n, 1)
  | .bipush n => some ((Int8.ofInt n).toInt32, 2)
  | .sipush n => some ((Int16.ofInt n).toInt32, 3)
  | .ldc idx => match q_k mid idx with
    | some (.inl x) => some (x, 2)
    | _ => none
  | .ldc_w idx => match q_k mid idx with
    | some (.inl x) => some (x, 3)
    | _ => none
  | _ => none
def e_csl (mid : Nat) (i : Instr) : Option (Int64 × Nat) := match i with
  | .lconst n => some (Int64.ofNat (n : Nat), 1)
  | .ldc2_w idx => match q_k mid idx with
    | some (.inr (.inl x)) => some (x, 3)
    | _ => none
  | _ => none
def e_lod (i : Instr) : Option (Nat × Nat × Nat) := match i with
  | .iload i => some (i, 0, 2)
  | .iload_n k => some ((k : Nat), 0, 1)
  | .lload i => some (i, 1, 2)
  | .lload_n k => some ((k : Nat), 1, 1)
  | .aload i => some (i, 2, 2)
  | .aload_n k => some ((k : Nat), 2, 1)
  | _ => none
def e_sto (i : Instr) : Option (Nat × Nat × Nat) := match i with
  | .istore i => some (i, 0, 2)
  | .istore_n k => some ((k : Nat), 0, 1)
  | .lstore i => some (i, 1, 2)
  | .lstore_n k => some ((k : Nat), 1, 1)
  | .astore i => some (i, 2, 2)
  | .astore_n k => some ((k : Nat), 2, 1)
  | _ => none
def e_i2 (i : Instr) : Option (Nat × Nat × Nat) := match i with
  | .iadd => some (10, 0, 0)
  | .isub => some (11, 0, 0)
  | .imul => some (12, 0, 0)
  | .idiv => some (13, 0, 0)
  | .irem => some (14, 0, 0)
  | .iand => some (15, 0, 0)
  | .ior => some (16, 0, 0)
  | .ixor => some (17, 0, 0)
  | .ishl => some (18, 0, 0)
  | .ishr => some (19, 0, 0)
  | .iushr => some (20, 0, 0)
  | .ladd => some (30, 1, 1)
  | .lsub => some (31, 1, 1)
  | .lmul => some (32, 1, 1)
  | .ldiv => some (33, 1, 1)
  | _ => none
def e_i1 (i : Instr) : Option (Nat × Nat × Nat) := match i with
  | .ineg => some (21, 0, 0)
  | .i2l => some (22, 0, 1)
  | .l2i => some (23, 1, 0)
  | .i2b => some (24, 0, 0)
  | .i2s => some (25, 0, 0)
  | _ => none
/-- what the machine does itself for Math: max, min, abs -/
def e_math (mid : Nat) (i : Instr) : Nat := match i with
  | .invokestatic idx => match q_m mid idx with
    | some (_, 10) => 34
    | some (_, 11) => 35
    | some (_, 12) => 36
    | _ => 0
  | _ => 0
def e_co (mid k : Nat) (ts : List Nat) (p h : Nat) : Option (List Nat × Nat) := match e_in mid p with
  | none => none
  | some i => match ts with
    | [t] => match e_i1 i with
      | some c => if c.1 = k ∧ e_kt t = c.2.1 then some ([c.2.2], p + 1) else none
      | none => if i = .arraylength then (if k = 63 ∧ t = 2 then some ([0], p + 1) else none)
        else if e_math mid i = 36 ∧ k = 36 ∧ e_kt t = 0 ∧ h ≤ 8 then some ([0], p + 3) else none
    | [t, u] => match e_i2 i with
      | some c => if c.1 = k ∧ e_kt t = c.2.1 ∧ e_kt u = c.2.1 then some ([c.2.2], p + 1) else none
      | none => if i = .iaload then (if k = 60 ∧ t = 2 ∧ e_kt u = 0 then some ([0], p + 1) else none)
        else if i = .laload then (if k = 61 ∧ t = 2 ∧ e_kt u = 0 then some ([1], p + 1) else none)
        else if i = .aaload then (if k = 62 ∧ t = 2 ∧ e_kt u = 0 then some ([2], p + 1) else none)
        else if (e_math mid i = 34 ∨ e_math mid i = 35) ∧ k = e_math mid i ∧ e_kt t = 0 ∧ e_kt u = 0 ∧ h ≤ 8 then some ([0], p + 3) else none
    | _ => none
def e_fit : List Nat → List Nat → Bool
  | [], [] => true
  | t :: ts, u :: us => (decide (t = u) || (decide (t = 3) && decide (u = 0))) && e_fit ts us
  | _, _ => false
def e_rt (mid : Nat) : Option Nat := match q_rt mid with
  | none => none
  | some .int => some 0
  | some .boolean => some 3
  | some .long => some 1
  | some _ => some 2
/-- a call of u at p, the pushed arguments' types ts, h cells of the stack below them -/
def e_cc (mid hv u : Nat) (ts : List Nat) (p h : Nat) : Bool :=
  decide (e_ht u < hv) && e_fit ts (e_pt u) && decide (e_cat (e_pt u) ≤ q_nl (e_vm u)) && decide (h ≤ 8) && decide (e_nl u = q_nl (e_vm u)) &&
  (match e_in mid p with
  | some (.invokestatic idx) => match q_m mid idx with
    | some (cm, kd) => decide (e_vm u = cm) && (decide (kd = 1) || decide (kd = 3) || decide (kd = 7)) && decide ((e_pt u).length = q_np cm)
    | none => false
  | some (.invokevirtual idx) => match q_m mid idx with
    | some (cm, kd) => decide (e_vm u = cm) && decide (kd = 0) && decide ((e_pt u).length = q_np cm + 1) && decide ((e_pt u).getD 0 0 = 2) && (q_rc cm).isSome
    | none => false
  | _ => false)
def e_cn : Jvm.ClassFile.Cond → Nat
  | .eq => 0
  | .ne => 1
  | .lt => 2
  | .ge => 3
  | .gt => 4
  | .le => 5
def e_ng : Nat → Nat
  | 0 => 1
  | 1 => 0
  | 2 => 3
  | 3 => 2
  | 4 => 5
  | _ => 4
/-- a branch: to tgt where the condition number c of base b holds, else on to nx -/
def e_br (k b c : Nat) (tgt : Int) (nx pt pf : Nat) : Bool :=
  (decide (k = b + c) && decide (tgt = pt) && decide (nx = pf)) || (decide (k = b + e_ng c) && decide (tgt = pf) && decide (nx = pt))
def e_cj (mid k : Nat) (ts : List Nat) (p pt pf : Nat) : Bool := match e_in mid p with
  | some (.if_icmp c off) => (match ts with
    | [t, u] => decide (e_kt t = 0) && decide (e_kt u = 0) && e_br k 40 (e_cn c) (p + off) (p + 3) pt pf
    | _ => false)
  | some (.ifCond c off) => (match ts with
    | [t] => decide (e_kt t = 0) && e_br k 46 (e_cn c) (p + off) (p + 3) pt pf
    | _ => false)
  | some .lcmp => (match ts, e_in mid (p + 1) with
    | [t, u], some (.ifCond c off) => decide (t = 1) && decide (u = 1) && e_br k 54 (e_cn c) (p + 1 + off) (p + 4) pt pf
    | _, _ => false)
  | some (.ifnull off) => (match ts with
    | [t] => decide (t = 2) && ((decide (k = 52) && decide ((p : Int) + off = pt) && decide (p + 3 = pf)) || (decide (k = 53) && decide ((p : Int) + off = pf) && decide (p + 3 = pt)))
    | _ => false)
  | some (.ifnonnull off) => (match ts with
    | [t] => decide (t = 2) && ((decide (k = 53) && decide ((p : Int) + off = pt) && decide (p + 3 = pf)) || (decide (k = 52) && decide ((p : Int) + off = pf) && decide (p + 3 = pt)))
    | _ => false)
  | _ => false
/-- where a goto goes, if there is one -/
def e_gt (mid p : Nat) : Nat := match e_in mid p with
  | some (.goto off) => ((p : Int) + off).toNat
  | _ => p
def e_gtb (mid p : Nat) : Bool := match e_in mid p with
  | some (.goto off) => decide (0 ≤ (p : Int) + off)
  | _ => true
/-- two ways come together: at the one's end, or behind a goto -/
def e_jn (mid p q : Nat) : Option Nat :=
  if p = q then some p
  else if e_gtb mid p = true ∧ e_gt mid p = q then some q
  else if e_gtb mid q = true ∧ e_gt mid q = p then some p
  else if e_gtb mid p = true ∧ e_gtb mid q = true ∧ e_gt mid p = e_gt mid q then some (e_gt mid p)
  else none
def e_lub : List Nat → List Nat → Option (List Nat)
  | [t], [u] => if t = u then some [t] else if e_kt t = 0 ∧ e_kt u = 0 then some [0] else none
  | _, _ => none
def e_pc (k : Int) : Nat := (-k - 1).toNat
/-- z = none: what is pushed (its types, where it ends); z = some (pt, pf): a condition that goes to pt or pf -/
def e_chk (mid hv : Nat) (G : List (Nat × Nat)) : e_X → Option (Nat × Nat) → Nat → Nat → Option (List Nat × Nat)
  | .num c, z, pc, _ => match z with
    | some q => if (c = 1 ∧ pc = q.1) ∨ (c = 0 ∧ pc = q.2) then some ([], 0) else none
    | none => match (e_in mid pc).bind (e_cst mid) with
      | some x => if x.1.toInt = c then some ([if c = 0 ∨ c = 1 then 3 else 0], pc + x.2) else none
      | none => none
  | .var i, z, pc, _ => match z with
    | some _ => none
    | none => match (e_in mid pc).bind e_lod, q_find G i with
      | some x, some t => if x.1 = i ∧ e_kt t = x.2.1 then some ([t], pc + x.2.2) else none
      | _, _ => none
  | .add a b, z, pc, h => match z with
    | some _ => none
    | none => match e_chk mid hv G a none pc h with
      | none => none
      | some r => match e_chk mid hv G b none r.2 (h + e_cat r.1) with
        | none => none
        | some q => some (r.1 ++ q.1, q.2)
  | .mulL k a, z, pc, h =>
    if k < 0 then e_chk mid hv G a z pc h
    else if k = 1 then (match z, a, (e_in mid pc).bind (e_csl mid) with
      | none, .num c, some x => if x.1.toInt = c then some ([1], pc + x.2) else none
      | _, _, _ => none)
    else if k = 2 then (match z, a, e_in mid pc with
      | none, .num c, some .aconst_null => if c = -1 then some ([2], pc + 1) else none
      | _, _, _ => none)
    else if k = 3 then (match z, a, e_in mid pc with
      | none, .num c, some (.getstatic idx) => (match q_s mid idx with
        | some s => if c = s then some ([2], pc + 3) else none
        | none => none)
      | _, _, _ => none)
    else match e_chk mid hv G a none pc h with
      | none => none
      | some r => match z with
        | some q => if e_cj mid k.toNat r.1 r.2 q.1 q.2 = true then some ([], 0) else none
        | none => if 5000 ≤ k then (if e_cc mid hv (k.toNat - 5000) r.1 r.2 h = true ∧ e_thr (k.toNat - 5000) = false then (match e_rt (e_vm (k.toNat - 5000)) with
            | some t => some ([t], r.2 + 3)
            | none => none) else none)
          else e_co mid k.toNat r.1 r.2 h
  | .mulR a k, z, pc, h => match z with
    | some _ => none
    | none => match e_chk mid hv G a none pc h with
      | some ([t], p) => (match e_in mid p with
        | some (.getfield idx) => if q_f mid idx = some (k.toNat / 64, k.toNat % 64) ∧ t = 2 then some ([e_fty k.toNat], p + 3) else none
        | _ => none)
      | _ => none
  | .sub c (.add (.mulL pa a) (.mulL pb b)), z, pc, h =>
    if pa < 0 ∧ pb < 0 then
      match e_chk mid hv G c (some (e_pc pa, e_pc pb)) pc h with
      | none => none
      | some _ => match e_chk mid hv G a z (e_pc pa) h with
        | none => none
        | some r => match e_chk mid hv G b z (e_pc pb) h with
          | none => none
          | some q => match z with
            | some _ => some ([], 0)
            | none => match e_jn mid r.2 q.2, e_lub r.1 q.1 with
              | some p, some ts => some (ts, p)
              | _, _ => none
    else none
  | _, _, _, _ => none
/-- local i holds a value of type t now -/
def e_kp (G : List (Nat × Nat)) (i t j : Nat) : Bool := !(Nat.beq j i) && (!(Nat.beq (j + 1) i && (q_find G j == some 1)) && !(Nat.beq j (i + 1) && Nat.beq t 1))
def e_gs (G : List (Nat × Nat)) (i t : Nat) : List (Nat × Nat) := (i, t) :: G.filter (fun q => e_kp G i t q.1)
/-- the locals behind a catch that writes local i -/
def e_gd (G : List (Nat × Nat)) (i : Nat) : List (Nat × Nat) := G.filter (fun q => e_kp G i 0 q.1)
def e_gsub (A B : List (Nat × Nat)) : Bool := A.all (fun q => match q_find B q.1 with
  | some t => decide (t = q.2) || (decide (t = 3) && decide (q.2 = 0))
  | none => false)
def e_one (t : Nat) : Nat := if t = 1 then 1 else 0
/-- a statement: the locals' types behind it, where it ends -/
def e_cs (mid hv : Nat) (G : List (Nat × Nat)) (s : e_X) (pc : Nat) : Option (List (Nat × Nat) × Nat) := match s with
  | .mulL k e =>
    if k = 64 ∨ k = 65 ∨ k = 66 then (match e_chk mid hv G e none pc 0 with
      | none => none
      | some r => match e_in mid r.2 with
        | some .iastore => if k = 64 then (match r.1 with
          | [t, u, v] => if t = 2 ∧ e_kt u = 0 ∧ e_kt v = 0 then some (G, r.2 + 1) else none
          | _ => none) else none
        | some .lastore => if k = 65 then (match r.1 with
          | [t, u, v] => if t = 2 ∧ e_kt u = 0 ∧ v = 1 then some (G, r.2 + 1) else none
          | _ => none) else none
        | some (.invokestatic idx) => if k = 66 then (match r.1, q_m mid idx with
          | [t, u, v, x, y], some (_, 9) => if t = 2 ∧ e_kt u = 0 ∧ v = 2 ∧ e_kt x = 0 ∧ e_kt y = 0 ∧ 0 < hv then some (G, r.2 + 3) else none
          | _, _ => none) else none
        | _ => none)
    else if k = 67 then (match e with
      | .mulR (.add o x) key => (match e_chk mid hv G o none pc 0 with
        | some ([2], p1) => (match e_in mid p1, e_in mid (p1 + 1) with
          | some .dup, some (.getfield idx) => if q_f mid idx = some (key.toNat / 64, key.toNat % 64) ∧ e_fty key.toNat = 0 then (match e_chk mid hv G x none (p1 + 4) 2 with
            | some ([t], p2) => (match e_in mid p2, e_in mid (p2 + 1) with
              | some .iadd, some (.putfield idx2) => if e_kt t = 0 ∧ q_f mid idx2 = some (key.toNat / 64, key.toNat % 64) ∧ q_pf mid idx2 = true then some (G, p2 + 4) else none
              | _, _ => none)
            | _ => none) else none
          | _, _ => none)
        | _ => none)
      | _ => none)
    else if k = 68 then (match e with
      | .add ai x => (match e_chk mid hv G ai none pc 0 with
        | some ([2, u], p1) => (match e_in mid p1, e_in mid (p1 + 1) with
          | some .dup2, some .iaload => if e_kt u = 0 then (match e_chk mid hv G x none (p1 + 2) 3 with
            | some ([t], p2) => (match e_in mid p2, e_in mid (p2 + 1) with
              | some .iadd, some .iastore => if e_kt t = 0 then some (G, p2 + 2) else none
              | _, _ => none)
            | _ => none) else none
          | _, _ => none)
        | _ => none)
      | _ => none)
    else if 100 ≤ k ∧ k < 200 then (match e_chk mid hv G e none pc 0 with
      | some ([t], p) => (match (e_in mid p).bind e_sto with
        | some x => if x.1 = k.toNat - 100 ∧ e_kt t = x.2.1 ∧ x.1 + e_one t < q_nl mid then some (e_gs G x.1 t, p + x.2.2) else none
        | none => none)
      | _ => none)
    else if 200 ≤ k ∧ k < 300 then (match e, e_in mid pc with
      | .num c, some (.iinc i n) => (match q_find G i with
        | some t => if i = k.toNat - 200 ∧ e_kt t = 0 ∧ (Int32.ofInt n).toInt = c ∧ i < q_nl mid then some (e_gs G i 0, pc + 3) else none
        | none => none)
      | _, _ => none)
    else if 5000 ≤ k then (match e_chk mid hv G e none pc 0 with
      | none => none
      | some r => if e_cc mid hv (k.toNat - 5000) r.1 r.2 0 = true ∧ e_thr (k.toNat - 5000) = false then (match e_rt (e_vm (k.toNat - 5000)) with
          | none => some (G, r.2 + 3)
          | some t => (match e_in mid (r.2 + 3) with
            | some .pop => if t = 1 then none else some (G, r.2 + 4)
            | _ => none)) else none)
    else none
  | .mulR e key => (match e_chk mid hv G e none pc 0 with
    | some ([2, t], p) => (match e_in mid p with
      | some (.putfield idx) => if q_f mid idx = some (key.toNat / 64, key.toNat % 64) ∧ q_pf mid idx = true ∧ e_fit [t] [e_fty key.toNat] = true ∧ e_fty key.toNat ≠ 2 then some (G, p + 3) else none
      | _ => none)
    | _ => none)
  | _ => none
def e_lok (v mid pc : Nat) (l : Int) (G : List (Nat × Nat)) : Bool := (decide ((pc : Int) = l) || (decide ((e_gt mid pc : Int) = l) && e_gtb mid pc)) && (match e_lb v l.toNat with
  | some q => e_gsub q.1 G
  | none => false)
def e_lok2 (v : Nat) (l : Int) (G : List (Nat × Nat)) : Bool := decide (0 ≤ l) && (match e_lb v l.toNat with
  | some q => e_gsub q.1 G
  | none => false)
def e_csw (v : Nat) (G : List (Nat × Nat)) (pc : Nat) (d : Int) : e_X → List Int → Bool
  | .num c, [] => decide ((pc : Int) + d = c) && e_lok2 v c G
  | .add (.num c) t, o :: os => decide ((pc : Int) + o = c) && e_lok2 v c G && e_csw v G pc d t os
  | _, _ => false
/-- which throw: 0 IllegalArgumentException, 1 IllegalStateException -/
def e_ex (c : Int) : String := if c = 0 then "java/lang/IllegalArgumentException" else "java/lang/IllegalStateException"
def e_ct (v mid hv : Nat) : e_X → List (Nat × Nat) → Nat → Bool
  | .mulL k e, G, pc =>
    if k < 0 then e_ct v mid hv e G pc
    else if k = 1 then (match e_chk mid hv G e none pc 0 with
      | some ([t], p) => (match e_in mid p, e_rt mid with
        | some .ireturn, some 0 => decide (e_kt t = 0)
        | some .ireturn, some 3 => decide (t = 3)
        | some .lreturn, some 1 => decide (t = 1)
        | some .areturn, some 2 => decide (t = 2) && (match q_rt mid with
          | some (.object _) => true
          | some (.array _) => true
          | _ => false)
        | _, _ => false)
      | _ => false)
    else if k = 2 then (match e_in mid pc, q_rt mid with
      | some .return_, none => true
      | _, _ => false)
    else if k = 3 then (match e with
      | .num c => decide (c = 0 ∨ c = 1) && decide (q_th mid pc = some (e_ex c)) && e_thr v && decide (10 ≤ hv)
      | _ => false)
    else if k = 4 then (match e with
      | .num l => e_lok v mid pc l G
      | _ => false)
    else false
  | .sub c (.add (.mulL pa a) (.mulL pb b)), G, pc => decide (pa < 0) && decide (pb < 0) && (e_chk mid hv G c (some (e_pc pa, e_pc pb)) pc 0).isSome && e_ct v mid hv a G (e_pc pa) && e_ct v mid hv b G (e_pc pb)
  | .add s t, G, pc => match e_cs mid hv G s pc with
    | some r => e_ct v mid hv t r.1 r.2
    | none => false
  | .mulR (.add x (.add (.num lo) cs)) _, G, pc => match e_chk mid hv G x none pc 0 with
    | some ([t], p) => (match e_in mid p with
      | some (.tableswitch d lo2 hi os) => decide (e_kt t = 0) && decide (lo = lo2) && decide (hi = lo2 + os.size - 1) && e_csw v G p d cs os.toList
      | _ => false)
    | _ => false
  | .neg (.add (.mulR (.add ai as) u) (.add t (.add h0 h1))), G, pc => match e_chk mid hv G ai none pc 0 with
    | some ([2, i], p1) => (match e_chk mid hv G as none p1 2 with
      | some (ts, p2) => decide (e_kt i = 0) && e_cc mid hv u.toNat ts p2 2 && decide (e_rt (e_vm u.toNat) = some 1) && decide (e_in mid (p2 + 3) = some .lastore) && e_ct v mid hv t G (p2 + 4) &&
          (match q_h mid p2 (e_ex 0) with
          | some hh => e_ct v mid hv h0 (e_gd G hh.2) hh.1
          | none => (match h0 with
            | .num _ => true
            | _ => false)) &&
          (match q_h mid p2 (e_ex 1) with
          | some hh => e_ct v mid hv h1 (e_gd G hh.2) hh.1
          | none => (match h1 with
            | .num _ => true
            | _ => false))
      | _ => false)
    | _ => false
  | _, _, _ => false
/-- a method: every label's tree -/
def e_mok (v : Nat) : Bool := ((e_prog.getD (v / 16) []).getD (v % 16) []).all (fun q => decide (e_nl v = q_nl (e_vm v)) && e_ct v (e_vm v) (e_ht v) q.2.2 q.2.1 q.1)
def e_ent : Nat → List Nat → List (Nat × Nat)
  | _, [] => []
  | i, t :: P => (i, t) :: e_ent (if t = 1 then i + 2 else i + 1) P
/-- a method's first label takes what the callers give -/
def e_eok (v : Nat) : Bool := match e_lb v 0 with
  | some q => e_gsub q.1 (e_ent 0 (e_pt v))
  | none => true
