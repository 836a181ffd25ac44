/-- where a goto goes, if there is one -/
def e_gt (mid p : Nat) : Nat := match e_in mid p with
  | some (.goto off) => ((p : Int) + off).toNat
  | _ => p
def e_gtb (mid p : Nat) : Bool := match e_in mid p with
  | some (.goto off) => decide (0 ≤ (p : Int) + off)
  | _ => true
/-- two ways come together: at the one's end, or behind a goto -/
def e_jn (mid p q : Nat) : Option Nat :=
  if p = q then some p
  else if e_gtb mid p = true ∧ e_gt mid p = q then some q
  else if e_gtb mid q = true ∧ e_gt mid q = p then some p
  else if e_gtb mid p = true ∧ e_gtb mid q = true ∧ e_gt mid p = e_gt mid q then some (e_gt mid p)
  else none
def e_lub : List Nat → List Nat → Option (List Nat)
  | [t], [u] => if t = u then some [t] else if e_kt t = 0 ∧ e_kt u = 0 then some [0] else none
  | _, _ => none
def e_pc (k : Int) : Nat := (-k - 1).toNat
/-- z = none: what is pushed (its types, where it ends); z = some (pt, pf): a condition that goes to pt or pf -/
def e_chk (mid hv : Nat) (G : List (Nat × Nat)) : e_X → Option (Nat × Nat) → Nat → Nat → Option (List Nat × Nat)
  | .num c, z, pc, _ => match z with
    | some q => if (c = 1 ∧ pc = q.1) ∨ (c = 0 ∧ pc = q.2) then some ([], 0) else none
    | none => match (e_in mid pc).bind (e_cst mid) with
      | some x => if x.1.toInt = c then some ([if c = 0 ∨ c = 1 then 3 else 0], pc + x.2) else none
      | none => none
  | .var i, z, pc, _ => match z with
    | some _ => none
    | none => match (e_in mid pc).bind e_lod, q_find G i with
      | some x, some t => if x.1 = i ∧ e_kt t = x.2.1 then some ([t], pc + x.2.2) else none
      | _, _ => none
  | .add a b, z, pc, h => match z with
    | some _ => none
    | none => match e_chk mid hv G a none pc h with
      | none => none
      | some r => match e_chk mid hv G b none r.2 (h + e_cat r.1) with
        | none => none
        | some q => some (r.1 ++ q.1, q.2)
  | .mulL k a, z, pc, h =>
    if k < 0 then e_chk mid hv G a z pc h
    else if k = 1 then (match z, a, (e_in mid pc).bind (e_csl mid) with
      | none, .num c, some x => if x.1.toInt = c then some ([1], pc + x.2) else none
      | _, _, _ => none)
    else if k = 2 then (match z, a, e_in mid pc with
      | none, .num c, some .aconst_null => if c = -1 then some ([2], pc + 1) else none
      | _, _, _ => none)
    else if k = 3 then (match z, a, e_in mid pc with
      | none, .num c, some (.getstatic idx) => (match q_s mid idx with
        | some s => if c = s then some ([2], pc + 3) else none
        | none => none)
      | _, _, _ => none)
    else match e_chk mid hv G a none pc h with
      | none => none
      | some r => match z with
        | some q => if e_cj mid k.toNat r.1 r.2 q.1 q.2 = true then some ([], 0) else none
        | none => if 5000 ≤ k then (if e_cc mid hv (k.toNat - 5000) r.1 r.2 h = true ∧ e_thr (k.toNat - 5000) = false then (match e_rt (e_vm (k.toNat - 5000)) with
            | some t => some ([t], r.2 + 3)
            | none => none) else none)
          else e_co mid k.toNat r.1 r.2 h
  | .mulR a k, z, pc, h => match z with
    | some _ => none
    | none => match e_chk mid hv G a none pc h with
      | some ([t], p) => (match e_in mid p with
        | some (.getfield idx) => if q_f mid idx = some (k.toNat / 64, k.toNat % 64) ∧ t = 2 then some ([e_fty k.toNat], p + 3) else none
        | _ => none)
      | _ => none
  | .sub c (.add (.mulL pa a) (.mulL pb b)), z, pc, h =>
    if pa < 0 ∧ pb < 0 then
      match e_chk mid hv G c (some (e_pc pa, e_pc pb)) pc h with
      | none => none
      | some _ => match e_chk mid hv G a z (e_pc pa) h with
        | none => none
        | some r => match e_chk mid hv G b z (e_pc pb) h with
          | none => none
          | some q => match z with
            | some _ => some ([], 0)
            | none => match e_jn mid r.2 q.2, e_lub r.1 q.1 with
              | some p, some ts => some (ts, p)
              | _, _ => none
    else none
  | _, _, _, _ => none
/-- local i holds a value of type t now -/
def e_kp (G : List (Nat × Nat)) (i t j : Nat) : Bool := !(Nat.beq j i) && (!(Nat.beq (j + 1) i && (q_find G j == some 1)) && !(Nat.beq j (i + 1) && Nat.beq t 1))
def e_gs (G : List (Nat × Nat)) (i t : Nat) : List (Nat × Nat) := (i, t) :: G.filter (fun q => e_kp G i t q.1)
/-- the locals behind a catch that writes local i -/
def e_gd (G : List (Nat × Nat)) (i : Nat) : List (Nat × Nat) := G.filter (fun q => e_kp G i 0 q.1)
def e_gsub (A B : List (Nat × Nat)) : Bool := A.all (fun q => match q_find B q.1 with
  | some t => decide (t = q.2) || (decide (t = 3) && decide (q.2 = 0))
  | none => false)
def e_one (t : Nat) : Nat := if t = 1 then 1 else 0
/-- a statement: the locals' types behind it, where it ends -/
def e_cs (mid hv : Nat) (G : List (Nat × Nat)) (s : e_X) (pc : Nat) : Option (List (Nat × Nat) × Nat) := match s with
  | .mulL k e =>
    if k = 64 ∨ k = 65 ∨ k = 66 then (match e_chk mid hv G e none pc 0 with
      | none => none
      | some r => match e_in mid r.2 with
        | some .iastore => if k = 64 then (match r.1 with
          | [t, u, v] => if t = 2 ∧ e_kt u = 0 ∧ e_kt v = 0 then some (G, r.2 + 1) else none
          | _ => none) else none
        | some .lastore => if k = 65 then (match r.1 with
          | [t, u, v] => if t = 2 ∧ e_kt u = 0 ∧ v = 1 then some (G, r.2 + 1) else none
          | _ => none) else none
        | some (.invokestatic idx) => if k = 66 then (match r.1, q_m mid idx with
          | [t, u, v, x, y], some (_, 9) => if t = 2 ∧ e_kt u = 0 ∧ v = 2 ∧ e_kt x = 0 ∧ e_kt y = 0 ∧ 0 < hv then some (G, r.2 + 3) else none
          | _, _ => none) else none
        | _ => none)
    else if k = 67 then (match e with
      | .mulR (.add o x) key => (match e_chk mid hv G o none pc 0 with
        | some ([2], p1) => (match e_in mid p1, e_in mid (p1 + 1) with
          | some .dup, some (.getfield idx) => if q_f mid idx = some (key.toNat / 64, key.toNat % 64) ∧ e_fty key.toNat = 0 then (match e_chk mid hv G x none (p1 + 4) 2 with
            | some ([t], p2) => (match e_in mid p2, e_in mid (p2 + 1) with
              | some .iadd, some (.putfield idx2) => if e_kt t = 0 ∧ q_f mid idx2 = some (key.toNat / 64, key.toNat % 64) ∧ q_pf mid idx2 = true then some (G, p2 + 4) else none
              | _, _ => none)
            | _ => none) else none
          | _, _ => none)
        | _ => none)
      | _ => none)
    else if k = 68 then (match e with
      | .add ai x => (match e_chk mid hv G ai none pc 0 with
        | some ([2, u], p1) => (match e_in mid p1, e_in mid (p1 + 1) with
          | some .dup2, some .iaload => if e_kt u = 0 then (match e_chk mid hv G x none (p1 + 2) 3 with
            | some ([t], p2) => (match e_in mid p2, e_in mid (p2 + 1) with
              | some .iadd, some .iastore => if e_kt t = 0 then some (G, p2 + 2) else none
              | _, _ => none)
            | _ => none) else none
          | _, _ => none)
        | _ => none)
      | _ => none)
    else if 100 ≤ k ∧ k < 200 then (match e_chk mid hv G e none pc 0 with
      | some ([t], p) => (match (e_in mid p).bind e_sto with
        | some x => if x.1 = k.toNat - 100 ∧ e_kt t = x.2.1 ∧ x.1 + e_one t < q_nl mid then some (e_gs G x.1 t, p + x.2.2) else none
        | none => none)
      | _ => none)
    else if 200 ≤ k ∧ k < 300 then (match e, e_in mid pc with
      | .num c, some (.iinc i n) => (match q_find G i with
        | some t => if i = k.toNat - 200 ∧ e_kt t = 0 ∧ (Int32.ofInt n).toInt = c ∧ i < q_nl mid then some (e_gs G i 0, pc + 3) else none
        | none => none)
      | _, _ => none)
    else if 5000 ≤ k then (match e_chk mid hv G e none pc 0 with
      | none => none
      | some r => if e_cc mid hv (k.toNat - 5000) r.1 r.2 0 = true ∧ e_thr (k.toNat - 5000) = false then (match e_rt (e_vm (k.toNat - 5000)) with
          | none => some (G, r.2 + 3)
          | some t => (match e_in mid (r.2 + 3) with
            | some .pop => if t = 1 then none else some (G, r.2 + 4)
            | _ => none)) else none)
    else none
  | .mulR e key => (match e_chk mid hv G e none pc 0 with
    | some ([2, t], p) => (match e_in mid p with
      | some (.putfield idx) => if q_f mid idx = some (key.toNat / 64, key.toNat % 64) ∧ q_pf mid idx = true ∧ e_fit [t] [e_fty key.toNat] = true ∧ e_fty key.toNat ≠ 2 then some (G, p + 3) else none
      | _ => none)
    | _ => none)
  | _ => none
