def e_lok (v mid pc : Nat) (l : Int) (G : List (Nat × Nat)) : Bool := (decide ((pc : Int) = l) || (decide ((e_gt mid pc : Int) = l) && e_gtb mid pc)) && (match e_lb v l.toNat with
  | some q => e_gsub q.1 G
  | none => false)
def e_lok2 (v : Nat) (l : Int) (G : List (Nat × Nat)) : Bool := decide (0 ≤ l) && (match e_lb v l.toNat with
  | some q => e_gsub q.1 G
  | none => false)
def e_csw (v : Nat) (G : List (Nat × Nat)) (pc : Nat) (d : Int) : e_X → List Int → Bool
  | .num c, [] => decide ((pc : Int) + d = c) && e_lok2 v c G
  | .add (.num c) t, o :: os => decide ((pc : Int) + o = c) && e_lok2 v c G && e_csw v G pc d t os
  | _, _ => false
/-- which throw: 0 IllegalArgumentException, 1 IllegalStateException -/
def e_ex (c : Int) : String := if c = 0 then "java/lang/IllegalArgumentException" else "java/lang/IllegalStateException"
def e_ct (v mid hv : Nat) : e_X → List (Nat × Nat) → Nat → Bool
  | .mulL k e, G, pc =>
    if k < 0 then e_ct v mid hv e G pc
    else if k = 1 then (match e_chk mid hv G e none pc 0 with
      | some ([t], p) => (match e_in mid p, e_rt mid with
        | some .ireturn, some 0 => decide (e_kt t = 0)
        | some .ireturn, some 3 => decide (t = 3)
        | some .lreturn, some 1 => decide (t = 1)
        | some .areturn, some 2 => decide (t = 2) && (match q_rt mid with
          | some (.object _) => true
          | some (.array _) => true
          | _ => false)
        | _, _ => false)
      | _ => false)
    else if k = 2 then (match e_in mid pc, q_rt mid with
      | some .return_, none => true
      | _, _ => false)
    else if k = 3 then (match e with
      | .num c => decide (c = 0 ∨ c = 1) && decide (q_th mid pc = some (e_ex c)) && e_thr v && decide (10 ≤ hv)
      | _ => false)
    else if k = 4 then (match e with
      | .num l => e_lok v mid pc l G
      | _ => false)
    else false
  | .sub c (.add (.mulL pa a) (.mulL pb b)), G, pc => decide (pa < 0) && decide (pb < 0) && (e_chk mid hv G c (some (e_pc pa, e_pc pb)) pc 0).isSome && e_ct v mid hv a G (e_pc pa) && e_ct v mid hv b G (e_pc pb)
  | .add s t, G, pc => match e_cs mid hv G s pc with
    | some r => e_ct v mid hv t r.1 r.2
    | none => false
  | .mulR (.add x (.add (.num lo) cs)) _, G, pc => match e_chk mid hv G x none pc 0 with
    | some ([t], p) => (match e_in mid p with
      | some (.tableswitch d lo2 hi os) => decide (e_kt t = 0) && decide (lo = lo2) && decide (hi = lo2 + os.size - 1) && e_csw v G p d cs os.toList
      | _ => false)
    | _ => false
  | .neg (.add (.mulR (.add ai as) u) (.add t (.add h0 h1))), G, pc => match e_chk mid hv G ai none pc 0 with
    | some ([2, i], p1) => (match e_chk mid hv G as none p1 2 with
      | some (ts, p2) => decide (e_kt i = 0) && e_cc mid hv u.toNat ts p2 2 && decide (e_rt (e_vm u.toNat) = some 1) && decide (e_in mid (p2 + 3) = some .lastore) && e_ct v mid hv t G (p2 + 4) &&
          (match q_h mid p2 (e_ex 0) with
          | some hh => e_ct v mid hv h0 (e_gd G hh.2) hh.1
          | none => (match h0 with
            | .num _ => true
            | _ => false)) &&
          (match q_h mid p2 (e_ex 1) with
          | some hh => e_ct v mid hv h1 (e_gd G hh.2) hh.1
          | none => (match h1 with
            | .num _ => true
            | _ => false))
      | _ => false)
    | _ => false
  | _, _, _ => false
/-- a method: every label's tree -/
def e_mok (v : Nat) : Bool := ((e_prog.getD (v / 16) []).getD (v % 16) []).all (fun q => decide (e_nl v = q_nl (e_vm v)) && e_ct v (e_vm v) (e_ht v) q.2.2 q.2.1 q.1)
def e_ent : Nat → List Nat → List (Nat × Nat)
  | _, [] => []
  | i, t :: P => (i, t) :: e_ent (if t = 1 then i + 2 else i + 1) P
/-- a method's first label takes what the callers give -/
def e_eok (v : Nat) : Bool := match e_lb v 0 with
  | some q => e_gsub q.1 (e_ent 0 (e_pt v))
  | none => true

