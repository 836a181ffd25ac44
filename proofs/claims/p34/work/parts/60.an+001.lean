/-- a local, or one and a number more -/
def a_vc (E : AE) : e_X → Option (Nat × Int)
  | .mulL k e => if k < 0 then a_vc E e else if k = 10 then (match e with
      | .add (.var i) (.num c) => (match (E.getD i (none, [])).1 with
        | some (.inl q) => if -2147483648 ≤ q.1 + c ∧ q.2.1 + c ≤ 2147483647 then some (i, c) else none
        | _ => none)
      | _ => none) else none
  | .var i => some (i, 0)
  | _ => none
def a_bad (q : Int × Int × Bool) : Bool := decide (q.2.1 < q.1)
/-- local i is z, moved back by c -/
def a_cut (E : AE) (i : Option (Nat × Int)) (z : Int × Int × Bool) : AE := match i with
  | none => E
  | some ic => match (E.getD ic.1 (none, [])).1 with
    | some (.inl q) => E.set ic.1 (some (.inl (if q.1 ≤ z.1 - ic.2 then z.1 - ic.2 else q.1, if q.2.1 ≤ z.2.1 - ic.2 then q.2.1 else z.2.1 - ic.2, q.2.2 || (decide (ic.2 = 0) && z.2.2))), (E.getD ic.1 (none, [])).2)
    | _ => E
def a_cut2 (E : AE) (i j : Option (Nat × Int)) (z : (Int × Int × Bool) × (Int × Int × Bool)) : AE :=
  if a_bad z.1 || a_bad z.2 then a_kill E else a_cut (a_cut E i z.1) j z.2
def a_cmp (E : AE) (e : e_X) (k : Nat) (xs : List AV) : Option AR := match xs with
  | [some (.inl x), some (.inl y)] => if k < 46 ∨ 54 ≤ k then (match e with
    | .add ea eb => some ([a_i 0 1], a_cut2 E (a_vc E ea) (a_vc E eb) (a_mt (if k < 46 then k - 40 else k - 54) x y), a_cut2 E (a_vc E ea) (a_vc E eb) (a_mt (e_ng (if k < 46 then k - 40 else k - 54)) x y))
    | _ => some ([a_i 0 1], E, E)) else none
  | [some (.inl x)] => if 46 ≤ k ∧ k < 52 then some ([a_i 0 1], a_cut2 E (a_vc E e) none (a_mt (k - 46) x (0, 0, false)), a_cut2 E (a_vc E e) none (a_mt (e_ng (k - 46)) x (0, 0, false))) else none
  | _ => none
def a_nul (E : AE) (e : e_X) (isn : Bool) (ids : List Int) : AR :=
  let yes := ids.filter (fun x => decide (x = -1) == isn)
  let no := ids.filter (fun x => !(decide (x = -1) == isn))
  match e with
  | .var i => ([a_i 0 1], E.set i (a_r yes, (E.getD i (none, [])).2), E.set i (a_r no, (E.getD i (none, [])).2))
  | _ => ([a_i 0 1], E, E)
def a_opx (E : AE) (k : Nat) (e : e_X) (xs : List AV) : Option AR :=
  if k = 2 ∨ k = 3 then (match xs with
    | [some (.inl x)] => if x.1 = x.2.1 then some ([a_r [x.1]], E, E) else none
    | _ => none)
  else if k = 63 then (match xs with
    | [some (.inr ids)] => (a_all a_len a_join ids).map (fun v => ([v], E, E))
    | _ => none)
  else if k = 60 ∨ k = 62 then (match xs with
    | [some (.inr ids), some (.inl i)] => (a_all (a_ld k i) a_join ids).map (fun v => ([v], E, E))
    | _ => none)
  else if k = 52 ∨ k = 53 then (match xs with
    | [some (.inr ids)] => some (a_nul E e (k == 52) ids)
    | _ => none)
  else if 40 ≤ k ∧ k < 60 then a_cmp E e k xs
  else (match xs with
    | [some (.inl x), some (.inl y)] => (a_b2 k x y).map (fun v => ([v], E, E))
    | [some (.inl x)] => (a_b1 k x).map (fun v => ([v], E, E))
    | _ => none)
def a_is (c : Int) : e_X → Bool
  | .num v => decide (v = c)
  | .mulL k e => if k < 0 then a_is c e else false
  | _ => false
def a_ite (a b : e_X) (E T F : AE) (ra rb : Option AR) : Option AR :=
  match (if a_dead T then some none else ra.map some), (if a_dead F then some none else rb.map some) with
  | some (some p), some (some q) => (match p.1, q.1 with
    | [x], [y] => some ([a_join x y], (if a_is 0 b then p.2.1 else if a_is 0 a then q.2.1 else E), (if a_is 1 b then p.2.2 else if a_is 1 a then q.2.2 else E))
    | _, _ => none)
  | some (some p), some none => some (p.1, (if a_is 0 a then a_kill E else if a_is 0 b then p.2.1 else E), (if a_is 1 a then a_kill E else if a_is 1 b then p.2.2 else E))
  | some none, some (some q) => some (q.1, (if a_is 0 b then a_kill E else if a_is 0 a then q.2.1 else E), (if a_is 1 b then a_kill E else if a_is 1 a then q.2.2 else E))
  | _, _ => none
def a_ex (call : Nat → List AV → Option AV) : e_X → AE → Option AR
  | .num v, E => some ([a_i v v], E, E)
  | .var i, E => if i < E.length then some ([(E.getD i (none, [])).1], E, E) else none
  | .add a b, E => match a_ex call a E, a_ex call b E with
    | some p, some q => some (p.1 ++ q.1, E, E)
    | _, _ => none
  | .mulL k a, E => if k < 0 then a_ex call a E else match a_ex call a E with
    | none => none
    | some p => if 5000 ≤ k then (call (k.toNat - 5000) p.1).map (fun v => ([v], E, E)) else a_opx E k.toNat a p.1
  | .mulR a k, E => match a_ex call a E with
    | some ([some (.inr ids)], _, _) => (a_all (a_fld k.toNat) a_join ids).map (fun v => ([v], E, E))
    | _ => none
  | .sub c (.add a b), E => match a_ex call c E with
    | none => none
    | some p => if p.1.length = 1 then a_ite a b E p.2.1 p.2.2 (a_ex call a p.2.1) (a_ex call b p.2.2) else none
  | _, _ => none
/-- what a local is bound to with its value -/
def a_tag (E : AE) : e_X → AT
  | .var i => (E.getD i (none, [])).2
  | .mulL k e => if k = 10 then (match e with
      | .add (.var i) (.num c) => (match (E.getD i (none, [])).1 with
        | some (.inl q) => if -2147483648 ≤ q.1 + c ∧ q.2.1 + c ≤ 2147483647 then (E.getD i (none, [])).2.map (fun t => (t.1, t.2.1, if t.2.1 then t.2.2 + c else t.2.2 - c)) else []
        | _ => [])
      | _ => []) else []
  | _ => []
/-- the ways of a choice, each with its value -/
def a_alts (call : Nat → List AV → Option AV) : e_X → AE → Option (List (AV × AT × AE))
  | .mulL k a, E => if k < 0 then a_alts call a E else match a_ex call (.mulL k a) E with
    | some ([x], _, _) => some [(x, a_tag E (.mulL k a), E)]
    | _ => none
  | .sub c (.add a b), E => match a_ex call c E with
    | none => none
    | some p => if p.1.length = 1 then (match (if a_dead p.2.1 then some [] else a_alts call a p.2.1), (if a_dead p.2.2 then some [] else a_alts call b p.2.2) with
      | some x, some y => some (x ++ y)
      | _, _ => none) else none
  | e, E => match a_ex call e E with
    | some ([x], _, _) => some [(x, a_tag E e, E)]
    | _ => none
def a_wr (W : AW) (kd : Nat) (i v : Int × Int × Bool) (id : Int) : Bool := decide (8 ≤ id) && decide (id.toNat < e_N) && decide ((e_sh id.toNat).1 = kd) && decide (0 ≤ i.1) && decide (i.2.1 < ((e_sh id.toNat).2 : Int)) && a_ok W id.toNat i.1 i.2.1 v
