/-! AN ANALYSIS OF THE TREES: that they come to an end, what they answer at most, what they write at most. A number lies between two, perhaps not 0; an object is one of some; none: anything. -/
abbrev AE : Type := List (AV × AT)
abbrev AR : Type := List AV × AE × AE
abbrev AW : Type := List (Nat × Nat × Nat)
def a_g : AV → Int → Prop
  | none, _ => True
  | some (.inl q), x => q.1 ≤ x ∧ x ≤ q.2.1 ∧ (q.2.2 = true → x ≠ 0)
  | some (.inr ids), x => x ∈ ids
def a_gs : List AV → List Int → Prop
  | [], [] => True
  | v :: vs, x :: xs => a_g v x ∧ a_gs vs xs
  | _, _ => False
def a_to (g : Nat → Int) (x : Int) (t : Nat × Bool × Int) : Prop := if t.2.1 = true then t.2.2 ≤ x - g t.1 else t.2.2 ≤ g t.1 - x
def a_E (g : Nat → Int) (E : AE) (L : List Int) : Prop := L.length = E.length ∧ ∀ i, i < E.length → a_g (E.getD i (none, [])).1 (L.getD i 0) ∧ ∀ t ∈ (E.getD i (none, [])).2, a_to g (L.getD i 0) t
def a_lo (id : Nat) : Int := if id = e_OUT then -9223372036854775808 else -2147483648
def a_hi (id : Nat) : Int := if id = e_OUT then 9223372036854775807 else 2147483647
/-- what cells hold always -/
def a_M (M : EM) : Prop := ∀ id k, id ≠ 5 → a_lo id ≤ M id k ∧ M id k ≤ a_hi id ∧ ∀ s ∈ a_mi id, s.1 ≤ k → k ≤ s.2.1 → s.2.2.1 ≤ M id k ∧ M id k ≤ s.2.2.2
def a_fr (W : AW) (M M' : EM) : Prop := ∀ id k, (∀ w ∈ W, ¬ (w.1 = id ∧ w.2.1 ≤ k ∧ k ≤ w.2.2)) → M' id k = M id k
def a_dead1 : AV → Bool
  | some (.inl q) => decide (q.2.1 < q.1)
  | some (.inr []) => true
  | _ => false
def a_dead (E : AE) : Bool := E.any (fun q => a_dead1 q.1)
def a_kill (E : AE) : AE := match E with
  | [] => []
  | q :: t => (a_r [], q.2) :: t
def a_leq : AV → AV → Bool
  | _, none => true
  | some (.inl p), some (.inl q) => decide (p.2.1 < p.1) || (decide (q.1 ≤ p.1) && decide (p.2.1 ≤ q.2.1) && (!q.2.2 || p.2.2 || decide (0 < p.1) || decide (p.2.1 < 0)))
  | some (.inr a), some (.inr b) => a.all (fun x => b.contains x)
  | _, _ => false
def a_join : AV → AV → AV
  | some (.inl p), some (.inl q) => some (.inl (if p.1 ≤ q.1 then p.1 else q.1, if p.2.1 ≤ q.2.1 then q.2.1 else p.2.1, p.2.2 && q.2.2))
  | some (.inr a), some (.inr b) => some (.inr (a ++ b))
  | _, _ => none
def a_ids : AV → Option (List Int)
  | some (.inr a) => some a
  | _ => none
def a_iv : AV → Option (Int × Int × Bool)
  | some (.inl q) => some q
  | _ => none
def a_T32 : AV := a_i (-2147483648) 2147483647
def a_T64 : AV := a_i (-9223372036854775808) 9223372036854775807
def a_clip (lo hi : Int) : AV := if -2147483648 ≤ lo ∧ hi ≤ 2147483647 then a_i lo hi else a_T32
def a_nz (q : Int × Int × Bool) : Bool := q.2.2 || decide (0 < q.1) || decide (q.2.1 < 0)
def a_b2 (k : Nat) (x y : Int × Int × Bool) : Option AV := match k with
  | 10 => some (a_clip (x.1 + y.1) (x.2.1 + y.2.1))
  | 11 => some (a_clip (x.1 - y.2.1) (x.2.1 - y.1))
  | 12 => some a_T32
  | 13 => if a_nz y = true then some (if 0 ≤ x.1 ∧ x.2.1 ≤ 2147483647 ∧ 0 < y.1 ∧ y.1 = y.2.1 then a_i 0 (x.2.1 / y.1) else if 2 ≤ y.1 ∧ -2147483648 ≤ x.1 ∧ x.2.1 ≤ 2147483647 then a_i (-1073741824) 1073741824 else a_T32) else none
  | 14 => if a_nz y = true then (if 0 ≤ x.1 ∧ 0 < y.1 ∧ y.1 = y.2.1 then some (a_i 0 (y.1 - 1)) else if -2147483648 ≤ y.1 ∧ y.2.1 ≤ 2147483648 then some a_T32 else none) else none
  | 15 => some a_T32
  | 16 => some a_T32
  | 17 => some a_T32
  | 18 => some a_T32
  | 19 => some a_T32
  | 20 => some a_T32
  | 30 => some a_T64
  | 31 => some a_T64
  | 32 => some a_T64
  | 33 => if a_nz y = true then some a_T64 else none
  | 34 => some (a_i (if x.1 < y.1 then y.1 else x.1) (if x.2.1 < y.2.1 then y.2.1 else x.2.1))
  | 35 => some (a_i (if y.1 < x.1 then y.1 else x.1) (if y.2.1 < x.2.1 then y.2.1 else x.2.1))
  | _ => if 40 ≤ k ∧ k < 46 ∨ 54 ≤ k ∧ k < 60 then some (a_i 0 1) else none
def a_b1 (k : Nat) (x : Int × Int × Bool) : Option AV := match k with
  | 1 => some (some (.inl x))
  | 21 => some a_T32
  | 22 => some (some (.inl x))
  | 23 => some (if -2147483648 ≤ x.1 ∧ x.2.1 ≤ 2147483647 then some (.inl x) else a_T32)
  | 24 => some (a_i (-128) 127)
  | 25 => some (a_i (-32768) 32767)
  | 36 => if x.2.1 ≤ 2147483647 then some a_T32 else none
  | _ => if 46 ≤ k ∧ k < 52 then some (a_i 0 1) else none
/-- a cell's bounds, at places lo .. hi -/
def a_rd (id : Nat) (lo hi : Int) : AV := match (a_mi id).find? (fun s => decide ((s.1 : Int) ≤ lo) && decide (hi ≤ (s.2.1 : Int))) with
  | some s => a_i s.2.2.1 s.2.2.2
  | none => a_i (a_lo id) (a_hi id)
def a_ok (W : AW) (id : Nat) (lo hi : Int) (v : Int × Int × Bool) : Bool :=
  decide (hi < lo) || decide (v.2.1 < v.1) ||
  (decide (0 ≤ lo) && decide (8 ≤ id) && decide (a_lo id ≤ v.1) && decide (v.2.1 ≤ a_hi id) &&
  (a_mi id).all (fun s => decide (hi < (s.1 : Int)) || decide ((s.2.1 : Int) < lo) || (decide (s.2.2.1 ≤ v.1) && decide (v.2.1 ≤ s.2.2.2))) &&
  W.any (fun w => decide (w.1 = id) && decide ((w.2.1 : Int) ≤ lo) && decide (hi ≤ (w.2.2 : Int))))
def a_all {α : Type} (f : Int → Option α) (j : α → α → α) : List Int → Option α
  | [] => none
  | [x] => f x
  | x :: t => match f x, a_all f j t with
    | some a, some b => some (j a b)
    | _, _ => none
/-- an array's element, or a field: of each object that it may be -/
def a_ld (k : Nat) (i : Int × Int × Bool) (id : Int) : Option AV :=
  if 0 ≤ id ∧ id.toNat < e_N ∧ 0 < id ∧ 0 ≤ i.1 ∧ i.2.1 < ((e_sh id.toNat).2 : Int) then
    (if k = 60 then (if (e_sh id.toNat).1 = 100 then some (a_rd id.toNat i.1 i.2.1) else none)
    else if k = 62 then (if 102 ≤ (e_sh id.toNat).1 then some (a_r ((List.range (i.2.1 - i.1 + 1).toNat).map (fun j => e_gr id.toNat (i.1.toNat + j)))) else none)
    else none) else none
def a_fld (key : Nat) (id : Int) : Option AV :=
  if e_isO (key / 64) id then some (if e_fty key = 2 then a_r [e_gr id.toNat (key % 64)] else a_rd id.toNat (key % 64 : Nat) (key % 64 : Nat)) else none
def a_len (id : Int) : Option AV := if 0 < id ∧ id.toNat < e_N ∧ 100 ≤ (e_sh id.toNat).1 then some (a_i (e_sh id.toNat).2 (e_sh id.toNat).2) else none
/-! conditions -/
def a_mt (r : Nat) (x y : Int × Int × Bool) : (Int × Int × Bool) × (Int × Int × Bool) := match r with
  | 0 => let a := (if x.1 ≤ y.1 then y.1 else x.1, if x.2.1 ≤ y.2.1 then x.2.1 else y.2.1, x.2.2 || y.2.2); (a, a)
  | 1 => if y.1 = y.2.1 then ((if x.1 = y.1 then x.1 + 1 else x.1, if x.2.1 = y.1 then x.2.1 - 1 else x.2.1, x.2.2 || decide (y.1 = 0)), y) else (x, y)
  | 2 => ((x.1, if x.2.1 ≤ y.2.1 - 1 then x.2.1 else y.2.1 - 1, x.2.2), (if y.1 ≤ x.1 + 1 then x.1 + 1 else y.1, y.2.1, y.2.2))
  | 3 => ((if x.1 ≤ y.1 then y.1 else x.1, x.2.1, x.2.2), (y.1, if y.2.1 ≤ x.2.1 then y.2.1 else x.2.1, y.2.2))
  | 4 => ((if x.1 ≤ y.1 + 1 then y.1 + 1 else x.1, x.2.1, x.2.2), (y.1, if y.2.1 ≤ x.2.1 - 1 then y.2.1 else x.2.1 - 1, y.2.2))
  | _ => ((x.1, if x.2.1 ≤ y.2.1 then x.2.1 else y.2.1, x.2.2), (if y.1 ≤ x.1 then x.1 else y.1, y.2.1, y.2.2))
/-- a local, or one and a number more -/
def a_vc (E : AE) : e_X → Option (Nat × Int)
  | .mulL k e => if k < 0 then a_vc E e else if k = 10 then (match e with
      | .add (.var i) (.num c) => (match (E.getD i (none, [])).1 with
        | some (.inl q) => if -2147483648 ≤ q.1 + c ∧ q.2.1 + c ≤ 2147483647 then some (i, c) else none
        | _ => none)
      | _ => none) else none
  | .var i => some (i, 0)
  | _ => none
def a_bad (q : Int × Int × Bool) : Bool := decide (q.2.1 < q.1)
/-- local i is z, moved back by c -/
def a_cut (E : AE) (i : Option (Nat × Int)) (z : Int × Int × Bool) : AE := match i with
  | none => E
  | some ic => match (E.getD ic.1 (none, [])).1 with
    | some (.inl q) => E.set ic.1 (some (.inl (if q.1 ≤ z.1 - ic.2 then z.1 - ic.2 else q.1, if q.2.1 ≤ z.2.1 - ic.2 then q.2.1 else z.2.1 - ic.2, q.2.2 || (decide (ic.2 = 0) && z.2.2))), (E.getD ic.1 (none, [])).2)
    | _ => E
def a_cut2 (E : AE) (i j : Option (Nat × Int)) (z : (Int × Int × Bool) × (Int × Int × Bool)) : AE :=
  if a_bad z.1 || a_bad z.2 then a_kill E else a_cut (a_cut E i z.1) j z.2
def a_cmp (E : AE) (e : e_X) (k : Nat) (xs : List AV) : Option AR := match xs with
  | [some (.inl x), some (.inl y)] => if k < 46 ∨ 54 ≤ k then (match e with
    | .add ea eb => some ([a_i 0 1], a_cut2 E (a_vc E ea) (a_vc E eb) (a_mt (if k < 46 then k - 40 else k - 54) x y), a_cut2 E (a_vc E ea) (a_vc E eb) (a_mt (e_ng (if k < 46 then k - 40 else k - 54)) x y))
    | _ => some ([a_i 0 1], E, E)) else none
  | [some (.inl x)] => if 46 ≤ k ∧ k < 52 then some ([a_i 0 1], a_cut2 E (a_vc E e) none (a_mt (k - 46) x (0, 0, false)), a_cut2 E (a_vc E e) none (a_mt (e_ng (k - 46)) x (0, 0, false))) else none
  | _ => none
def a_nul (E : AE) (e : e_X) (isn : Bool) (ids : List Int) : AR :=
  let yes := ids.filter (fun x => decide (x = -1) == isn)
  let no := ids.filter (fun x => !(decide (x = -1) == isn))
  match e with
  | .var i => ([a_i 0 1], E.set i (a_r yes, (E.getD i (none, [])).2), E.set i (a_r no, (E.getD i (none, [])).2))
  | _ => ([a_i 0 1], E, E)
def a_opx (E : AE) (k : Nat) (e : e_X) (xs : List AV) : Option AR :=
  if k = 2 ∨ k = 3 then (match xs with
    | [some (.inl x)] => if x.1 = x.2.1 then some ([a_r [x.1]], E, E) else none
    | _ => none)
  else if k = 63 then (match xs with
    | [some (.inr ids)] => (a_all a_len a_join ids).map (fun v => ([v], E, E))
    | _ => none)
  else if k = 60 ∨ k = 62 then (match xs with
    | [some (.inr ids), some (.inl i)] => (a_all (a_ld k i) a_join ids).map (fun v => ([v], E, E))
    | _ => none)
  else if k = 52 ∨ k = 53 then (match xs with
    | [some (.inr ids)] => some (a_nul E e (k == 52) ids)
    | _ => none)
  else if 40 ≤ k ∧ k < 60 then a_cmp E e k xs
  else (match xs with
    | [some (.inl x), some (.inl y)] => (a_b2 k x y).map (fun v => ([v], E, E))
    | [some (.inl x)] => (a_b1 k x).map (fun v => ([v], E, E))
    | _ => none)
def a_is (c : Int) : e_X → Bool
  | .num v => decide (v = c)
  | .mulL k e => if k < 0 then a_is c e else false
  | _ => false
def a_ite (a b : e_X) (E T F : AE) (ra rb : Option AR) : Option AR :=
  match (if a_dead T then some none else ra.map some), (if a_dead F then some none else rb.map some) with
  | some (some p), some (some q) => (match p.1, q.1 with
    | [x], [y] => some ([a_join x y], (if a_is 0 b then p.2.1 else if a_is 0 a then q.2.1 else E), (if a_is 1 b then p.2.2 else if a_is 1 a then q.2.2 else E))
    | _, _ => none)
  | some (some p), some none => some (p.1, (if a_is 0 a then a_kill E else if a_is 0 b then p.2.1 else E), (if a_is 1 a then a_kill E else if a_is 1 b then p.2.2 else E))
  | some none, some (some q) => some (q.1, (if a_is 0 b then a_kill E else if a_is 0 a then q.2.1 else E), (if a_is 1 b then a_kill E else if a_is 1 a then q.2.2 else E))
  | _, _ => none
def a_ex (call : Nat → List AV → Option AV) : e_X → AE → Option AR
  | .num v, E => some ([a_i v v], E, E)
  | .var i, E => if i < E.length then some ([(E.getD i (none, [])).1], E, E) else none
  | .add a b, E => match a_ex call a E, a_ex call b E with
    | some p, some q => some (p.1 ++ q.1, E, E)
    | _, _ => none
  | .mulL k a, E => if k < 0 then a_ex call a E else match a_ex call a E with
    | none => none
    | some p => if 5000 ≤ k then (call (k.toNat - 5000) p.1).map (fun v => ([v], E, E)) else a_opx E k.toNat a p.1
  | .mulR a k, E => match a_ex call a E with
    | some ([some (.inr ids)], _, _) => (a_all (a_fld k.toNat) a_join ids).map (fun v => ([v], E, E))
    | _ => none
  | .sub c (.add a b), E => match a_ex call c E with
    | none => none
    | some p => if p.1.length = 1 then a_ite a b E p.2.1 p.2.2 (a_ex call a p.2.1) (a_ex call b p.2.2) else none
  | _, _ => none
/-- what a local is bound to with its value -/
def a_tag (E : AE) : e_X → AT
  | .var i => (E.getD i (none, [])).2
  | .mulL k e => if k = 10 then (match e with
      | .add (.var i) (.num c) => (match (E.getD i (none, [])).1 with
        | some (.inl q) => if -2147483648 ≤ q.1 + c ∧ q.2.1 + c ≤ 2147483647 then (E.getD i (none, [])).2.map (fun t => (t.1, t.2.1, if t.2.1 then t.2.2 + c else t.2.2 - c)) else []
        | _ => [])
      | _ => []) else []
  | _ => []
/-- the ways of a choice, each with its value -/
def a_alts (call : Nat → List AV → Option AV) : e_X → AE → Option (List (AV × AT × AE))
  | .mulL k a, E => if k < 0 then a_alts call a E else match a_ex call (.mulL k a) E with
    | some ([x], _, _) => some [(x, a_tag E (.mulL k a), E)]
    | _ => none
  | .sub c (.add a b), E => match a_ex call c E with
    | none => none
    | some p => if p.1.length = 1 then (match (if a_dead p.2.1 then some [] else a_alts call a p.2.1), (if a_dead p.2.2 then some [] else a_alts call b p.2.2) with
      | some x, some y => some (x ++ y)
      | _, _ => none) else none
  | e, E => match a_ex call e E with
    | some ([x], _, _) => some [(x, a_tag E e, E)]
    | _ => none
def a_wr (W : AW) (kd : Nat) (i v : Int × Int × Bool) (id : Int) : Bool := decide (8 ≤ id) && decide (id.toNat < e_N) && decide ((e_sh id.toNat).1 = kd) && decide (0 ≤ i.1) && decide (i.2.1 < ((e_sh id.toNat).2 : Int)) && a_ok W id.toNat i.1 i.2.1 v
def a_wf (W : AW) (key : Nat) (v : Int × Int × Bool) (id : Int) : Bool := decide (e_isO (key / 64) id) && decide (e_fty key ≠ 2) && a_ok W id.toNat (key % 64 : Nat) (key % 64 : Nat) v
def a_full (W : AW) (x y : Int) : Bool := decide (e_isO 100 x) && decide (e_isO 100 y) && decide (a_mi x.toNat = a_mi y.toNat) && (a_mi y.toNat).all (fun s => decide (s.1 = 0) && decide ((e_sh y.toNat).2 ≤ s.2.1 + 1)) && decide (x.toNat ≠ e_OUT) && decide (y.toNat ≠ e_OUT) && W.any (fun w => decide (w.1 = y.toNat) && decide (w.2.1 = 0) && decide ((e_sh y.toNat).2 ≤ w.2.2 + 1))
def a_st (W : AW) (call : Nat → List AV → Option AV) (s : e_X) (E : AE) : Option AE := match s with
  | .mulL k e =>
    if k = 64 then (match a_ex call e E with
      | some ([some (.inr ids), some (.inl i), some (.inl v)], _, _) => if ids.all (a_wr W 100 i v) then some E else none
      | _ => none)
    else if k = 66 then (match a_ex call e E with
      | some ([some (.inr as), some (.inl sp), some (.inr bs), some (.inl dp), some (.inl n)], _, _) => if (as.all fun x => bs.all fun y => a_full W x y && decide (n.2.1 ≤ ((e_sh x.toNat).2 : Int)) && decide (n.2.1 ≤ ((e_sh y.toNat).2 : Int))) = true ∧ sp.1 = 0 ∧ sp.2.1 = 0 ∧ dp.1 = 0 ∧ dp.2.1 = 0 ∧ 0 ≤ n.1 then some E else none
      | _ => none)
    else if k = 67 then (match e with
      | .mulR (.add o x) key => (match a_ex call o E, a_ex call x E with
        | some ([some (.inr ids)], _, _), some ([some (.inl v)], _, _) => if ids.all (fun id => match a_fld key.toNat id with
            | some (some (.inl q)) => (match a_b2 10 q v with
              | some (some (.inl z)) => a_wf W key.toNat z id && true
              | _ => false)
            | _ => false) then some E else none
        | _, _ => none)
      | _ => none)
    else if 200 ≤ k ∧ k < 300 then (match e with
      | .num c => if k.toNat - 200 < E.length then (match (E.getD (k.toNat - 200) (none, [])).1 with
        | some (.inl q) => if -2147483648 ≤ q.1 + c ∧ q.2.1 + c ≤ 2147483647 then some (E.set (k.toNat - 200) (a_i (q.1 + c) (q.2.1 + c), a_tag E (.mulL 10 (.add (.var (k.toNat - 200)) (.num c))))) else some (E.set (k.toNat - 200) (a_T32, []))
        | _ => none) else none
      | _ => none)
    else if 5000 ≤ k then (match a_ex call s E with
      | some _ => some E
      | none => none)
    else none
  | .mulR e key => (match a_ex call e E with
    | some ([some (.inr ids), some (.inl v)], _, _) => if ids.all (a_wf W key.toNat v) then some E else none
    | _ => none)
  | _ => none
def a_tree (W : AW) (call : Nat → List AV → Option AV) (jmp : Nat → AE → Bool) (rho : AV) : e_X → AE → Bool
  | .mulL k e, E =>
    if k < 0 then a_tree W call jmp rho e E
    else if k = 1 then (match a_ex call e E with
      | some ([x], _, _) => a_leq x rho
      | _ => false)
    else if k = 2 then a_leq (a_i 0 0) rho
    else if k = 4 then (match e with
      | .num l => jmp l.toNat E
      | _ => false)
    else false
  | .sub c (.add a b), E => match a_ex call c E with
    | none => false
    | some p => (decide (p.1.length = 1) && (a_dead p.2.1 || a_tree W call jmp rho a p.2.1)) && (a_dead p.2.2 || a_tree W call jmp rho b p.2.2)
  | .add s t, E => match s with
    | .mulL k e => if 100 ≤ k ∧ k < 200 then (match a_alts call e E with
        | some l => l.all (fun q => decide (k.toNat - 100 < q.2.2.length) && a_tree W call jmp rho t (q.2.2.set (k.toNat - 100) (q.1, q.2.1)))
        | none => false)
      else (match a_st W call (.mulL k e) E with
        | some E' => a_tree W call jmp rho t E'
        | none => false)
    | s => match a_st W call s E with
      | some E' => a_tree W call jmp rho t E'
      | none => false
  | _, _ => false
abbrev AA : Type := List (Nat × AE × Nat × Bool)
def a_tle (c : Nat) (T H : AT) : Bool := H.all (fun t => decide (t.1 = c) || T.any (fun u => decide (u.1 = t.1) && (u.2.1 == t.2.1) && decide (t.2.2 ≤ u.2.2)))
/-- E is no more than H, but for what is bound to local c's place -/
def a_le (c : Nat) : AE → AE → Bool
  | [], [] => true
  | p :: E, q :: H => a_leq p.1 q.1 && a_tle c p.2 q.2 && a_le c E H
  | _, _ => false
def a_on (c : Nat) (up : Bool) (E : AE) : Bool := (E.getD c (none, [])).2.any (fun t => decide (t.1 = c) && (t.2.1 == up) && decide (1 ≤ t.2.2))
/-- what holds at a loop's head -/
def a_head (c : Nat) (up : Bool) (hv : List (Nat × AV × AT)) : Nat → AE → AE
  | _, [] => []
  | i, q :: E => (match q_find hv i with
    | some a => (a.1, if i = c then (c, up, 0) :: a.2 else a.2)
    | none => (q.1, q.2.filter (fun t => !(t.1 == c)))) :: a_head c up hv (i + 1) E
def a_act (A : AA) (l : Nat) : Option (AE × Nat × Bool) := q_find A l
def a_free (c : Nat) (A : AA) : Bool := A.all (fun q => decide (q.2.2.1 ≠ c) && q.2.1.all (fun p => p.2.all (fun t => decide (t.1 ≠ c))))
def a_cnt (c : Nat) (H : AE) : Bool := match (H.getD c (none, [])).1 with
  | some (.inl q) => decide (-2147483648 ≤ q.1) && decide (q.2.1 ≤ 2147483647)
  | _ => false
def a_pd : List Nat → List AV → AE
  | [], _ => []
  | _, [] => []
  | t :: P, a :: as => if t = 1 then (a, []) :: (a_i 0 0, []) :: a_pd P as else (a, []) :: a_pd P as
def a_ent (u : Nat) (xs : List AV) : AE := a_pd (e_pt u) xs ++ List.replicate (e_nl u - (a_pd (e_pt u) xs).length) (a_i 0 0, [])
def a_rok (u : Nat) (xs : List AV) : Bool := match q_rc (e_vm u) with
  | none => true
  | some ci => match xs with
    | some (.inr ids) :: _ => ids.all (fun id => decide (e_isO ci id))
    | _ => false
/-- the whole analysis, n labels and calls deep -/
def a_an (W : AW) (orc : Nat → List AV → Option AV) : Nat → Nat → AA → AE → e_X → Bool
  | 0, _, _, _, _ => false
  | n + 1, v, A, E, t => a_tree W
      (fun u xs => match orc u xs with
        | some r => some r
        | none => if a_rok u xs && a_an W orc n u [] (a_ent u xs) (.mulL 4 (.num 0)) then some (a_rho u) else none)
      (fun l E1 => match a_act A l with
        | some q => a_le q.2.1 E1 q.1 && a_on q.2.1 q.2.2 E1
        | none => match a_hd v l with
          | some h => a_le h.1 E1 (a_head h.1 h.2.1 h.2.2 0 E1) && a_free h.1 A && a_cnt h.1 (a_head h.1 h.2.1 h.2.2 0 E1) && h.2.2.all (fun p => p.2.2.all (fun t => decide (t.1 ≠ h.1))) && a_an W orc n v ((l, a_head h.1 h.2.1 h.2.2 0 E1, h.1, h.2.1) :: A) (a_head h.1 h.2.1 h.2.2 0 E1) (e_tr v l)
          | none => a_an W orc n v A E1 (e_tr v l))
      (a_rho v) t E
