/-! AN ANALYSIS OF THE TREES: that they come to an end, what they answer at most, what they write at most. A number lies between two, perhaps not 0; an object is one of some; none: anything. -/
abbrev AE : Type := List (AV × AT)
abbrev AR : Type := List AV × AE × AE
abbrev AW : Type := List (Nat × Nat × Nat)
def a_g : AV → Int → Prop
  | none, _ => True
  | some (.inl q), x => q.1 ≤ x ∧ x ≤ q.2.1 ∧ (q.2.2 = true → x ≠ 0)
  | some (.inr ids), x => x ∈ ids
def a_gs : List AV → List Int → Prop
  | [], [] => True
  | v :: vs, x :: xs => a_g v x ∧ a_gs vs xs
  | _, _ => False
def a_to (g : Nat → Int) (x : Int) (t : Nat × Bool × Int) : Prop := if t.2.1 = true then t.2.2 ≤ x - g t.1 else t.2.2 ≤ g t.1 - x
def a_E (g : Nat → Int) (E : AE) (L : List Int) : Prop := L.length = E.length ∧ ∀ i, i < E.length → a_g (E.getD i (none, [])).1 (L.getD i 0) ∧ ∀ t ∈ (E.getD i (none, [])).2, a_to g (L.getD i 0) t
def a_lo (id : Nat) : Int := if id = e_OUT then -9223372036854775808 else -2147483648
def a_hi (id : Nat) : Int := if id = e_OUT then 9223372036854775807 else 2147483647
/-- what cells hold always -/
def a_M (M : EM) : Prop := ∀ id k, id ≠ 5 → a_lo id ≤ M id k ∧ M id k ≤ a_hi id ∧ ∀ s ∈ a_mi id, s.1 ≤ k → k ≤ s.2.1 → s.2.2.1 ≤ M id k ∧ M id k ≤ s.2.2.2
def a_fr (W : AW) (M M' : EM) : Prop := ∀ id k, (∀ w ∈ W, ¬ (w.1 = id ∧ w.2.1 ≤ k ∧ k ≤ w.2.2)) → M' id k = M id k
def a_dead1 : AV → Bool
  | some (.inl q) => decide (q.2.1 < q.1)
  | some (.inr []) => true
  | _ => false
def a_dead (E : AE) : Bool := E.any (fun q => a_dead1 q.1)
def a_kill (E : AE) : AE := match E with
  | [] => []
  | q :: t => (a_r [], q.2) :: t
def a_leq : AV → AV → Bool
  | _, none => true
  | some (.inl p), some (.inl q) => decide (p.2.1 < p.1) || (decide (q.1 ≤ p.1) && decide (p.2.1 ≤ q.2.1) && (!q.2.2 || p.2.2 || decide (0 < p.1) || decide (p.2.1 < 0)))
  | some (.inr a), some (.inr b) => a.all (fun x => b.contains x)
  | _, _ => false
def a_join : AV → AV → AV
  | some (.inl p), some (.inl q) => some (.inl (if p.1 ≤ q.1 then p.1 else q.1, if p.2.1 ≤ q.2.1 then q.2.1 else p.2.1, p.2.2 && q.2.2))
  | some (.inr a), some (.inr b) => some (.inr (a ++ b))
  | _, _ => none
def a_ids : AV → Option (List Int)
  | some (.inr a) => some a
  | _ => none
def a_iv : AV → Option (Int × Int × Bool)
  | some (.inl q) => some q
  | _ => none
def a_T32 : AV := a_i (-2147483648) 2147483647
def a_T64 : AV := a_i (-9223372036854775808) 9223372036854775807
def a_clip (lo hi : Int) : AV := if -2147483648 ≤ lo ∧ hi ≤ 2147483647 then a_i lo hi else a_T32
def a_nz (q : Int × Int × Bool) : Bool := q.2.2 || decide (0 < q.1) || decide (q.2.1 < 0)
def a_b2 (k : Nat) (x y : Int × Int × Bool) : Option AV := match k with
  | 10 => some (a_clip (x.1 + y.1) (x.2.1 + y.2.1))
  | 11 => some (a_clip (x.1 - y.2.1) (x.2.1 - y.1))
  | 12 => some a_T32
  | 13 => if a_nz y = true then some (if 0 ≤ x.1 ∧ x.2.1 ≤ 2147483647 ∧ 0 < y.1 ∧ y.1 = y.2.1 then a_i 0 (x.2.1 / y.1) else if 2 ≤ y.1 ∧ -2147483648 ≤ x.1 ∧ x.2.1 ≤ 2147483647 then a_i (-1073741824) 1073741824 else a_T32) else none
  | 14 => if a_nz y = true then (if 0 ≤ x.1 ∧ 0 < y.1 ∧ y.1 = y.2.1 then some (a_i 0 (y.1 - 1)) else if -2147483648 ≤ y.1 ∧ y.2.1 ≤ 2147483648 then some a_T32 else none) else none
  | 15 => some a_T32
  | 16 => some a_T32
  | 17 => some a_T32
  | 18 => some a_T32
  | 19 => some a_T32
  | 20 => some a_T32
  | 30 => some a_T64
  | 31 => some a_T64
  | 32 => some a_T64
  | 33 => if a_nz y = true then some a_T64 else none
  | 34 => some (a_i (if x.1 < y.1 then y.1 else x.1) (if x.2.1 < y.2.1 then y.2.1 else x.2.1))
  | 35 => some (a_i (if y.1 < x.1 then y.1 else x.1) (if y.2.1 < x.2.1 then y.2.1 else x.2.1))
  | _ => if 40 ≤ k ∧ k < 46 ∨ 54 ≤ k ∧ k < 60 then some (a_i 0 1) else none
def a_b1 (k : Nat) (x : Int × Int × Bool) : Option AV := match k with
  | 1 => some (some (.inl x))
  | 21 => some a_T32
  | 22 => some (some (.inl x))
  | 23 => some (if -2147483648 ≤ x.1 ∧ x.2.1 ≤ 2147483647 then some (.inl x) else a_T32)
  | 24 => some (a_i (-128) 127)
  | 25 => some (a_i (-32768) 32767)
  | 36 => if x.2.1 ≤ 2147483647 then some a_T32 else none
  | _ => if 46 ≤ k ∧ k < 52 then some (a_i 0 1) else none
/-- a cell's bounds, at places lo .. hi -/
def a_rd (id : Nat) (lo hi : Int) : AV := match (a_mi id).find? (fun s => decide ((s.1 : Int) ≤ lo) && decide (hi ≤ (s.2.1 : Int))) with
  | some s => a_i s.2.2.1 s.2.2.2
  | none => a_i (a_lo id) (a_hi id)
def a_ok (W : AW) (id : Nat) (lo hi : Int) (v : Int × Int × Bool) : Bool :=
  decide (hi < lo) || decide (v.2.1 < v.1) ||
  (decide (0 ≤ lo) && decide (8 ≤ id) && decide (a_lo id ≤ v.1) && decide (v.2.1 ≤ a_hi id) &&
  (a_mi id).all (fun s => decide (hi < (s.1 : Int)) || decide ((s.2.1 : Int) < lo) || (decide (s.2.2.1 ≤ v.1) && decide (v.2.1 ≤ s.2.2.2))) &&
  W.any (fun w => decide (w.1 = id) && decide ((w.2.1 : Int) ≤ lo) && decide (hi ≤ (w.2.2 : Int))))
def a_all {α : Type} (f : Int → Option α) (j : α → α → α) : List Int → Option α
  | [] => none
  | [x] => f x
  | x :: t => match f x, a_all f j t with
    | some a, some b => some (j a b)
    | _, _ => none
/-- an array's element, or a field: of each object that it may be -/
def a_ld (k : Nat) (i : Int × Int × Bool) (id : Int) : Option AV :=
  if 0 ≤ id ∧ id.toNat < e_N ∧ 0 < id ∧ 0 ≤ i.1 ∧ i.2.1 < ((e_sh id.toNat).2 : Int) then
    (if k = 60 then (if (e_sh id.toNat).1 = 100 then some (a_rd id.toNat i.1 i.2.1) else none)
    else if k = 62 then (if 102 ≤ (e_sh id.toNat).1 then some (a_r ((List.range (i.2.1 - i.1 + 1).toNat).map (fun j => e_gr id.toNat (i.1.toNat + j)))) else none)
    else none) else none
def a_fld (key : Nat) (id : Int) : Option AV :=
  if e_isO (key / 64) id then some (if e_fty key = 2 then a_r [e_gr id.toNat (key % 64)] else a_rd id.toNat (key % 64 : Nat) (key % 64 : Nat)) else none
def a_len (id : Int) : Option AV := if 0 < id ∧ id.toNat < e_N ∧ 100 ≤ (e_sh id.toNat).1 then some (a_i (e_sh id.toNat).2 (e_sh id.toNat).2) else none
/-! conditions -/
def a_mt (r : Nat) (x y : Int × Int × Bool) : (Int × Int × Bool) × (Int × Int × Bool) := match r with
  | 0 => let a := (if x.1 ≤ y.1 then y.1 else x.1, if x.2.1 ≤ y.2.1 then x.2.1 else y.2.1, x.2.2 || y.2.2); (a, a)
  | 1 => if y.1 = y.2.1 then ((if x.1 = y.1 then x.1 + 1 else x.1, if x.2.1 = y.1 then x.2.1 - 1 else x.2.1, x.2.2 || decide (y.1 = 0)), y) else (x, y)
  | 2 => ((x.1, if x.2.1 ≤ y.2.1 - 1 then x.2.1 else y.2.1 - 1, x.2.2), (if y.1 ≤ x.1 + 1 then x.1 + 1 else y.1, y.2.1, y.2.2))
  | 3 => ((if x.1 ≤ y.1 then y.1 else x.1, x.2.1, x.2.2), (y.1, if y.2.1 ≤ x.2.1 then y.2.1 else x.2.1, y.2.2))
  | 4 => ((if x.1 ≤ y.1 + 1 then y.1 + 1 else x.1, x.2.1, x.2.2), (y.1, if y.2.1 ≤ x.2.1 - 1 then y.2.1 else x.2.1 - 1, y.2.2))
  | _ => ((x.1, if x.2.1 ≤ y.2.1 then x.2.1 else y.2.1, x.2.2), (if y.1 ≤ x.1 then x.1 else y.1, y.2.1, y.2.2))
