section
def a_i (lo hi : Int) : AV := some (.inl (lo, hi, false))
def a_r (ids : List Int) : AV := some (.inr ids)
def a_miL : List (Nat × List (Nat × Nat × Int × Int)) := [(33, [(2, 2, 0, 30)]), (34, [(0, 11, 0, 20)]), (101, [(2, 2, 0, 30)]), (102, [(0, 11, 0, 20)]), (146, [(5, 5, 0, 120)]), (148, [(5, 5, 0, 120)]), (150, [(5, 5, 0, 120)]), (152, [(5, 5, 0, 120)]), (154, [(5, 5, 0, 120)]), (156, [(5, 5, 0, 120)]), (158, [(5, 5, 0, 120)]), (160, [(5, 5, 0, 120)]), (183, [(0, 0, 0, 120)])]
/-- what some cells hold always: places from .. to, least, most -/
def a_mi (id : Nat) : List (Nat × Nat × Int × Int) := (q_find a_miL id).getD []
def a_rhoL : List (Nat × AV) := [(42, a_i 0 1), (45, a_i (-4) 120), (46, a_i 0 2147483647), (53, a_i 0 1), (54, a_i 0 1), (60, a_i 0 1), (61, a_i 0 1), (62, a_i 1 1), (63, a_i 0 1), (64, a_i 0 1), (65, a_i 0 1), (66, a_i 0 1), (67, a_i 0 1), (68, a_i 0 1), (69, a_i 0 1), (70, a_i 0 1), (77, a_i 0 100), (78, a_i (-9223372036854775808) 9223372036854775807), (84, a_i 0 1), (89, a_i (-2147483648) (-128)), (91, a_i 0 120), (108, a_i (-3) 1), (121, a_i (-12) 120), (122, a_i (-1) 100), (129, a_i (-1) 30), (135, a_i (-13) 120), (139, a_i (-1) 0), (140, a_i (-14) 0), (141, a_i (-13) 0), (149, a_i 0 1), (150, a_i 0 1), (151, a_i 0 1), (152, a_i 0 1), (153, a_i 0 1), (154, a_r [(-1), 146, 148, 150, 152, 154, 156, 158, 160]), (155, a_r [(-1), 37, 38, 39, 40, 41, 42, 43, 44, 45, 46, 47, 48, 49, 50, 51, 52, 53, 54, 55, 56, 57, 58, 59, 60, 61, 62, 63, 64, 65, 66, 67, 68, 69, 70, 71, 72, 73, 74, 75, 76]), (156, a_i (-12) 0), (157, a_i (-12) 0), (161, a_i (-13) 0), (162, a_i 0 1), (163, a_i 0 1), (164, a_i (-13) 0)]
/-- what a method answers at most -/
def a_rho (v : Nat) : AV := (q_find a_rhoL v).getD (a_i (-2147483648) 2147483647)
def a_hdL : List (Nat × Nat × Bool × List (Nat × AV × AT)) := [(4197, 6, true, [(6, a_i 0 2147483647, [])]),
  (16437, 4, true, [(4, a_i 0 2147483647, []), (5, a_i (-2147483648) 2147483647, []), (6, a_i (-2147483648) 2147483647, [])]),
  (20531, 3, true, [(3, a_i 0 4, [])]),
  (24580, 2, true, [(1, a_i (-2147483648) 2147483647, []), (2, a_i 0 2147483647, [])]),
  (28674, 2, true, [(2, a_i 0 2147483647, []), (3, a_i 0 3, [])]),
  (32770, 3, true, [(3, a_i 0 2147483647, [])]),
  (36938, 5, true, [(5, a_i 0 6, []), (6, a_i (-2147483648) 2147483647, []), (7, a_i (-2147483648) 2147483647, [])]),
  (40967, 2, true, [(2, a_i 0 100, [])]),
  (45058, 1, true, [(1, a_i 0 2147483647, [])]),
  (49154, 2, true, [(2, a_i 0 2147483647, [])]),
  (53308, 5, false, [(5, a_i (-2147483648) 2147483647, [])]),
  (61467, 6, true, [(3, a_i (-2147483648) 2147483647, []), (4, a_i (-2147483648) 2147483647, []), (6, a_i (-2147483648) 2147483647, [])]),
  (65573, 2, false, [(2, a_i (-1) 999, [])]),
  (69647, 3, true, [(3, a_i 0 2147483647, []), (4, a_i 0 100, [])]),
  (69658, 4, true, [(4, a_i 0 100, [])]),
  (73733, 4, false, [(3, a_i 0 99, []), (4, a_i (-2147483648) 999, [])]),
  (73739, 3, true, [(3, a_i 0 99, [])]),
  (90124, 1, true, [(1, a_i 0 501, [])]),
  (94215, 4, true, [(2, a_i (-2147483648) 2147483647, []), (3, a_i 0 501, []), (4, a_i 1 501, []), (5, a_i (-2147483648) 2147483647, [])]),
  (94228, 3, true, [(3, a_i 2 501, [(4, true, 1)])]),
  (98308, 2, true, [(1, a_i 0 2147483647, []), (2, a_i 1 2147483647, [])]),
  (102404, 2, true, [(1, a_i (-2147483648) 2147483647, []), (2, a_i 0 2147483647, []), (3, a_i (-2147483648) 2147483647, []), (4, a_i 0 2147483647, [])]),
  (102417, 4, true, [(3, a_i (-2147483648) 2147483647, []), (4, a_i 0 2147483647, [])]),
  (106500, 3, true, [(2, a_i (-2147483648) 2147483647, []), (3, a_i 0 2147483647, [])]),
  (114690, 2, true, [(2, a_i 0 100, []), (3, a_i (-2147483648) 2147483647, []), (4, a_i 0 2147483647, [])]),
  (114701, 4, true, [(3, a_i (-2147483648) 2147483647, []), (4, a_i 0 2147483647, [])]),
  (131076, 3, true, [(2, a_i (-2147483648) 2147483647, []), (3, a_i 0 2147483647, [])]),
  (143362, 2, true, [(2, a_i 0 4, [])]),
  (155691, 7, true, [(5, a_i (-2147483648) 2147483647, []), (6, a_i (-2147483648) 2147483647, []), (7, a_i 0 21474837, []), (8, a_i 0 100, [])]),
  (155707, 8, true, [(5, a_i (-2147483648) 2147483647, []), (6, a_i (-2147483648) 2147483647, []), (8, a_i 0 100, [])]),
  (159748, 3, true, [(2, a_i (-2147483648) 2147483647, []), (3, a_i 0 2147483647, [])]),
  (167949, 4, true, [(4, a_i 0 2147483647, []), (5, a_i (-2147483648) 2147483647, [])]),
  (172034, 2, true, [(2, a_i 0 120, [])]),
  (176142, 3, true, [(3, a_i 0 121, [])]),
  (184341, 3, true, [(1, a_i 0 120, []), (2, a_i (-2147483648) 2147483647, []), (3, a_i 0 121, []), (4, a_i 0 2147483647, [])]),
  (188428, 3, true, [(2, a_i 0 2147483647, []), (3, a_i 0 2147483647, []), (4, a_i (-2147483648) 2147483647, [])]),
  (196632, 2, true, [(2, a_i 0 40, []), (3, none, []), (4, none, [])]),
  (225287, 2, true, [(2, a_i 0 2147483647, [])]),
  (229380, 3, true, [(2, a_i (-2147483648) 2147483647, []), (3, a_i 0 2147483647, [])]),
  (237596, 4, true, [(4, a_i 0 2147483647, [])]),
  (282648, 5, true, [(5, a_i 0 6, [])]),
  (286732, 7, true, [(7, a_i (-2147483648) 2147483647, [])]),
  (299012, 2, true, [(1, a_i (-2147483648) 2147483647, []), (2, a_i 0 10, [])]),
  (303111, 3, true, [(3, a_i 0 10, [])]),
  (307235, 6, true, [(6, a_i 0 2147483647, []), (7, a_i (-2147483648) 2147483647, []), (8, a_i (-2147483648) 2147483647, [])]),
  (319490, 2, false, [(2, a_i (-1) 2147483646, [])]),
  (319517, 3, true, [(3, a_i 0 2147483647, [])]),
  (372738, 2, true, [(2, a_i 0 120, [])]),
  (385035, 1, false, [(1, a_i (-1) 11, []), (2, a_i 0 31, []), (3, a_i 0 50, []), (4, a_i 0 2147483647, []), (5, a_i 0 2147483647, [])]),
  (385041, 2, true, [(2, a_i 0 31, []), (3, a_i 0 50, []), (4, a_i 0 2147483647, []), (5, a_i 0 2147483647, [])]),
  (385070, 5, true, [(4, a_i 0 2147483647, []), (5, a_i (-2147483648) 2147483647, [])]),
  (401415, 4, true, [(2, a_i (-2147483648) 2147483647, []), (3, a_i (-2147483648) 2147483647, []), (4, a_i 0 12, []), (5, a_i (-2147483648) 2147483647, []), (6, a_i (-2147483648) 2147483647, [])]),
  (401457, 3, true, [(3, a_i (-2147483648) 2147483647, [])]),
  (409655, 4, false, [(4, a_i (-1) 119, [])]),
  (413707, 7, true, [(5, a_i (-2147483648) 2147483647, []), (6, a_i 0 1, []), (7, a_i 1 121, []), (8, a_i (-2147483648) 50, []), (9, a_i 0 1, []), (10, a_i (-2147483648) 2147483647, []), (11, a_i (-2147483648) 2147483647, []), (12, a_i 0 1, [])]),
  (417831, 3, true, [(2, a_i (-2147483648) 2147483647, []), (3, a_i 0 2147483647, [])]),
  (471092, 4, true, [(4, a_i 0 100, [])]),
  (475214, 5, true, [(5, a_i 0 240, [])]),
  (507926, 4, true, [(3, a_i (-2147483648) 2147483647, []), (4, a_i 0 12, [])]),
  (663573, 1, true, [(1, a_i 0 120, []), (2, a_i 0 999, [])]),
  (667669, 2, true, [(2, a_i 0 120, []), (3, a_i (-2147483648) 2147483647, [])]),
  (1105925, 2, true, [(2, a_i 0 1000, [])])]
/-- a loop's head: its counter, whether it goes up, what the locals hold that the loop changes -/
def a_hd (v l : Nat) : Option (Nat × Bool × List (Nat × AV × AT)) := q_find a_hdL (4096 * v + l)
/-- what the reading of a TEXT writes of the reader -/
def a_RW : List (Nat × Nat × Nat) := [(162, 0, 15), (163, 0, 119), (164, 0, 119), (165, 0, 120), (166, 0, 119), (167, 0, 119), (168, 0, 119), (169, 0, 119)]
def a_SH : List Int := [146, 148, 150, 152, 154, 156, 158, 160]
def e_RD : Int := 162
def e_BENCH : Int := 170
end
section
/-! AN ANALYSIS OF THE TREES: that they come to an end, what they answer at most, what they write at most. A number lies between two, perhaps not 0; an object is one of some; none: anything. -/
abbrev AE : Type := List (AV × AT)
abbrev AR : Type := List AV × AE × AE
abbrev AW : Type := List (Nat × Nat × Nat)
def a_g : AV → Int → Prop
  | none, _ => True
  | some (.inl q), x => q.1 ≤ x ∧ x ≤ q.2.1 ∧ (q.2.2 = true → x ≠ 0)
  | some (.inr ids), x => x ∈ ids
def a_gs : List AV → List Int → Prop
  | [], [] => True
  | v :: vs, x :: xs => a_g v x ∧ a_gs vs xs
  | _, _ => False
def a_to (g : Nat → Int) (x : Int) (t : Nat × Bool × Int) : Prop := if t.2.1 = true then t.2.2 ≤ x - g t.1 else t.2.2 ≤ g t.1 - x
def a_E (g : Nat → Int) (E : AE) (L : List Int) : Prop := L.length = E.length ∧ ∀ i, i < E.length → a_g (E.getD i (none, [])).1 (L.getD i 0) ∧ ∀ t ∈ (E.getD i (none, [])).2, a_to g (L.getD i 0) t
def a_lo (id : Nat) : Int := if id = e_OUT then -9223372036854775808 else -2147483648
def a_hi (id : Nat) : Int := if id = e_OUT then 9223372036854775807 else 2147483647
/-- what cells hold always -/
def a_M (M : EM) : Prop := ∀ id k, id ≠ 5 → a_lo id ≤ M id k ∧ M id k ≤ a_hi id ∧ ∀ s ∈ a_mi id, s.1 ≤ k → k ≤ s.2.1 → s.2.2.1 ≤ M id k ∧ M id k ≤ s.2.2.2
def a_fr (W : AW) (M M' : EM) : Prop := ∀ id k, (∀ w ∈ W, ¬ (w.1 = id ∧ w.2.1 ≤ k ∧ k ≤ w.2.2)) → M' id k = M id k
def a_dead1 : AV → Bool
  | some (.inl q) => decide (q.2.1 < q.1)
  | some (.inr []) => true
  | _ => false
def a_dead (E : AE) : Bool := E.any (fun q => a_dead1 q.1)
def a_kill (E : AE) : AE := match E with
  | [] => []
  | q :: t => (a_r [], q.2) :: t
def a_leq : AV → AV → Bool
  | _, none => true
  | some (.inl p), some (.inl q) => decide (p.2.1 < p.1) || (decide (q.1 ≤ p.1) && decide (p.2.1 ≤ q.2.1) && (!q.2.2 || p.2.2 || decide (0 < p.1) || decide (p.2.1 < 0)))
  | some (.inr a), some (.inr b) => a.all (fun x => b.contains x)
  | _, _ => false
def a_join : AV → AV → AV
  | some (.inl p), some (.inl q) => some (.inl (if p.1 ≤ q.1 then p.1 else q.1, if p.2.1 ≤ q.2.1 then q.2.1 else p.2.1, p.2.2 && q.2.2))
  | some (.inr a), some (.inr b) => some (.inr (a ++ b))
  | _, _ => none
def a_ids : AV → Option (List Int)
  | some (.inr a) => some a
  | _ => none
def a_iv : AV → Option (Int × Int × Bool)
  | some (.inl q) => some q
  | _ => none
def a_T32 : AV := a_i (-2147483648) 2147483647
def a_T64 : AV := a_i (-9223372036854775808) 9223372036854775807
def a_clip (lo hi : Int) : AV := if -2147483648 ≤ lo ∧ hi ≤ 2147483647 then a_i lo hi else a_T32
def a_nz (q : Int × Int × Bool) : Bool := q.2.2 || decide (0 < q.1) || decide (q.2.1 < 0)
def a_b2 (k : Nat) (x y : Int × Int × Bool) : Option AV := match k with
  | 10 => some (a_clip (x.1 + y.1) (x.2.1 + y.2.1))
  | 11 => some (a_clip (x.1 - y.2.1) (x.2.1 - y.1))
  | 12 => some a_T32
  | 13 => if a_nz y = true then some (if 0 ≤ x.1 ∧ x.2.1 ≤ 2147483647 ∧ 0 < y.1 ∧ y.1 = y.2.1 then a_i 0 (x.2.1 / y.1) else if 2 ≤ y.1 ∧ -2147483648 ≤ x.1 ∧ x.2.1 ≤ 2147483647 then a_i (-1073741824) 1073741824 else a_T32) else none
  | 14 => if a_nz y = true then (if 0 ≤ x.1 ∧ 0 < y.1 ∧ y.1 = y.2.1 then some (a_i 0 (y.1 - 1)) else if -2147483648 ≤ y.1 ∧ y.2.1 ≤ 2147483648 then some a_T32 else none) else none
  | 15 => some a_T32
  | 16 => some a_T32
  | 17 => some a_T32
  | 18 => some a_T32
  | 19 => some a_T32
  | 20 => some a_T32
  | 30 => some a_T64
  | 31 => some a_T64
  | 32 => some a_T64
  | 33 => if a_nz y = true then some a_T64 else none
  | 34 => some (a_i (if x.1 < y.1 then y.1 else x.1) (if x.2.1 < y.2.1 then y.2.1 else x.2.1))
  | 35 => some (a_i (if y.1 < x.1 then y.1 else x.1) (if y.2.1 < x.2.1 then y.2.1 else x.2.1))
  | _ => if 40 ≤ k ∧ k < 46 ∨ 54 ≤ k ∧ k < 60 then some (a_i 0 1) else none
def a_b1 (k : Nat) (x : Int × Int × Bool) : Option AV := match k with
  | 1 => some (some (.inl x))
  | 21 => some a_T32
  | 22 => some (some (.inl x))
  | 23 => some (if -2147483648 ≤ x.1 ∧ x.2.1 ≤ 2147483647 then some (.inl x) else a_T32)
  | 24 => some (a_i (-128) 127)
  | 25 => some (a_i (-32768) 32767)
  | 36 => if x.2.1 ≤ 2147483647 then some a_T32 else none
  | _ => if 46 ≤ k ∧ k < 52 then some (a_i 0 1) else none
/-- a cell's bounds, at places lo .. hi -/
def a_rd (id : Nat) (lo hi : Int) : AV := match (a_mi id).find? (fun s => decide ((s.1 : Int) ≤ lo) && decide (hi ≤ (s.2.1 : Int))) with
  | some s => a_i s.2.2.1 s.2.2.2
  | none => a_i (a_lo id) (a_hi id)
def a_ok (W : AW) (id : Nat) (lo hi : Int) (v : Int × Int × Bool) : Bool :=
  decide (hi < lo) || decide (v.2.1 < v.1) ||
  (decide (0 ≤ lo) && decide (8 ≤ id) && decide (a_lo id ≤ v.1) && decide (v.2.1 ≤ a_hi id) &&
  (a_mi id).all (fun s => decide (hi < (s.1 : Int)) || decide ((s.2.1 : Int) < lo) || (decide (s.2.2.1 ≤ v.1) && decide (v.2.1 ≤ s.2.2.2))) &&
  W.any (fun w => decide (w.1 = id) && decide ((w.2.1 : Int) ≤ lo) && decide (hi ≤ (w.2.2 : Int))))
def a_all {α : Type} (f : Int → Option α) (j : α → α → α) : List Int → Option α
  | [] => none
  | [x] => f x
  | x :: t => match f x, a_all f j t with
    | some a, some b => some (j a b)
    | _, _ => none
/-- an array's element, or a field: of each object that it may be -/
def a_ld (k : Nat) (i : Int × Int × Bool) (id : Int) : Option AV :=
  if 0 ≤ id ∧ id.toNat < e_N ∧ 0 < id ∧ 0 ≤ i.1 ∧ i.2.1 < ((e_sh id.toNat).2 : Int) then
    (if k = 60 then (if (e_sh id.toNat).1 = 100 then some (a_rd id.toNat i.1 i.2.1) else none)
    else if k = 62 then (if 102 ≤ (e_sh id.toNat).1 then some (a_r ((List.range (i.2.1 - i.1 + 1).toNat).map (fun j => e_gr id.toNat (i.1.toNat + j)))) else none)
    else none) else none
def a_fld (key : Nat) (id : Int) : Option AV :=
  if e_isO (key / 64) id then some (if e_fty key = 2 then a_r [e_gr id.toNat (key % 64)] else a_rd id.toNat (key % 64 : Nat) (key % 64 : Nat)) else none
def a_len (id : Int) : Option AV := if 0 < id ∧ id.toNat < e_N ∧ 100 ≤ (e_sh id.toNat).1 then some (a_i (e_sh id.toNat).2 (e_sh id.toNat).2) else none
/-! conditions -/
def a_mt (r : Nat) (x y : Int × Int × Bool) : (Int × Int × Bool) × (Int × Int × Bool) := match r with
  | 0 => let a := (if x.1 ≤ y.1 then y.1 else x.1, if x.2.1 ≤ y.2.1 then x.2.1 else y.2.1, x.2.2 || y.2.2); (a, a)
  | 1 => if y.1 = y.2.1 then ((if x.1 = y.1 then x.1 + 1 else x.1, if x.2.1 = y.1 then x.2.1 - 1 else x.2.1, x.2.2 || decide (y.1 = 0)), y) else (x, y)
  | 2 => ((x.1, if x.2.1 ≤ y.2.1 - 1 then x.2.1 else y.2.1 - 1, x.2.2), (if y.1 ≤ x.1 + 1 then x.1 + 1 else y.1, y.2.1, y.2.2))
  | 3 => ((if x.1 ≤ y.1 then y.1 else x.1, x.2.1, x.2.2), (y.1, if y.2.1 ≤ x.2.1 then y.2.1 else x.2.1, y.2.2))
  | 4 => ((if x.1 ≤ y.1 + 1 then y.1 + 1 else x.1, x.2.1, x.2.2), (y.1, if y.2.1 ≤ x.2.1 - 1 then y.2.1 else x.2.1 - 1, y.2.2))
  | _ => ((x.1, if x.2.1 ≤ y.2.1 then x.2.1 else y.2.1, x.2.2), (if y.1 ≤ x.1 then x.1 else y.1, y.2.1, y.2.2))
/-- a local, or one and a number more -/
def a_vc (E : AE) : e_X → Option (Nat × Int)
  | .mulL k e => if k < 0 then a_vc E e else if k = 10 then (match e with
      | .add (.var i) (.num c) => (match (E.getD i (none, [])).1 with
        | some (.inl q) => if -2147483648 ≤ q.1 + c ∧ q.2.1 + c ≤ 2147483647 then some (i, c) else none
        | _ => none)
      | _ => none) else none
  | .var i => some (i, 0)
  | _ => none
def a_bad (q : Int × Int × Bool) : Bool := decide (q.2.1 < q.1)
/-- local i is z, moved back by c -/
def a_cut (E : AE) (i : Option (Nat × Int)) (z : Int × Int × Bool) : AE := match i with
  | none => E
  | some ic => match (E.getD ic.1 (none, [])).1 with
    | some (.inl q) => E.set ic.1 (some (.inl (if q.1 ≤ z.1 - ic.2 then z.1 - ic.2 else q.1, if q.2.1 ≤ z.2.1 - ic.2 then q.2.1 else z.2.1 - ic.2, q.2.2 || (decide (ic.2 = 0) && z.2.2))), (E.getD ic.1 (none, [])).2)
    | _ => E
def a_cut2 (E : AE) (i j : Option (Nat × Int)) (z : (Int × Int × Bool) × (Int × Int × Bool)) : AE :=
  if a_bad z.1 || a_bad z.2 then a_kill E else a_cut (a_cut E i z.1) j z.2
def a_cmp (E : AE) (e : e_X) (k : Nat) (xs : List AV) : Option AR := match xs with
  | [some (.inl x), some (.inl y)] => if k < 46 ∨ 54 ≤ k then (match e with
    | .add ea eb => some ([a_i 0 1], a_cut2 E (a_vc E ea) (a_vc E eb) (a_mt (if k < 46 then k - 40 else k - 54) x y), a_cut2 E (a_vc E ea) (a_vc E eb) (a_mt (e_ng (if k < 46 then k - 40 else k - 54)) x y))
    | _ => some ([a_i 0 1], E, E)) else none
  | [some (.inl x)] => if 46 ≤ k ∧ k < 52 then some ([a_i 0 1], a_cut2 E (a_vc E e) none (a_mt (k - 46) x (0, 0, false)), a_cut2 E (a_vc E e) none (a_mt (e_ng (k - 46)) x (0, 0, false))) else none
  | _ => none
def a_nul (E : AE) (e : e_X) (isn : Bool) (ids : List Int) : AR :=
  let yes := ids.filter (fun x => decide (x = -1) == isn)
  let no := ids.filter (fun x => !(decide (x = -1) == isn))
  match e with
  | .var i => ([a_i 0 1], E.set i (a_r yes, (E.getD i (none, [])).2), E.set i (a_r no, (E.getD i (none, [])).2))
  | _ => ([a_i 0 1], E, E)
def a_opx (E : AE) (k : Nat) (e : e_X) (xs : List AV) : Option AR :=
  if k = 2 ∨ k = 3 then (match xs with
    | [some (.inl x)] => if x.1 = x.2.1 then some ([a_r [x.1]], E, E) else none
    | _ => none)
  else if k = 63 then (match xs with
    | [some (.inr ids)] => (a_all a_len a_join ids).map (fun v => ([v], E, E))
    | _ => none)
  else if k = 60 ∨ k = 62 then (match xs with
    | [some (.inr ids), some (.inl i)] => (a_all (a_ld k i) a_join ids).map (fun v => ([v], E, E))
    | _ => none)
  else if k = 52 ∨ k = 53 then (match xs with
    | [some (.inr ids)] => some (a_nul E e (k == 52) ids)
    | _ => none)
  else if 40 ≤ k ∧ k < 60 then a_cmp E e k xs
  else (match xs with
    | [some (.inl x), some (.inl y)] => (a_b2 k x y).map (fun v => ([v], E, E))
    | [some (.inl x)] => (a_b1 k x).map (fun v => ([v], E, E))
    | _ => none)
def a_is (c : Int) : e_X → Bool
  | .num v => decide (v = c)
  | .mulL k e => if k < 0 then a_is c e else false
  | _ => false
def a_ite (a b : e_X) (E T F : AE) (ra rb : Option AR) : Option AR :=
  match (if a_dead T then some none else ra.map some), (if a_dead F then some none else rb.map some) with
  | some (some p), some (some q) => (match p.1, q.1 with
    | [x], [y] => some ([a_join x y], (if a_is 0 b then p.2.1 else if a_is 0 a then q.2.1 else E), (if a_is 1 b then p.2.2 else if a_is 1 a then q.2.2 else E))
    | _, _ => none)
  | some (some p), some none => some (p.1, (if a_is 0 a then a_kill E else if a_is 0 b then p.2.1 else E), (if a_is 1 a then a_kill E else if a_is 1 b then p.2.2 else E))
  | some none, some (some q) => some (q.1, (if a_is 0 b then a_kill E else if a_is 0 a then q.2.1 else E), (if a_is 1 b then a_kill E else if a_is 1 a then q.2.2 else E))
  | _, _ => none
def a_ex (call : Nat → List AV → Option AV) : e_X → AE → Option AR
  | .num v, E => some ([a_i v v], E, E)
  | .var i, E => if i < E.length then some ([(E.getD i (none, [])).1], E, E) else none
  | .add a b, E => match a_ex call a E, a_ex call b E with
    | some p, some q => some (p.1 ++ q.1, E, E)
    | _, _ => none
  | .mulL k a, E => if k < 0 then a_ex call a E else match a_ex call a E with
    | none => none
    | some p => if 5000 ≤ k then (call (k.toNat - 5000) p.1).map (fun v => ([v], E, E)) else a_opx E k.toNat a p.1
  | .mulR a k, E => match a_ex call a E with
    | some ([some (.inr ids)], _, _) => (a_all (a_fld k.toNat) a_join ids).map (fun v => ([v], E, E))
    | _ => none
  | .sub c (.add a b), E => match a_ex call c E with
    | none => none
    | some p => if p.1.length = 1 then a_ite a b E p.2.1 p.2.2 (a_ex call a p.2.1) (a_ex call b p.2.2) else none
  | _, _ => none
/-- what a local is bound to with its value -/
def a_tag (E : AE) : e_X → AT
  | .var i => (E.getD i (none, [])).2
  | .mulL k e => if k = 10 then (match e with
      | .add (.var i) (.num c) => (match (E.getD i (none, [])).1 with
        | some (.inl q) => if -2147483648 ≤ q.1 + c ∧ q.2.1 + c ≤ 2147483647 then (E.getD i (none, [])).2.map (fun t => (t.1, t.2.1, if t.2.1 then t.2.2 + c else t.2.2 - c)) else []
        | _ => [])
      | _ => []) else []
  | _ => []
/-- the ways of a choice, each with its value -/
def a_alts (call : Nat → List AV → Option AV) : e_X → AE → Option (List (AV × AT × AE))
  | .mulL k a, E => if k < 0 then a_alts call a E else match a_ex call (.mulL k a) E with
    | some ([x], _, _) => some [(x, a_tag E (.mulL k a), E)]
    | _ => none
  | .sub c (.add a b), E => match a_ex call c E with
    | none => none
    | some p => if p.1.length = 1 then (match (if a_dead p.2.1 then some [] else a_alts call a p.2.1), (if a_dead p.2.2 then some [] else a_alts call b p.2.2) with
      | some x, some y => some (x ++ y)
      | _, _ => none) else none
  | e, E => match a_ex call e E with
    | some ([x], _, _) => some [(x, a_tag E e, E)]
    | _ => none
def a_wr (W : AW) (kd : Nat) (i v : Int × Int × Bool) (id : Int) : Bool := decide (8 ≤ id) && decide (id.toNat < e_N) && decide ((e_sh id.toNat).1 = kd) && decide (0 ≤ i.1) && decide (i.2.1 < ((e_sh id.toNat).2 : Int)) && a_ok W id.toNat i.1 i.2.1 v
def a_wf (W : AW) (key : Nat) (v : Int × Int × Bool) (id : Int) : Bool := decide (e_isO (key / 64) id) && decide (e_fty key ≠ 2) && a_ok W id.toNat (key % 64 : Nat) (key % 64 : Nat) v
def a_full (W : AW) (x y : Int) : Bool := decide (e_isO 100 x) && decide (e_isO 100 y) && decide (a_mi x.toNat = a_mi y.toNat) && (a_mi y.toNat).all (fun s => decide (s.1 = 0) && decide ((e_sh y.toNat).2 ≤ s.2.1 + 1)) && decide (x.toNat ≠ e_OUT) && decide (y.toNat ≠ e_OUT) && W.any (fun w => decide (w.1 = y.toNat) && decide (w.2.1 = 0) && decide ((e_sh y.toNat).2 ≤ w.2.2 + 1))
def a_st (W : AW) (call : Nat → List AV → Option AV) (s : e_X) (E : AE) : Option AE := match s with
  | .mulL k e =>
    if k = 64 then (match a_ex call e E with
      | some ([some (.inr ids), some (.inl i), some (.inl v)], _, _) => if ids.all (a_wr W 100 i v) then some E else none
      | _ => none)
    else if k = 66 then (match a_ex call e E with
      | some ([some (.inr as), some (.inl sp), some (.inr bs), some (.inl dp), some (.inl n)], _, _) => if (as.all fun x => bs.all fun y => a_full W x y && decide (n.2.1 ≤ ((e_sh x.toNat).2 : Int)) && decide (n.2.1 ≤ ((e_sh y.toNat).2 : Int))) = true ∧ sp.1 = 0 ∧ sp.2.1 = 0 ∧ dp.1 = 0 ∧ dp.2.1 = 0 ∧ 0 ≤ n.1 then some E else none
      | _ => none)
    else if k = 67 then (match e with
      | .mulR (.add o x) key => (match a_ex call o E, a_ex call x E with
        | some ([some (.inr ids)], _, _), some ([some (.inl v)], _, _) => if ids.all (fun id => match a_fld key.toNat id with
            | some (some (.inl q)) => (match a_b2 10 q v with
              | some (some (.inl z)) => a_wf W key.toNat z id && true
              | _ => false)
            | _ => false) then some E else none
        | _, _ => none)
      | _ => none)
    else if 200 ≤ k ∧ k < 300 then (match e with
      | .num c => if k.toNat - 200 < E.length then (match (E.getD (k.toNat - 200) (none, [])).1 with
        | some (.inl q) => if -2147483648 ≤ q.1 + c ∧ q.2.1 + c ≤ 2147483647 then some (E.set (k.toNat - 200) (a_i (q.1 + c) (q.2.1 + c), a_tag E (.mulL 10 (.add (.var (k.toNat - 200)) (.num c))))) else some (E.set (k.toNat - 200) (a_T32, []))
        | _ => none) else none
      | _ => none)
    else if 5000 ≤ k then (match a_ex call s E with
      | some _ => some E
      | none => none)
    else none
  | .mulR e key => (match a_ex call e E with
    | some ([some (.inr ids), some (.inl v)], _, _) => if ids.all (a_wf W key.toNat v) then some E else none
    | _ => none)
  | _ => none
def a_tree (W : AW) (call : Nat → List AV → Option AV) (jmp : Nat → AE → Bool) (rho : AV) : e_X → AE → Bool
  | .mulL k e, E =>
    if k < 0 then a_tree W call jmp rho e E
    else if k = 1 then (match a_ex call e E with
      | some ([x], _, _) => a_leq x rho
      | _ => false)
    else if k = 2 then a_leq (a_i 0 0) rho
    else if k = 4 then (match e with
      | .num l => jmp l.toNat E
      | _ => false)
    else false
  | .sub c (.add a b), E => match a_ex call c E with
    | none => false
    | some p => (decide (p.1.length = 1) && (a_dead p.2.1 || a_tree W call jmp rho a p.2.1)) && (a_dead p.2.2 || a_tree W call jmp rho b p.2.2)
  | .add s t, E => match s with
    | .mulL k e => if 100 ≤ k ∧ k < 200 then (match a_alts call e E with
        | some l => l.all (fun q => decide (k.toNat - 100 < q.2.2.length) && a_tree W call jmp rho t (q.2.2.set (k.toNat - 100) (q.1, q.2.1)))
        | none => false)
      else (match a_st W call (.mulL k e) E with
        | some E' => a_tree W call jmp rho t E'
        | none => false)
    | s => match a_st W call s E with
      | some E' => a_tree W call jmp rho t E'
      | none => false
  | _, _ => false
abbrev AA : Type := List (Nat × AE × Nat × Bool)
def a_tle (c : Nat) (T H : AT) : Bool := H.all (fun t => decide (t.1 = c) || T.any (fun u => decide (u.1 = t.1) && (u.2.1 == t.2.1) && decide (t.2.2 ≤ u.2.2)))
/-- E is no more than H, but for what is bound to local c's place -/
def a_le (c : Nat) : AE → AE → Bool
  | [], [] => true
  | p :: E, q :: H => a_leq p.1 q.1 && a_tle c p.2 q.2 && a_le c E H
  | _, _ => false
def a_on (c : Nat) (up : Bool) (E : AE) : Bool := (E.getD c (none, [])).2.any (fun t => decide (t.1 = c) && (t.2.1 == up) && decide (1 ≤ t.2.2))
/-- what holds at a loop's head -/
def a_head (c : Nat) (up : Bool) (hv : List (Nat × AV × AT)) : Nat → AE → AE
  | _, [] => []
  | i, q :: E => (match q_find hv i with
    | some a => (a.1, if i = c then (c, up, 0) :: a.2 else a.2)
    | none => (q.1, q.2.filter (fun t => !(t.1 == c)))) :: a_head c up hv (i + 1) E
def a_act (A : AA) (l : Nat) : Option (AE × Nat × Bool) := q_find A l
def a_free (c : Nat) (A : AA) : Bool := A.all (fun q => decide (q.2.2.1 ≠ c) && q.2.1.all (fun p => p.2.all (fun t => decide (t.1 ≠ c))))
def a_cnt (c : Nat) (H : AE) : Bool := match (H.getD c (none, [])).1 with
  | some (.inl q) => decide (-2147483648 ≤ q.1) && decide (q.2.1 ≤ 2147483647)
  | _ => false
def a_pd : List Nat → List AV → AE
  | [], _ => []
  | _, [] => []
  | t :: P, a :: as => if t = 1 then (a, []) :: (a_i 0 0, []) :: a_pd P as else (a, []) :: a_pd P as
def a_ent (u : Nat) (xs : List AV) : AE := a_pd (e_pt u) xs ++ List.replicate (e_nl u - (a_pd (e_pt u) xs).length) (a_i 0 0, [])
def a_rok (u : Nat) (xs : List AV) : Bool := match q_rc (e_vm u) with
  | none => true
  | some ci => match xs with
    | some (.inr ids) :: _ => ids.all (fun id => decide (e_isO ci id))
    | _ => false
/-- the whole analysis, n labels and calls deep -/
def a_an (W : AW) (orc : Nat → List AV → Option AV) : Nat → Nat → AA → AE → e_X → Bool
  | 0, _, _, _, _ => false
  | n + 1, v, A, E, t => a_tree W
      (fun u xs => match orc u xs with
        | some r => some r
        | none => if a_rok u xs && a_an W orc n u [] (a_ent u xs) (.mulL 4 (.num 0)) then some (a_rho u) else none)
      (fun l E1 => match a_act A l with
        | some q => a_le q.2.1 E1 q.1 && a_on q.2.1 q.2.2 E1
        | none => match a_hd v l with
          | some h => a_le h.1 E1 (a_head h.1 h.2.1 h.2.2 0 E1) && a_free h.1 A && a_cnt h.1 (a_head h.1 h.2.1 h.2.2 0 E1) && h.2.2.all (fun p => p.2.2.all (fun t => decide (t.1 ≠ h.1))) && a_an W orc n v ((l, a_head h.1 h.2.1 h.2.2 0 E1, h.1, h.2.1) :: A) (a_head h.1 h.2.1 h.2.2 0 E1) (e_tr v l)
          | none => a_an W orc n v A E1 (e_tr v l))
      (a_rho v) t E
end
section
theorem a_leq_ok {p q : AV} {x : Int} (h : a_leq p q = true) (hx : a_g p x) : a_g q x := by
  match p, q, h, hx with
  | _, none, _, _ => exact trivial
  | some (.inl p), some (.inl q), h, hx =>
    obtain ⟨h1, h2, h3⟩ := hx
    unfold a_leq at h
    simp only [Bool.or_eq_true, Bool.and_eq_true, decide_eq_true_eq, Bool.not_eq_true'] at h
    rcases h with h | ⟨⟨h4, h5⟩, h6⟩
    · omega
    · refine ⟨by omega, by omega, fun hq => ?_⟩
      rcases h6 with ((h6 | h6) | h6) | h6
      · rw [h6] at hq; cases hq
      · exact h3 h6
      · omega
      · omega
  | some (.inr a), some (.inr b), h, hx =>
    unfold a_leq at h
    have := List.all_eq_true.mp h x hx
    exact List.contains_iff_mem.mp this
  | some (.inl _), some (.inr _), h, _ => simp [a_leq] at h
  | some (.inr _), some (.inl _), h, _ => simp [a_leq] at h
  | none, some _, h, _ => simp [a_leq] at h
theorem a_join_ok {p q : AV} {x : Int} (h : a_g p x ∨ a_g q x) : a_g (a_join p q) x := by
  match p, q, h with
  | some (.inl p), some (.inl q), h =>
    show _ ∧ _ ∧ _
    dsimp only
    rcases h with ⟨h1, h2, h3⟩ | ⟨h1, h2, h3⟩
    · refine ⟨by split <;> omega, by split <;> omega, fun hq => ?_⟩
      rw [Bool.and_eq_true] at hq
      exact h3 hq.1
    · refine ⟨by split <;> omega, by split <;> omega, fun hq => ?_⟩
      rw [Bool.and_eq_true] at hq
      exact h3 hq.2
  | some (.inr a), some (.inr b), h => exact List.mem_append.mpr h
  | some (.inl _), some (.inr _), _ => exact trivial
  | some (.inr _), some (.inl _), _ => exact trivial
  | none, _, _ => exact trivial
  | some (.inl _), none, _ => exact trivial
  | some (.inr _), none, _ => exact trivial
theorem a_dead1_ok {p : AV} {x : Int} (h : a_dead1 p = true) (hx : a_g p x) : False := by
  match p, h, hx with
  | some (.inl q), h, hx => have := of_decide_eq_true h; obtain ⟨h1, h2, -⟩ := hx; omega
  | some (.inr []), _, hx => cases hx
theorem a_dead_ok {g : Nat → Int} {E : AE} {L : List Int} (h : a_dead E = true) (hE : a_E g E L) : False := by
  obtain ⟨q, hq, h1⟩ := List.any_eq_true.mp h
  obtain ⟨i, hi, rfl⟩ := List.getElem_of_mem hq
  have h2 := (hE.2 i hi).1
  rw [List.getD_eq_getElem?_getD, List.getElem?_eq_getElem hi] at h2
  exact a_dead1_ok h1 h2
theorem a_gi {lo hi x : Int} (h1 : lo ≤ x) (h2 : x ≤ hi) : a_g (a_i lo hi) x := ⟨h1, h2, fun h => by cases h⟩
theorem a_T32_ok {x : Int} (h : -2147483648 ≤ x ∧ x ≤ 2147483647) : a_g a_T32 x := a_gi h.1 h.2
theorem a_T64_ok {x : Int} (h : -9223372036854775808 ≤ x ∧ x ≤ 9223372036854775807) : a_g a_T64 x := a_gi h.1 h.2
theorem a_w (x : Int) : -2147483648 ≤ e_w x ∧ e_w x ≤ 2147483647 := by unfold e_w; omega
theorem a_w_id {x : Int} (h1 : -2147483648 ≤ x) (h2 : x ≤ 2147483647) : e_w x = x := by unfold e_w; omega
theorem a_W' (x : Int) : -9223372036854775808 ≤ e_W x ∧ e_W x ≤ 9223372036854775807 := by unfold e_W; omega
theorem a_bit (f : Int32 → Int32 → Int32) (a b : Int) : -2147483648 ≤ e_bit f a b ∧ e_bit f a b ≤ 2147483647 := e_rng _
theorem a_clip_ok {lo hi x : Int} (h1 : lo ≤ x) (h2 : x ≤ hi) : a_g (a_clip lo hi) (e_w x) := by
  unfold a_clip
  split
  · rename_i h; rw [a_w_id (by omega) (by omega)]; exact a_gi h1 h2
  · exact a_T32_ok (a_w x)
theorem a_nz_ok {q : Int × Int × Bool} {x : Int} (h : a_nz q = true) (hx : a_g (some (.inl q)) x) : x ≠ 0 := by
  unfold a_nz at h
  simp only [Bool.or_eq_true, decide_eq_true_eq] at h
  obtain ⟨h1, h2, h3⟩ := hx
  rcases h with (h | h) | h
  · exact h3 h
  · omega
  · omega
theorem a_tmod {a b : Int} (h1 : -2147483648 ≤ b) (h2 : b ≤ 2147483648) (h0 : b ≠ 0) : -2147483648 ≤ a.tmod b ∧ a.tmod b ≤ 2147483647 := by
  have h6 : (a.tmod b).natAbs < b.natAbs := by
    rw [Int.natAbs_tmod]; exact Nat.mod_lt _ (by omega)
  revert h6
  generalize a.tmod b = z
  intro h6
  omega
theorem a_b2_ok {k : Nat} {x y : Int × Int × Bool} {v : AV} {a b : Int} (h : a_b2 k x y = some v) (ha : a_g (some (.inl x)) a) (hb : a_g (some (.inl y)) b) : ∃ z, e_b2 k a b = some z ∧ a_g v z := by
  have ha' := ha
  have hb' := hb
  obtain ⟨a1, a2, a3⟩ := ha
  obtain ⟨b1, b2, b3⟩ := hb
  unfold a_b2 at h
  split at h
  · cases h; exact ⟨_, rfl, a_clip_ok (by omega) (by omega)⟩
  · cases h; exact ⟨_, rfl, a_clip_ok (by omega) (by omega)⟩
  · cases h; exact ⟨_, rfl, a_T32_ok (a_w _)⟩
  · split at h
    · rename_i hz
      have h0 := a_nz_ok hz hb'
      cases h
      refine ⟨_, if_neg h0, ?_⟩
      split
      · rename_i hc
        obtain ⟨c1, c2, c3, c4⟩ := hc
        have hbc : b = y.1 := by omega
        have hd : a.tdiv b = a / y.1 := by rw [hbc, Int.tdiv_eq_ediv_of_nonneg (by omega)]
        have hd1 : 0 ≤ a / y.1 := Int.ediv_nonneg (by omega) (by omega)
        have hd2 : a / y.1 ≤ x.2.1 / y.1 := Int.ediv_le_ediv c3 a2
        have hd3 : a / y.1 ≤ a := Int.ediv_le_self _ (by omega)
        rw [hd, a_w_id (by omega) (by omega)]
        exact a_gi hd1 hd2
      · split
        · rename_i hc
          obtain ⟨c1, c2, c3⟩ := hc
          have hq : (a.tdiv b).natAbs ≤ 1073741824 := by
            rw [Int.natAbs_tdiv]
            refine (show a.natAbs / b.natAbs ≤ 1073741824 from ?_)
            have h1 : 2 ≤ b.natAbs := by omega
            have h2 : a.natAbs ≤ 2147483648 := by omega
            have h3 : a.natAbs / b.natAbs ≤ a.natAbs / 2 := Nat.div_le_div_left h1 (by decide)
            omega
          revert hq
          generalize a.tdiv b = z
          intro hq
          rw [a_w_id (by omega) (by omega)]
          exact a_gi (by omega) (by omega)
        · exact a_T32_ok (a_w _)
    · cases h
  · split at h
    · rename_i hz
      have h0 := a_nz_ok hz hb'
      split at h
      · rename_i hc
        cases h
        obtain ⟨c1, c3, c4⟩ := hc
        have hbc : b = y.1 := by omega
        refine ⟨_, if_neg h0, ?_⟩
        have hd : a.tmod b = a % y.1 := by rw [hbc, Int.tmod_eq_emod_of_nonneg (by omega)]
        have hd1 : 0 ≤ a % y.1 := Int.emod_nonneg _ (by omega)
        have hd2 : a % y.1 < y.1 := Int.emod_lt_of_pos _ c3
        rw [hd]
        exact a_gi hd1 (by omega)
      · split at h
        · rename_i hc
          cases h
          exact ⟨_, if_neg h0, a_T32_ok (a_tmod (by omega) (by omega) h0)⟩
        · cases h
    · cases h
  · cases h; exact ⟨_, rfl, a_T32_ok (a_bit _ _ _)⟩
  · cases h; exact ⟨_, rfl, a_T32_ok (a_bit _ _ _)⟩
  · cases h; exact ⟨_, rfl, a_T32_ok (a_bit _ _ _)⟩
  · cases h; exact ⟨_, rfl, a_T32_ok (a_bit _ _ _)⟩
  · cases h; exact ⟨_, rfl, a_T32_ok (a_bit _ _ _)⟩
  · cases h; exact ⟨_, rfl, a_T32_ok (a_bit _ _ _)⟩
  · cases h; exact ⟨_, rfl, a_T64_ok (a_W' _)⟩
  · cases h; exact ⟨_, rfl, a_T64_ok (a_W' _)⟩
  · cases h; exact ⟨_, rfl, a_T64_ok (a_W' _)⟩
  · split at h
    · rename_i hz
      cases h
      exact ⟨_, if_neg (a_nz_ok hz hb'), a_T64_ok (a_W' _)⟩
    · cases h
  · cases h; exact ⟨_, rfl, a_gi (by split <;> split <;> omega) (by split <;> split <;> omega)⟩
  · cases h; exact ⟨_, rfl, a_gi (by split <;> split <;> omega) (by split <;> split <;> omega)⟩
  · split at h
    · rename_i hk
      cases h
      have key : ∀ c : Bool, a_g (a_i 0 1) (if c = true then 1 else 0) := fun c => by cases c <;> exact a_gi (by decide) (by decide)
      rcases hk with hk | hk
      · obtain ⟨n, rfl⟩ : ∃ n, k = 40 + n := ⟨k - 40, by omega⟩
        exact ⟨_, (e_cr2 (by omega) a b).1, key _⟩
      · obtain ⟨n, rfl⟩ : ∃ n, k = 54 + n := ⟨k - 54, by omega⟩
        exact ⟨_, (e_cr2 (by omega) a b).2.1, key _⟩
    · cases h
theorem a_b1_ok {k : Nat} {x : Int × Int × Bool} {v : AV} {a : Int} (h : a_b1 k x = some v) (ha : a_g (some (.inl x)) a) : ∃ z, e_b1 k a = some z ∧ a_g v z := by
  have ha' := ha
  obtain ⟨a1, a2, a3⟩ := ha
  unfold a_b1 at h
  split at h
  · cases h; exact ⟨_, rfl, ha'⟩
  · cases h; exact ⟨_, rfl, a_T32_ok (a_w _)⟩
  · cases h; exact ⟨_, rfl, ha'⟩
  · cases h
    refine ⟨_, rfl, ?_⟩
    split
    · rename_i hc; rw [a_w_id (by omega) (by omega)]; exact ha'
    · exact a_T32_ok (a_w _)
  · cases h; exact ⟨_, rfl, a_gi (by omega) (by omega)⟩
  · cases h; exact ⟨_, rfl, a_gi (by omega) (by omega)⟩
  · split at h
    · rename_i hc
      cases h
      refine ⟨_, rfl, ?_⟩
      split
      · exact a_T32_ok ⟨by omega, by omega⟩
      · exact a_T32_ok (a_w _)
    · cases h
  · split at h
    · rename_i hk
      cases h
      have key : ∀ c : Bool, a_g (a_i 0 1) (if c = true then 1 else 0) := fun c => by cases c <;> exact a_gi (by decide) (by decide)
      obtain ⟨n, rfl⟩ : ∃ n, k = 46 + n := ⟨k - 46, by omega⟩
      exact ⟨_, (e_cr2 (by omega) a 0).2.2, key _⟩
    · cases h
theorem a_mt_ok {r : Nat} {x y : Int × Int × Bool} {a b : Int} (hr : e_crb r a b = true) (ha : a_g (some (.inl x)) a) (hb : a_g (some (.inl y)) b) : a_g (some (.inl (a_mt r x y).1)) a ∧ a_g (some (.inl (a_mt r x y).2)) b := by
  have ha' := ha
  have hb' := hb
  obtain ⟨a1, a2, a3⟩ := ha
  obtain ⟨b1, b2, b3⟩ := hb
  unfold a_mt
  split
  · have hab : a = b := of_decide_eq_true hr
    subst hab
    have : a_g (some (.inl (if x.1 ≤ y.1 then y.1 else x.1, if x.2.1 ≤ y.2.1 then x.2.1 else y.2.1, x.2.2 || y.2.2))) a := by
      refine ⟨by dsimp only; split <;> omega, by dsimp only; split <;> omega, fun h => ?_⟩
      dsimp only at h
      rw [Bool.or_eq_true] at h
      exact h.elim a3 b3
    exact ⟨this, this⟩
  · have hab : a ≠ b := of_decide_eq_true hr
    split
    · rename_i hy
      refine ⟨⟨by dsimp only; split <;> omega, by dsimp only; split <;> omega, fun h => ?_⟩, hb'⟩
      dsimp only at h
      rw [Bool.or_eq_true, decide_eq_true_eq] at h
      rcases h with h | h
      · exact a3 h
      · omega
    · exact ⟨ha', hb'⟩
  · have hab : a < b := of_decide_eq_true hr
    exact ⟨⟨a1, by dsimp only; split <;> omega, a3⟩, ⟨by dsimp only; split <;> omega, b2, b3⟩⟩
  · have hab : b ≤ a := of_decide_eq_true hr
    exact ⟨⟨by dsimp only; split <;> omega, a2, a3⟩, ⟨b1, by dsimp only; split <;> omega, b3⟩⟩
  · have hab : b < a := of_decide_eq_true hr
    exact ⟨⟨by dsimp only; split <;> omega, a2, a3⟩, ⟨b1, by dsimp only; split <;> omega, b3⟩⟩
  · rename_i h0 h1 h2 h3 h4
    have hab : a ≤ b := by
      unfold e_crb at hr
      split at hr
      · exact absurd rfl (h0 )
      · exact absurd rfl (h1 )
      · exact absurd rfl (h2 )
      · exact absurd rfl (h3 )
      · exact absurd rfl (h4 )
      · exact of_decide_eq_true hr
    exact ⟨⟨a1, by dsimp only; split <;> omega, a3⟩, ⟨by dsimp only; split <;> omega, b2, b3⟩⟩
/-! reads -/
theorem a_rd_ok {M : EM} {id k : Nat} {lo hi : Int} (hM : a_M M) (h5 : id ≠ 5) (h1 : lo ≤ (k : Int)) (h2 : (k : Int) ≤ hi) : a_g (a_rd id lo hi) (M id k) := by
  obtain ⟨m1, m2, m3⟩ := hM id k h5
  unfold a_rd
  split
  · rename_i s hs
    have hp := List.find?_some hs
    have hm := List.mem_of_find?_eq_some hs
    simp only [Bool.and_eq_true, decide_eq_true_eq] at hp
    have := m3 s hm (by omega) (by omega)
    exact a_gi this.1 this.2
  · exact a_gi m1 m2
theorem a_ld_ok {M : EM} {k : Nat} {i : Int × Int × Bool} {id j : Int} {v : AV} (h : a_ld k i id = some v) (hM : a_M M) (hj : a_g (some (.inl i)) j) : ∃ z, e_op k [id, j] M = some z ∧ a_g v z := by
  obtain ⟨j1, j2, -⟩ := hj
  unfold a_ld at h
  split at h
  · rename_i hc
    obtain ⟨c1, c2, c3, c4, c5⟩ := hc
    have hne : id.toNat ≠ 0 := by omega
    have hsz : e_sz M id.toNat = (e_sh id.toNat).2 := if_neg hne
    split at h
    · rename_i hk
      subst hk
      split at h
      · rename_i h100
        cases h
        have h5 : id.toNat ≠ 5 := fun e => by rw [e] at h100; exact absurd h100 (by decide +kernel)
        refine ⟨M id.toNat j.toNat, ?_, a_rd_ok hM h5 (by omega) (by omega)⟩
        simp only [e_op, if_pos]
        exact if_pos ⟨c1, c2, h100, by omega, by rw [hsz]; omega⟩
      · cases h
    · split at h
      · rename_i hk
        subst hk
        split at h
        · rename_i h102
          cases h
          refine ⟨e_gr id.toNat j.toNat, ?_, ?_⟩
          · simp only [e_op, if_neg (show ¬ (62 = 60) by decide), if_neg (show ¬ (62 = 61) by decide), if_pos]
            exact if_pos ⟨c1, c2, h102, by omega, by rw [hsz]; omega⟩
          · refine List.mem_map.mpr ⟨j.toNat - i.1.toNat, List.mem_range.mpr (by omega), ?_⟩
            rw [show i.1.toNat + (j.toNat - i.1.toNat) = j.toNat by omega]
        · cases h
      · cases h
  · cases h
theorem a_fld_ok {M : EM} {key : Nat} {id : Int} {v : AV} (h : a_fld key id = some v) (hM : a_M M) : ∃ z, e_gf key [id] M = some z ∧ a_g v z := by
  unfold a_fld at h
  split at h
  · rename_i hc
    cases h
    refine ⟨_, if_pos hc, ?_⟩
    split
    · exact List.mem_cons_self
    · refine a_rd_ok hM ?_ (Int.le_refl _) (Int.le_refl _)
      have := hc.1
      omega
  · cases h
theorem a_len_ok {M : EM} {id : Int} {v : AV} (h : a_len id = some v) : ∃ z, e_op 63 [id] M = some z ∧ a_g v z := by
  unfold a_len at h
  split at h
  · rename_i hc
    cases h
    have hne : id.toNat ≠ 0 := by omega
    have hsz : e_sz M id.toNat = (e_sh id.toNat).2 := if_neg hne
    refine ⟨(e_sz M id.toNat : Int), ?_, ?_⟩
    · simp only [e_op, if_pos]
      exact if_pos ⟨by omega, hc.2.1, hc.2.2⟩
    · rw [hsz]; exact a_gi (Int.le_refl _) (Int.le_refl _)
  · cases h
theorem a_all_ok {f : Int → Option AV} : ∀ {ids : List Int} {v : AV}, a_all f a_join ids = some v → ∀ x ∈ ids, ∃ w, f x = some w ∧ ∀ z, a_g w z → a_g v z
  | [], v, h, x, hx => by cases hx
  | [y], v, h, x, hx => by
    have : x = y := List.mem_singleton.mp hx
    subst this
    exact ⟨v, h, fun z hz => hz⟩
  | y :: y2 :: t, v, h, x, hx => by
    unfold a_all at h
    split at h
    · rename_i a b h1 h2
      cases h
      rcases List.mem_cons.mp hx with rfl | hx
      · exact ⟨a, h1, fun z hz => a_join_ok (Or.inl hz)⟩
      · obtain ⟨w, w1, w2⟩ := a_all_ok h2 x hx
        exact ⟨w, w1, fun z hz => a_join_ok (Or.inr (w2 z hz))⟩
    · cases h
/-! environments -/
theorem a_E_at {g : Nat → Int} {E : AE} {L : List Int} (hE : a_E g E L) (i : Nat) : a_g (E.getD i (none, [])).1 (L.getD i 0) := by
  by_cases hi : i < E.length
  · exact (hE.2 i hi).1
  · rw [List.getD_eq_getElem?_getD, List.getElem?_eq_none (by omega)]
    exact trivial
theorem a_E_set {g : Nat → Int} {E : AE} {L : List Int} {i : Nat} {v : AV} {T : AT} (hE : a_E g E L) (hv : a_g v (L.getD i 0)) (hT : ∀ t ∈ T, a_to g (L.getD i 0) t) : a_E g (E.set i (v, T)) L := by
  refine ⟨by rw [List.length_set]; exact hE.1, fun j hj => ?_⟩
  rw [List.length_set] at hj
  by_cases hji : j = i
  · subst hji
    rw [List.getD_eq_getElem?_getD, List.getElem?_set_self hj]
    exact ⟨hv, hT⟩
  · rw [List.getD_eq_getElem?_getD, List.getElem?_set_ne (Ne.symm hji), ← List.getD_eq_getElem?_getD]
    exact hE.2 j hj
theorem a_E_tags {g : Nat → Int} {E : AE} {L : List Int} (hE : a_E g E L) (i : Nat) : ∀ t ∈ (E.getD i (none, [])).2, a_to g (L.getD i 0) t := by
  by_cases hi : i < E.length
  · exact (hE.2 i hi).2
  · rw [List.getD_eq_getElem?_getD, List.getElem?_eq_none (by omega)]
    intro t ht; cases ht
theorem a_kill_no {E : AE} (h : E ≠ []) : a_dead (a_kill E) = true := by
  cases E with
  | nil => exact absurd rfl h
  | cons q t => rfl
theorem a_vc_ok {g : Nat → Int} {E : AE} {L : List Int} (hE : a_E g E L) {K : Nat → List Int → EM → EO} : ∀ {e : e_X} {i : Nat} {c : Int}, a_vc E e = some (i, c) → ∀ M xs, e_ev K L e M = some xs → xs.1 = [L.getD i 0 + c]
  | .mulL k e, i, c, h, M, xs, hx => by
    unfold a_vc at h
    split at h
    · rename_i hk
      unfold e_ev at hx
      rw [if_pos hk] at hx
      exact a_vc_ok hE h M xs hx
    · rename_i hk
      split at h
      · rename_i hk2
        subst hk2
        split at h
        · rename_i i' c'
          split at h
          · rename_i q hq
            split at h
            · rename_i hb
              obtain ⟨rfl, rfl⟩ : i' = i ∧ c' = c := by cases h; exact ⟨rfl, rfl⟩
              have h1 := a_E_at hE i'
              rw [hq] at h1
              obtain ⟨h2, h3, -⟩ := h1
              simp only [e_ev, if_neg hk] at hx
              have h9 : e_op (10 : Int).toNat [L.getD i' 0, c'] M = some (e_w (L.getD i' 0 + c')) := rfl
              simp only [Option.bind_some, List.cons_append, List.nil_append, if_neg (show ¬ ((5000 : Int) ≤ 10) by decide), h9] at hx
              cases hx
              rw [a_w_id (by omega) (by omega)]
            · cases h
          · cases h
        · cases h
      · cases h
  | .var j, i, c, h, M, xs, hx => by
    cases h
    cases hx
    rw [Int.add_zero]
  | .num _, _, _, h, _, _, _ => by cases h
  | .add _ _, _, _, h, _, _, _ => by cases h
  | .sub _ _, _, _, h, _, _, _ => by cases h
  | .neg _, _, _, h, _, _, _ => by cases h
  | .mulR _ _, _, _, h, _, _, _ => by cases h
theorem a_cut_ok {g : Nat → Int} {E : AE} {L : List Int} (hE : a_E g E L) {i : Option (Nat × Int)} {z : Int × Int × Bool} {a : Int} (hi : ∀ s c, i = some (s, c) → a = L.getD s 0 + c) (ha : a_g (some (.inl z)) a) : a_E g (a_cut E i z) L := by
  unfold a_cut
  split
  · exact hE
  · rename_i ic
    have h1 := hi ic.1 ic.2 rfl
    split
    · rename_i q hq
      have h2 := a_E_at hE ic.1
      rw [hq] at h2
      obtain ⟨h3, h4, h5⟩ := h2
      obtain ⟨z1, z2, z3⟩ := ha
      refine a_E_set hE ⟨by dsimp only; split <;> omega, by dsimp only; split <;> omega, fun h => ?_⟩ (a_E_tags hE _)
      dsimp only at h
      rw [Bool.or_eq_true, Bool.and_eq_true, decide_eq_true_eq] at h
      rcases h with h | ⟨h, h'⟩
      · exact h5 h
      · have := z3 h'
        omega
    · exact hE
/-- a_cut keeps what a_vc reads -/
theorem a_cut2_ok {g : Nat → Int} {E : AE} {L : List Int} (hE : a_E g E L) {i j : Option (Nat × Int)} {z : (Int × Int × Bool) × (Int × Int × Bool)} {a b : Int} (hi : ∀ s c, i = some (s, c) → a = L.getD s 0 + c) (hj : ∀ s c, j = some (s, c) → b = L.getD s 0 + c) (ha : a_g (some (.inl z.1)) a) (hb : a_g (some (.inl z.2)) b) : a_E g (a_cut2 E i j z) L := by
  unfold a_cut2
  split
  · rename_i h
    exfalso
    rw [Bool.or_eq_true] at h
    obtain ⟨a1, a2, -⟩ := ha
    obtain ⟨b1, b2, -⟩ := hb
    rcases h with h | h
    · have := of_decide_eq_true h; omega
    · have := of_decide_eq_true h; omega
  · exact a_cut_ok (a_cut_ok hE hi ha) hj hb
end
