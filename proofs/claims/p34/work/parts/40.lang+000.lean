/-! THE TREES: what a method does from one label to the next, over whole numbers: a tree is an Int.Internal.Linear.Expr, read as code (its own meaning as a sum is not used).
Numbers stand for ints, longs, and for objects by their numbers (-1: null). -/
abbrev e_X : Type := Int.Internal.Linear.Expr
abbrev EM : Type := Nat → Nat → Int
abbrev EO : Type := Option (Int × EM)
def e_w (x : Int) : Int := (x + 2147483648) % 4294967296 - 2147483648
def e_W (x : Int) : Int := (x + 9223372036854775808) % 18446744073709551616 - 9223372036854775808
def e_up (M : EM) (a k : Nat) (v : Int) : EM := fun b => if b = a then (fun j => if j = k then v else M b j) else M b
/-- an array's size; that of the script is told by a cell of its own -/
def e_sz (M : EM) (a : Nat) : Nat := if a = 0 then (M 5 1).toNat else (e_sh a).2
def e_b1 (k : Nat) (a : Int) : Option Int := match k with
  | 1 => some a
  | 2 => some a
  | 3 => some a
  | 21 => some (e_w (-a))
  | 22 => some a
  | 23 => some (e_w a)
  | 24 => some ((a + 128) % 256 - 128)
  | 25 => some ((a + 32768) % 65536 - 32768)
  | 36 => some (if 0 ≤ a then a else e_w (0 - a))
  | 46 => some (if a = 0 then 1 else 0)
  | 47 => some (if a ≠ 0 then 1 else 0)
  | 48 => some (if a < 0 then 1 else 0)
  | 49 => some (if 0 ≤ a then 1 else 0)
  | 50 => some (if 0 < a then 1 else 0)
  | 51 => some (if a ≤ 0 then 1 else 0)
  | 52 => some (if a = -1 then 1 else 0)
  | 53 => some (if a ≠ -1 then 1 else 0)
  | _ => none
def e_bit (f : Int32 → Int32 → Int32) (a b : Int) : Int := (f (Int32.ofInt a) (Int32.ofInt b)).toInt
def e_b2 (k : Nat) (a b : Int) : Option Int := match k with
  | 10 => some (e_w (a + b))
  | 11 => some (e_w (a - b))
  | 12 => some (e_w (a * b))
  | 13 => if b = 0 then none else some (e_w (a.tdiv b))
  | 14 => if b = 0 then none else some (a.tmod b)
  | 15 => some (e_bit (fun x y => x &&& y) a b)
  | 16 => some (e_bit (fun x y => x ||| y) a b)
  | 17 => some (e_bit (fun x y => x ^^^ y) a b)
  | 18 => some (e_bit (fun x y => x <<< (y &&& 31)) a b)
  | 19 => some (e_bit (fun x y => x >>> (y &&& 31)) a b)
  | 20 => some (e_bit (fun x y => (x.toUInt32 >>> (y.toUInt32 &&& Int32.toUInt32 31)).toInt32) a b)
  | 30 => some (e_W (a + b))
  | 31 => some (e_W (a - b))
  | 32 => some (e_W (a * b))
  | 33 => if b = 0 then none else some (e_W (a.tdiv b))
  | 34 => some (if a < b then b else a)
  | 35 => some (if b < a then b else a)
  | 40 => some (if a = b then 1 else 0)
  | 41 => some (if a ≠ b then 1 else 0)
  | 42 => some (if a < b then 1 else 0)
  | 43 => some (if b ≤ a then 1 else 0)
  | 44 => some (if b < a then 1 else 0)
  | 45 => some (if a ≤ b then 1 else 0)
  | 54 => some (if a = b then 1 else 0)
  | 55 => some (if a ≠ b then 1 else 0)
  | 56 => some (if a < b then 1 else 0)
  | 57 => some (if b ≤ a then 1 else 0)
  | 58 => some (if b < a then 1 else 0)
  | 59 => some (if a ≤ b then 1 else 0)
  | _ => none
/-- a place of an array of a kind -/
abbrev e_in2 (M : EM) (kd : Nat) (a i : Int) : Prop := 0 ≤ a ∧ a.toNat < e_N ∧ (e_sh a.toNat).1 = kd ∧ 0 ≤ i ∧ i.toNat < e_sz M a.toNat
def e_op (k : Nat) (x : List Int) (M : EM) : Option Int := match x with
  | [a] => if k = 63 then (if 0 ≤ a ∧ a.toNat < e_N ∧ 100 ≤ (e_sh a.toNat).1 then some (e_sz M a.toNat : Int) else none) else e_b1 k a
  | [a, i] => if k = 60 then (if e_in2 M 100 a i then some (M a.toNat i.toNat) else none)
    else if k = 61 then (if e_in2 M 101 a i then some (M a.toNat i.toNat) else none)
    else if k = 62 then (if 0 ≤ a ∧ a.toNat < e_N ∧ 102 ≤ (e_sh a.toNat).1 ∧ 0 ≤ i ∧ i.toNat < e_sz M a.toNat then some (e_gr a.toNat i.toNat) else none)
    else e_b2 k a i
  | _ => none
/-- a field's kind of value: 0 int, 1 long, 2 object, 3 boolean -/
def e_fty (key : Nat) : Nat := match q_ty (key / 64) (key % 64) with
  | .int => 0
  | .boolean => 3
  | .long => 1
  | _ => 2
/-- an object of a class -/
abbrev e_isO (ci : Nat) (a : Int) : Prop := 8 ≤ a ∧ a.toNat < e_N ∧ (e_sh a.toNat).1 = ci
def e_gf (key : Nat) (x : List Int) (M : EM) : Option Int := match x with
  | [a] => if e_isO (key / 64) a then some (if e_fty key = 2 then e_gr a.toNat (key % 64) else M a.toNat (key % 64)) else none
  | _ => none
/-- what pushes values: numbers, locals, one behind the other, an operation on what was pushed (5000 and on: a call), a field's value, a choice (below 0: where the branch begins) -/
def e_ev (K : Nat → List Int → EM → EO) (L : List Int) : e_X → EM → Option (List Int × EM)
  | .num v, M => some ([v], M)
  | .var i, M => some ([L.getD i 0], M)
  | .add a b, M => (e_ev K L a M).bind fun r => (e_ev K L b r.2).bind fun q => some (r.1 ++ q.1, q.2)
  | .mulL k a, M => if k < 0 then e_ev K L a M else (e_ev K L a M).bind fun r => if 5000 ≤ k then (K (k.toNat - 5000) r.1 r.2).bind fun q => some ([q.1], q.2) else (e_op k.toNat r.1 r.2).bind fun v => some ([v], r.2)
  | .mulR a k, M => (e_ev K L a M).bind fun r => (e_gf k.toNat r.1 r.2).bind fun v => some ([v], r.2)
  | .sub c (.add a b), M => (e_ev K L c M).bind fun r => if r.1 = [0] then e_ev K L b r.2 else e_ev K L a r.2
  | _, _ => none
/-- a store into an array of a kind -/
def e_st (kd : Nat) (x : List Int) (M : EM) : Option EM := match x with
  | [a, i, v] => if 8 ≤ a ∧ e_in2 M kd a i then some (e_up M a.toNat i.toNat v) else none
  | _ => none
def e_pf (key : Nat) (x : List Int) (M : EM) : Option EM := match x with
  | [a, v] => if e_isO (key / 64) a ∧ e_fty key ≠ 2 then some (e_up M a.toNat (key % 64) v) else none
  | _ => none
def e_cpm (M : EM) (a0 sp a dp n : Nat) : EM := fun b j => if b = a ∧ dp ≤ j ∧ j < dp + n then M a0 (sp + (j - dp)) else M b j
/-- System.arraycopy of ints -/
def e_cp (x : List Int) (M : EM) : Option EM := match x with
  | [a0, sp, a, dp, n] => if e_isO 100 a ∧ e_isO 100 a0 ∧ 0 ≤ sp ∧ 0 ≤ dp ∧ 0 ≤ n ∧ sp + n ≤ (e_sh a0.toNat).2 ∧ dp + n ≤ (e_sh a.toNat).2 then
      some (e_cpm M a0.toNat sp.toNat a.toNat dp.toNat n.toNat) else none
  | _ => none
def e_sv (K : Nat → List Int → EM → EO) (s : e_X) (L : List Int) (M : EM) : Option (List Int × EM) := match s with
  | .mulL k e =>
    if k = 64 then (e_ev K L e M).bind fun r => (e_st 100 r.1 r.2).bind fun M' => some (L, M')
    else if k = 65 then (e_ev K L e M).bind fun r => (e_st 101 r.1 r.2).bind fun M' => some (L, M')
    else if k = 66 then (e_ev K L e M).bind fun r => (e_cp r.1 r.2).bind fun M' => some (L, M')
    else if k = 67 then match e with
      | .mulR (.add o x) key => (e_ev K L o M).bind fun r => (e_gf key.toNat r.1 r.2).bind fun u => (e_ev K L x r.2).bind fun q => (e_b2 10 u (q.1.getD 0 0)).bind fun z => (e_pf key.toNat (r.1 ++ [z]) q.2).bind fun M' => some (L, M')
      | _ => none
    else if k = 68 then match e with
      | .add ai x => (e_ev K L ai M).bind fun r => (e_op 60 r.1 r.2).bind fun u => (e_ev K L x r.2).bind fun q => (e_b2 10 u (q.1.getD 0 0)).bind fun z => (e_st 100 (r.1 ++ [z]) q.2).bind fun M' => some (L, M')
      | _ => none
    else if 100 ≤ k ∧ k < 200 then (e_ev K L e M).bind fun r => some (L.set (k.toNat - 100) (r.1.getD 0 0), r.2)
    else if 200 ≤ k ∧ k < 300 then match e with
      | .num c => some (L.set (k.toNat - 200) (e_w (L.getD (k.toNat - 200) 0 + c)), M)
      | _ => none
    else if 5000 ≤ k then (e_ev K L (.mulL k e) M).bind fun r => some (L, r.2)
    else none
  | .mulR e key => (e_ev K L e M).bind fun r => (e_pf key.toNat r.1 r.2).bind fun M' => some (L, M')
  | _ => none
