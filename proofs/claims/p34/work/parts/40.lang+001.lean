/-- an answer beyond all longs is a throw -/
def e_TH : Int := 1180591620717411303424
/-- a row of labels -/
def e_nth : e_X → Nat → Nat
  | .add (.num c) t, n => if n = 0 then c.toNat else e_nth t (n - 1)
  | .num c, _ => c.toNat
  | _, _ => 0
def e_len : e_X → Nat
  | .add _ t => e_len t + 1
  | _ => 0
/-- statements up to the next label: K what a call does, J what happens from a label on -/
def e_tv (K : Nat → List Int → EM → EO) (J : Nat → List Int → EM → EO) : e_X → List Int → EM → EO
  | .mulL k e, L, M =>
    if k < 0 then e_tv K J e L M
    else if k = 1 then (e_ev K L e M).bind fun r => some (r.1.getD 0 0, r.2)
    else if k = 2 then some (0, M)
    else if k = 3 then (e_ev K L e M).bind fun r => some (e_TH + r.1.getD 0 0, e_up M 5 0 (M 5 0 + 1))
    else if k = 4 then (e_ev K L e M).bind fun r => J (r.1.getD 0 0).toNat L M
    else none
  | .sub c (.add a b), L, M => (e_ev K L c M).bind fun r => if r.1 = [0] then e_tv K J b L r.2 else e_tv K J a L r.2
  | .add s t, L, M => (e_sv K s L M).bind fun r => e_tv K J t r.1 r.2
  | .mulR (.add x (.add (.num lo) cs)) _, L, M => (e_ev K L x M).bind fun r => J (if r.1.getD 0 0 < lo ∨ lo + e_len cs ≤ r.1.getD 0 0 then e_nth cs (e_len cs) else e_nth cs (r.1.getD 0 0 - lo).toNat) L r.2
  | .neg (.add (.mulR (.add ai as) v) (.add t (.add h0 h1))), L, M => (e_ev K L ai M).bind fun r => (e_ev K L as r.2).bind fun q => (K v.toNat q.1 q.2).bind fun z =>
      if z.1 = e_TH then e_tv K J h0 L z.2 else if z.1 = e_TH + 1 then e_tv K J h1 L z.2 else (e_st 101 (r.1 ++ [z.1]) z.2).bind fun M' => e_tv K J t L M'
  | _, _, _ => none

