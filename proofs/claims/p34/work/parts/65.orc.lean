def a_sub (R W : AW) : Bool := R.all (fun r => W.any (fun w => decide (w.1 = r.1) && decide (w.2.1 ≤ r.2.1) && decide (r.2.2 ≤ w.2.2)))
def a_at1 (id : Int) : Option AV := if id = -1 then some (a_i 0 0) else if 0 < id ∧ id.toNat < e_N ∧ (e_sh id.toNat).1 = 100 then some (a_join (a_i 0 0) (a_rd id.toNat 0 ((e_sh id.toNat).2 - 1))) else none
/-- what is known of a few methods beside the analysis: at; the reading of a TEXT; whether there is a CURVE -/
def a_orc (W : AW) (u : Nat) (xs : List AV) : Option AV :=
  if u = 146 then (match xs with
    | [some (.inr ids), some (.inl _)] => a_all a_at1 a_join ids
    | _ => none)
  else if u = 59 then (match xs with
    | [some (.inr [r]), some (.inr ids)] => if r = e_RD ∧ ids.all (fun x => a_SH.contains x) = true ∧ a_sub a_RW W = true then some (a_i 0 1) else none
    | _ => none)
  else if u = 36 then (match xs with
    | [some (.inr ids), some (.inl _), some (.inl _)] => if ids.all (fun x => decide (e_isO 1 x)) = true then some (a_i 0 1) else none
    | _ => none)
  else none
