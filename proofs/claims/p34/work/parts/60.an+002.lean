def a_wf (W : AW) (key : Nat) (v : Int × Int × Bool) (id : Int) : Bool := decide (e_isO (key / 64) id) && decide (e_fty key ≠ 2) && a_ok W id.toNat (key % 64 : Nat) (key % 64 : Nat) v
def a_full (W : AW) (x y : Int) : Bool := decide (e_isO 100 x) && decide (e_isO 100 y) && decide (a_mi x.toNat = a_mi y.toNat) && (a_mi y.toNat).all (fun s => decide (s.1 = 0) && decide ((e_sh y.toNat).2 ≤ s.2.1 + 1)) && decide (x.toNat ≠ e_OUT) && decide (y.toNat ≠ e_OUT) && W.any (fun w => decide (w.1 = y.toNat) && decide (w.2.1 = 0) && decide ((e_sh y.toNat).2 ≤ w.2.2 + 1))
def a_st (W : AW) (call : Nat → List AV → Option AV) (s : e_X) (E : AE) : Option AE := match s with
  | .mulL k e =>
    if k = 64 then (match a_ex call e E with
      | some ([some (.inr ids), some (.inl i), some (.inl v)], _, _) => if ids.all (a_wr W 100 i v) then some E else none
      | _ => none)
    else if k = 66 then (match a_ex call e E with
      | some ([some (.inr as), some (.inl sp), some (.inr bs), some (.inl dp), some (.inl n)], _, _) => if (as.all fun x => bs.all fun y => a_full W x y && decide (n.2.1 ≤ ((e_sh x.toNat).2 : Int)) && decide (n.2.1 ≤ ((e_sh y.toNat).2 : Int))) = true ∧ sp.1 = 0 ∧ sp.2.1 = 0 ∧ dp.1 = 0 ∧ dp.2.1 = 0 ∧ 0 ≤ n.1 then some E else none
      | _ => none)
    else if k = 67 then (match e with
      | .mulR (.add o x) key => (match a_ex call o E, a_ex call x E with
        | some ([some (.inr ids)], _, _), some ([some (.inl v)], _, _) => if ids.all (fun id => match a_fld key.toNat id with
            | some (some (.inl q)) => (match a_b2 10 q v with
              | some (some (.inl z)) => a_wf W key.toNat z id && true
              | _ => false)
            | _ => false) then some E else none
        | _, _ => none)
      | _ => none)
    else if 200 ≤ k ∧ k < 300 then (match e with
      | .num c => if k.toNat - 200 < E.length then (match (E.getD (k.toNat - 200) (none, [])).1 with
        | some (.inl q) => if -2147483648 ≤ q.1 + c ∧ q.2.1 + c ≤ 2147483647 then some (E.set (k.toNat - 200) (a_i (q.1 + c) (q.2.1 + c), a_tag E (.mulL 10 (.add (.var (k.toNat - 200)) (.num c))))) else some (E.set (k.toNat - 200) (a_T32, []))
        | _ => none) else none
      | _ => none)
    else if 5000 ≤ k then (match a_ex call s E with
      | some _ => some E
      | none => none)
    else none
  | .mulR e key => (match a_ex call e E with
    | some ([some (.inr ids), some (.inl v)], _, _) => if ids.all (a_wf W key.toNat v) then some E else none
    | _ => none)
  | _ => none
def a_tree (W : AW) (call : Nat → List AV → Option AV) (jmp : Nat → AE → Bool) (rho : AV) : e_X → AE → Bool
  | .mulL k e, E =>
    if k < 0 then a_tree W call jmp rho e E
    else if k = 1 then (match a_ex call e E with
      | some ([x], _, _) => a_leq x rho
      | _ => false)
    else if k = 2 then a_leq (a_i 0 0) rho
    else if k = 4 then (match e with
      | .num l => jmp l.toNat E
      | _ => false)
    else false
  | .sub c (.add a b), E => match a_ex call c E with
    | none => false
    | some p => (decide (p.1.length = 1) && (a_dead p.2.1 || a_tree W call jmp rho a p.2.1)) && (a_dead p.2.2 || a_tree W call jmp rho b p.2.2)
  | .add s t, E => match s with
    | .mulL k e => if 100 ≤ k ∧ k < 200 then (match a_alts call e E with
        | some l => l.all (fun q => decide (k.toNat - 100 < q.2.2.length) && a_tree W call jmp rho t (q.2.2.set (k.toNat - 100) (q.1, q.2.1)))
        | none => false)
      else (match a_st W call (.mulL k e) E with
        | some E' => a_tree W call jmp rho t E'
        | none => false)
    | s => match a_st W call s E with
      | some E' => a_tree W call jmp rho t E'
      | none => false
  | _, _ => false
abbrev AA : Type := List (Nat × AE × Nat × Bool)
def a_tle (c : Nat) (T H : AT) : Bool := H.all (fun t => decide (t.1 = c) || T.any (fun u => decide (u.1 = t.1) && (u.2.1 == t.2.1) && decide (t.2.2 ≤ u.2.2)))
/-- E is no more than H, but for what is bound to local c's place -/
def a_le (c : Nat) : AE → AE → Bool
  | [], [] => true
  | p :: E, q :: H => a_leq p.1 q.1 && a_tle c p.2 q.2 && a_le c E H
  | _, _ => false
def a_on (c : Nat) (up : Bool) (E : AE) : Bool := (E.getD c (none, [])).2.any (fun t => decide (t.1 = c) && (t.2.1 == up) && decide (1 ≤ t.2.2))
/-- what holds at a loop's head -/
def a_head (c : Nat) (up : Bool) (hv : List (Nat × AV × AT)) : Nat → AE → AE
  | _, [] => []
  | i, q :: E => (match q_find hv i with
    | some a => (a.1, if i = c then (c, up, 0) :: a.2 else a.2)
    | none => (q.1, q.2.filter (fun t => !(t.1 == c)))) :: a_head c up hv (i + 1) E
def a_act (A : AA) (l : Nat) : Option (AE × Nat × Bool) := q_find A l
def a_free (c : Nat) (A : AA) : Bool := A.all (fun q => decide (q.2.2.1 ≠ c) && q.2.1.all (fun p => p.2.all (fun t => decide (t.1 ≠ c))))
def a_cnt (c : Nat) (H : AE) : Bool := match (H.getD c (none, [])).1 with
  | some (.inl q) => decide (-2147483648 ≤ q.1) && decide (q.2.1 ≤ 2147483647)
  | _ => false
def a_pd : List Nat → List AV → AE
  | [], _ => []
  | _, [] => []
  | t :: P, a :: as => if t = 1 then (a, []) :: (a_i 0 0, []) :: a_pd P as else (a, []) :: a_pd P as
def a_ent (u : Nat) (xs : List AV) : AE := a_pd (e_pt u) xs ++ List.replicate (e_nl u - (a_pd (e_pt u) xs).length) (a_i 0 0, [])
def a_rok (u : Nat) (xs : List AV) : Bool := match q_rc (e_vm u) with
  | none => true
  | some ci => match xs with
    | some (.inr ids) :: _ => ids.all (fun id => decide (e_isO ci id))
    | _ => false
/-- the whole analysis, n labels and calls deep -/
def a_an (W : AW) (orc : Nat → List AV → Option AV) : Nat → Nat → AA → AE → e_X → Bool
  | 0, _, _, _, _ => false
  | n + 1, v, A, E, t => a_tree W
      (fun u xs => match orc u xs with
        | some r => some r
        | none => if a_rok u xs && a_an W orc n u [] (a_ent u xs) (.mulL 4 (.num 0)) then some (a_rho u) else none)
      (fun l E1 => match a_act A l with
        | some q => a_le q.2.1 E1 q.1 && a_on q.2.1 q.2.2 E1
        | none => match a_hd v l with
          | some h => a_le h.1 E1 (a_head h.1 h.2.1 h.2.2 0 E1) && a_free h.1 A && a_cnt h.1 (a_head h.1 h.2.1 h.2.2 0 E1) && h.2.2.all (fun p => p.2.2.all (fun t => decide (t.1 ≠ h.1))) && a_an W orc n v ((l, a_head h.1 h.2.1 h.2.2 0 E1, h.1, h.2.1) :: A) (a_head h.1 h.2.1 h.2.2 0 E1) (e_tr v l)
          | none => a_an W orc n v A E1 (e_tr v l))
      (a_rho v) t E

