def e_lb (v pc : Nat) : Option (List (Nat × Nat) × e_X) := q_find ((e_prog.getD (v / 16) []).getD (v % 16) []) pc
def e_tr (v pc : Nat) : e_X := match e_lb v pc with
  | some q => q.2
  | none => .num 0
def e_pd : List Nat → List Int → List Int
  | [], _ => []
  | _, [] => []
  | t :: P, a :: as => if t = 1 then a :: 0 :: e_pd P as else a :: e_pd P as
/-- a frame's locals at its start -/
def e_pad (v : Nat) (as : List Int) : List Int := e_pd (e_pt v) as ++ List.replicate (e_nl v - (e_pd (e_pt v) as).length) 0
/-- a receiver of the method's class -/
def e_rok (v : Nat) (as : List Int) : Bool := match q_rc (e_vm v) with
  | none => true
  | some ci => decide (e_isO ci (as.getD 0 0))
/-- n labels deep -/
def e_run : Nat → Nat → Nat → List Int → EM → EO
  | 0, _, _, _, _ => none
  | n + 1, v, pc, L, M => e_tv (fun u as M' => if e_rok u as = true then e_run n u 0 (e_pad u as) M' else none) (fun pc' L' M' => e_run n v pc' L' M') (e_tr v pc) L M
