/-- a loop's head: its counter, whether it goes up, what the locals hold that the loop changes -/
def a_hd (v l : Nat) : Option (Nat × Bool × List (Nat × AV × AT)) := q_find a_hdL (4096 * v + l)
/-- what the reading of a TEXT writes of the reader -/
def a_RW : List (Nat × Nat × Nat) := [(162, 0, 15), (163, 0, 119), (164, 0, 119), (165, 0, 120), (166, 0, 119), (167, 0, 119), (168, 0, 119), (169, 0, 119)]
def a_SH : List Int := [146, 148, 150, 152, 154, 156, 158, 160]
def e_RD : Int := 162
def e_BENCH : Int := 170

