def a_mi (id : Nat) : List (Nat × Nat × Int × Int) := []
def a_rho (v : Nat) : AV := none
def a_hd (v l : Nat) : Option (Nat × Bool × List (Nat × AV × AT)) := none
