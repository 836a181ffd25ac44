def s_okr (q : SQ) : Bool := match q.2.1 with
  | .inl (some (.inl (.inl x))) => decide (x = 1) && Nat.ble q.2.2.2.1 600002 && Nat.ble q.2.2.2.2.1 7302231
  | _ => false
def s_full : Int × Int := (-2147483648, 2147483647)
def s_okv (E : SE) : Bool := match s_run 40000 60 275 0 [(0, .inl (.inr (.inr (some 0))))] [] (8, 0, 0, []) E with
  | some rs => rs.all s_okr
  | none => false
def s_Ev (lo hi : Int) : SE := [s_full, s_full, s_full, s_full, s_full, s_full, (6, 6), (lo, hi)]
def s_Es : SE := [s_full, s_full, s_full, s_full, s_full, s_full, (0, 5), (0, 63)]
