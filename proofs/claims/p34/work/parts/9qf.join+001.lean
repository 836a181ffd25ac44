theorem w_b81_n {M : EM} {s id k : Nat} (h : id ≠ s) : w_b81 M s id k = M id k := by
  unfold w_b81
  simp [e_up, h]
theorem w_b81_s {M : EM} {s : Nat} : w_b81 M s s 0 = 0 ∧ w_b81 M s s 1 = 5 ∧ w_b81 M s s 2 = 0 ∧ w_b81 M s s 3 = 0 ∧ w_b81 M s s 4 = 0 := by
  unfold w_b81
  simp [e_up]
theorem w_js0 {M0 : EM} {p : Nat} {K t : Int} {f : Nat} (hp : p < 40) : w_js M0 (w_b49 M0 p K t) p K t f 0 := by
  unfold w_b49
  refine ⟨?_, ?_, ?_, ?_, ?_, fun j hj => absurd hj (Nat.not_lt_zero _), fun q hq _ => ?_, fun q hq => ⟨?_, ?_, ?_, ?_, ?_, ?_⟩, fun q hq => ⟨?_, ?_, ?_⟩, fun q hq => ?_, ⟨?_, ?_, ?_, ?_, ?_, ?_, ?_⟩, w_b81_s, fun id k h1 h2 h3 h4 => ?_⟩
  all_goals rw [w_b81_n (by omega)]
  all_goals unfold w_b35 w_b52
  case refine_7 => simp [e_up, hq]
  all_goals first
    | (simp [e_up, hq]; done)
    | (simp [e_up]; done)
    | (simp [e_up]; omega)
    | (repeat rw [c_up_n (by omega)])

