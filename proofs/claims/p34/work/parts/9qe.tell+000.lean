/-! the class makes a PART: exactly -/
theorem w_H0 (M : EM) : e_gf 192 [9] M = some 10 := p_g 192 9 10 M (by decide +kernel)
theorem w_H1 (M : EM) : e_gf 193 [9] M = some 18 := p_g 193 9 18 M (by decide +kernel)
theorem w_H2 (M : EM) : e_gf 194 [9] M = some 25 := p_g 194 9 25 M (by decide +kernel)
theorem w_P0 (M : EM) : e_gf 256 [10] M = some (M 10 0) := c_gf (by decide +kernel) (by decide +kernel)
theorem w_Q0 (v : Int) (M : EM) : e_pf 256 [10, v] M = some (e_up M 10 0 v) := c_pf (by decide +kernel) (by decide +kernel)
theorem w_P1 (M : EM) : e_gf 257 [10] M = some 11 := p_g 257 10 11 M (by decide +kernel)
theorem w_P2 (M : EM) : e_gf 258 [10] M = some 12 := p_g 258 10 12 M (by decide +kernel)
theorem w_P3 (M : EM) : e_gf 259 [10] M = some 13 := p_g 259 10 13 M (by decide +kernel)
theorem w_P4 (M : EM) : e_gf 260 [10] M = some 14 := p_g 260 10 14 M (by decide +kernel)
theorem w_P5 (M : EM) : e_gf 261 [10] M = some 15 := p_g 261 10 15 M (by decide +kernel)
theorem w_P6 (M : EM) : e_gf 262 [10] M = some 16 := p_g 262 10 16 M (by decide +kernel)
theorem w_P7 (M : EM) : e_gf 263 [10] M = some 17 := p_g 263 10 17 M (by decide +kernel)
theorem w_C0 (M : EM) : e_gf 64 [18] M = some 19 := p_g 64 18 19 M (by decide +kernel)
theorem w_C1 (M : EM) : e_gf 65 [18] M = some 20 := p_g 65 18 20 M (by decide +kernel)
theorem w_C2 (M : EM) : e_gf 66 [18] M = some 21 := p_g 66 18 21 M (by decide +kernel)
theorem w_C3 (M : EM) : e_gf 67 [18] M = some 22 := p_g 67 18 22 M (by decide +kernel)
theorem w_C4 (M : EM) : e_gf 68 [18] M = some 23 := p_g 68 18 23 M (by decide +kernel)
theorem w_C5 (M : EM) : e_gf 69 [18] M = some 24 := p_g 69 18 24 M (by decide +kernel)
def w_b52 (M : EM) (p : Nat) (k t : Int) : EM := e_up (e_up (e_up (e_up (e_up M 11 p k) 12 p t) 13 p (-1)) 14 p 0) 10 0 ((p : Int) + 1)
theorem w_52 {p : Nat} {k t : Int} {M : EM} (h0 : M 10 0 = p) (hp : p < 40) : E_C 52 [10, k, t] M = some ((p : Int), w_b52 M p k t) := by
  have s0 : E_C 52 [10, k, t] M = e_tv E_C (E_V 52) e_t52_0 [10, k, t, 0] M := r_ent (u := 52) (as := [10, k, t]) (M := M) (decide_eq_true (show e_isO 4 10 by decide +kernel))
  rw [s0]
  unfold e_t52_0
  have l1 := fun v M => w_layN (a := 11) (i := (p : Int)) (n := 40) (by decide +kernel) rfl hp v M
  have l2 := fun v M => w_layN (a := 12) (i := (p : Int)) (n := 40) (by decide +kernel) rfl hp v M
  have l3 := fun v M => w_layN (a := 13) (i := (p : Int)) (n := 40) (by decide +kernel) rfl hp v M
  have l4 := fun v M => w_layN (a := 14) (i := (p : Int)) (n := 40) (by decide +kernel) rfl hp v M
  have ww : e_w ((p : Int) + 1) = (p : Int) + 1 := a_w_id (by omega) (by omega)
  unfold w_b52
  simp [e_tv, e_ev, e_sv, e_b1, e_b2, x_o1, x_o2, w_P0, w_Q0, w_P1, w_P2, w_P3, w_P4, l1, l2, l3, l4, h0, ww, c_up_n]
def w_b35 (M : EM) (p : Nat) : EM := e_up (e_up (e_up (e_up (e_up (e_up (e_up M 21 (4 * p + 0) 100) 21 (4 * p + 1) 0) 21 (4 * p + 2) 0) 21 (4 * p + 3) 0) 22 p 0) 23 p (-1)) 24 p (-1)
theorem w_35s {p c : Nat} (hp : p < 40) (hc : c < 4) (M : EM) : E_V 35 2 [18, (p : Int), (c : Int)] M = E_V 35 2 [18, (p : Int), ((c + 1 : Nat) : Int)] (e_up M 21 (4 * p + c) (if c = 0 then 100 else 0)) := by
  have w1 : e_w ((p : Int) * 4) = (p : Int) * 4 := a_w_id (by omega) (by omega)
  have w2 : e_w ((p : Int) * 4 + (c : Int)) = (p : Int) * 4 + (c : Int) := a_w_id (by omega) (by omega)
  have w3 : e_w ((c : Int) + 1) = ((c + 1 : Nat) : Int) := a_w_id (by omega) (by omega)
  have l1 := fun v M => w_layN (a := 21) (i := (p : Int) * 4 + (c : Int)) (n := 160) (by decide +kernel) (j := 4 * p + c) (by omega) (by omega) v M
  have hlt : (c : Int) < 4 := by omega
  rw [E_V_eq]
  show e_tv E_C (E_V 35) e_t35_2 [18, (p : Int), (c : Int)] M = _
  unfold e_t35_2
  by_cases q : c = 0
  · subst q
    simp [e_tv, e_ev, e_sv, e_b1, e_b2, x_o1, x_o2, w_C2, w1, w2, w3, l1, hlt]
    have l1' := l1 100 M
    simp at l1'
    rw [l1']
    rfl
  · have q' : ¬ ((c : Int) = 0) := by omega
    simp [e_tv, e_ev, e_sv, e_b1, e_b2, x_o1, x_o2, w_C2, w1, w2, w3, l1, hlt, q, q']
theorem w_35 {p : Nat} (hp : p < 40) (M : EM) : E_C 35 [18, (p : Int)] M = some (0, w_b35 M p) := by
  have s0 : E_C 35 [18, (p : Int)] M = e_tv E_C (E_V 35) e_t35_0 [18, (p : Int), 0] M := r_ent (u := 35) (as := [18, (p : Int)]) (M := M) (decide_eq_true (show e_isO 1 18 by decide +kernel))
  have fin : ∀ M, E_V 35 2 [18, (p : Int), 4] M = some (0, e_up (e_up (e_up M 22 p 0) 23 p (-1)) 24 p (-1)) := by
    intro M
    have l2 := fun v M => w_layN (a := 22) (i := (p : Int)) (n := 40) (by decide +kernel) rfl hp v M
    have l3 := fun v M => w_layN (a := 23) (i := (p : Int)) (n := 40) (by decide +kernel) rfl hp v M
    have l4 := fun v M => w_layN (a := 24) (i := (p : Int)) (n := 40) (by decide +kernel) rfl hp v M
    rw [E_V_eq]
    show e_tv E_C (E_V 35) e_t35_2 [18, (p : Int), 4] M = _
    unfold e_t35_2
    simp [e_tv, e_ev, e_sv, e_b1, e_b2, x_o1, x_o2, w_C3, w_C4, w_C5, l2, l3, l4]
  have k0 : E_V 35 2 [18, (p : Int), 0] M = some (0, w_b35 M p) := (w_35s (c := 0) hp (by decide) M).trans ((w_35s (c := 1) hp (by decide) _).trans ((w_35s (c := 2) hp (by decide) _).trans ((w_35s (c := 3) hp (by decide) _).trans (fin _))))
  rw [s0]
  unfold e_t35_0
  simp [e_tv, e_ev, e_sv, e_b1, e_b2, x_o1, x_o2, k0]
def w_b81 (M : EM) (s : Nat) : EM := e_up (e_up (e_up (e_up (e_up M s 0 0) s 1 5) s 2 0) s 3 0) s 4 0
theorem w_81 {s : Nat} (hs : 37 ≤ s ∧ s < 77) (M : EM) : E_C 81 [(s : Int), 0, 5] M = some (0, w_b81 M s) := by
  have is : e_isO 7 (s : Int) := p_is7 (by omega)
  have w0 : ∀ v M, e_pf 448 [(s : Int), v] M = some (e_up M s 0 v) := fun v M => c_pf is (by decide +kernel)
  have w1 : ∀ v M, e_pf 449 [(s : Int), v] M = some (e_up M s 1 v) := fun v M => c_pf is (by decide +kernel)
  have w2 : ∀ v M, e_pf 450 [(s : Int), v] M = some (e_up M s 2 v) := fun v M => c_pf is (by decide +kernel)
  have w3 : ∀ v M, e_pf 451 [(s : Int), v] M = some (e_up M s 3 v) := fun v M => c_pf is (by decide +kernel)
  have w4 : ∀ v M, e_pf 452 [(s : Int), v] M = some (e_up M s 4 v) := fun v M => c_pf is (by decide +kernel)
  rw [r_ent (show e_rok 81 [(s : Int), 0, 5] = true from decide_eq_true is)]
  show e_tv E_C (E_V 81) e_t81_0 [(s : Int), 0, 5] M = _
  unfold e_t81_0 w_b81
  simp [e_tv, e_ev, e_sv, e_b1, e_b2, x_o1, x_o2, w0, w1, w2, w3, w4]
