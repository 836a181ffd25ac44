/-! the class's reader, byte by byte: exactly -/
theorem w_f0 (M : EM) : e_gf 320 [162] M = some (M 162 0) := c_gf c_rd5 (by decide +kernel)
theorem w_f1 (M : EM) : e_gf 321 [162] M = some (M 162 1) := c_gf c_rd5 (by decide +kernel)
theorem w_f2 (M : EM) : e_gf 322 [162] M = some (M 162 2) := c_gf c_rd5 (by decide +kernel)
theorem w_f3 (M : EM) : e_gf 323 [162] M = some (M 162 3) := c_gf c_rd5 (by decide +kernel)
theorem w_f4 (M : EM) : e_gf 324 [162] M = some (M 162 4) := c_gf c_rd5 (by decide +kernel)
theorem w_f5 (M : EM) : e_gf 325 [162] M = some (M 162 5) := c_gf c_rd5 (by decide +kernel)
theorem w_f6 (M : EM) : e_gf 326 [162] M = some (M 162 6) := c_gf c_rd5 (by decide +kernel)
theorem w_f7 (M : EM) : e_gf 327 [162] M = some (M 162 7) := c_gf c_rd5 (by decide +kernel)
theorem w_f8 (M : EM) : e_gf 328 [162] M = some (M 162 8) := c_gf c_rd5 (by decide +kernel)
theorem w_p0 (v : Int) (M : EM) : e_pf 320 [162, v] M = some (e_up M 162 0 v) := c_pf c_rd5 (by decide +kernel)
theorem w_p1 (v : Int) (M : EM) : e_pf 321 [162, v] M = some (e_up M 162 1 v) := c_pf c_rd5 (by decide +kernel)
theorem w_p2 (v : Int) (M : EM) : e_pf 322 [162, v] M = some (e_up M 162 2 v) := c_pf c_rd5 (by decide +kernel)
theorem w_p3 (v : Int) (M : EM) : e_pf 323 [162, v] M = some (e_up M 162 3 v) := c_pf c_rd5 (by decide +kernel)
theorem w_p4 (v : Int) (M : EM) : e_pf 324 [162, v] M = some (e_up M 162 4 v) := c_pf c_rd5 (by decide +kernel)
theorem w_p5 (v : Int) (M : EM) : e_pf 325 [162, v] M = some (e_up M 162 5 v) := c_pf c_rd5 (by decide +kernel)
theorem w_p6 (v : Int) (M : EM) : e_pf 326 [162, v] M = some (e_up M 162 6 v) := c_pf c_rd5 (by decide +kernel)
theorem w_p7 (v : Int) (M : EM) : e_pf 327 [162, v] M = some (e_up M 162 7 v) := c_pf c_rd5 (by decide +kernel)
theorem w_p8 (v : Int) (M : EM) : e_pf 328 [162, v] M = some (e_up M 162 8 v) := c_pf c_rd5 (by decide +kernel)
theorem w_a9 (M : EM) : e_gf 329 [162] M = some 163 := p_g 329 162 163 M (by decide +kernel)
theorem w_aA (M : EM) : e_gf 330 [162] M = some 164 := p_g 330 162 164 M (by decide +kernel)
theorem w_aB (M : EM) : e_gf 331 [162] M = some 165 := p_g 331 162 165 M (by decide +kernel)
theorem w_aC (M : EM) : e_gf 332 [162] M = some 166 := p_g 332 162 166 M (by decide +kernel)
theorem w_aD (M : EM) : e_gf 333 [162] M = some 167 := p_g 333 162 167 M (by decide +kernel)
theorem w_aE (M : EM) : e_gf 334 [162] M = some 168 := p_g 334 162 168 M (by decide +kernel)
theorem w_aF (M : EM) : e_gf 335 [162] M = some 169 := p_g 335 162 169 M (by decide +kernel)
theorem w_layN {a i : Int} {n : Nat} (h : 8 ≤ a ∧ a.toNat < e_N ∧ e_sh a.toNat = (100, n)) {j : Nat} (e : i = j) (hj : j < n) (v : Int) (M : EM) : E_C 147 [a, i, v] M = some (0, e_up M a.toNat j v) := by
  subst e
  rw [p_layd h ⟨by omega, by omega⟩]
  rfl
theorem w_atN {a i : Int} {n : Nat} (h : 8 ≤ a ∧ a.toNat < e_N ∧ e_sh a.toNat = (100, n)) {j : Nat} (e : i = j) (hj : j < n) (M : EM) : E_C 146 [a, i] M = some (M a.toNat j, M) := by
  subst e
  rw [p_at h ⟨by omega, by omega⟩]
  rfl
def w_M0 (M : EM) (c : Int) : EM := e_up (e_up (e_up (e_up (e_up (e_up (e_up M 163 (M 162 7).toNat (M 162 1)) 164 (M 162 7).toNat c) 162 3 c) 162 4 0) 162 5 0) 162 6 1) 162 2 1
def w_M1 (M : EM) (d : Int) : EM := e_up (e_up (e_up (e_up (e_up M 167 (M 162 8).toNat d) 168 (M 162 8).toNat (M 162 6 - 1)) 169 (M 162 8).toNat (M 162 5)) 162 8 (M 162 8 + 1)) 162 2 (if d = 0 then 3 else 2)
def w_M2 (M : EM) : EM := e_up (e_up M 162 4 1) 162 2 1
def w_M3 (M : EM) : EM := e_up (e_up M 162 5 0) 162 2 3
def w_M4 (M : EM) : EM := e_up (e_up (if M 162 5 = 0 then e_up M 162 6 (M 162 6 + 1) else M) 162 4 0) 162 2 1
def w_M5 (M : EM) : EM := e_up (e_up (e_up (e_up M 166 (M 162 7).toNat (M 162 6)) 162 7 (M 162 7 + 1)) 165 (M 162 7 + 1).toNat (M 162 8)) 162 2 0
def w_M6 (M : EM) (c : Int) : EM := e_up (e_up M 167 (M 162 8 - 1).toNat (10 * M 167 (M 162 8 - 1).toNat + c - 48)) 162 2 3
theorem w_r (u : Nat) (as : List Int) (M : EM) (h : e_rok u as = true) : E_C u as M = e_tv E_C (E_V u) (e_tr u 0) (e_pad u as) M := r_ent h
theorem w_61 {c : Int} {M : EM} (h7 : 0 ≤ M 162 7 ∧ M 162 7 < 120) : E_C 61 [162, c] M = if c = 99 ∨ c = 114 ∨ c = 102 ∨ c = 98 then some (1, w_M0 M c) else some (0, M) := by
  have s0 : E_C 61 [162, c] M = e_tv E_C (E_V 61) e_t61_0 [162, c] M := r_ent (u := 61) (as := [162, c]) (M := M) (decide_eq_true c_rd5)
  rw [s0]
  unfold e_t61_0
  have l0 := fun v M' => p_layd (a := 163) (i := M 162 7) (v := v) (n := 120) (by decide +kernel) h7 M'
  have l1 := fun v M' => p_layd (a := 164) (i := M 162 7) (v := v) (n := 120) (by decide +kernel) h7 M'
  unfold w_M0
  by_cases q1 : c = 99
  · simp [e_tv, e_ev, e_sv, e_b1, e_b2, x_o1, x_o2, w_f1, w_f7, w_a9, w_aA, w_p2, w_p3, w_p4, w_p5, w_p6, l0, l1, c_up_n, q1]
  by_cases q2 : c = 114
  · simp [e_tv, e_ev, e_sv, e_b1, e_b2, x_o1, x_o2, w_f1, w_f7, w_a9, w_aA, w_p2, w_p3, w_p4, w_p5, w_p6, l0, l1, c_up_n, q2]
  by_cases q3 : c = 102
  · simp [e_tv, e_ev, e_sv, e_b1, e_b2, x_o1, x_o2, w_f1, w_f7, w_a9, w_aA, w_p2, w_p3, w_p4, w_p5, w_p6, l0, l1, c_up_n, q3]
  by_cases q4 : c = 98
  · simp [e_tv, e_ev, e_sv, e_b1, e_b2, x_o1, x_o2, w_f1, w_f7, w_a9, w_aA, w_p2, w_p3, w_p4, w_p5, w_p6, l0, l1, c_up_n, q4]
  simp [e_tv, e_ev, e_sv, e_b1, e_b2, x_o1, x_o2, q1, q2, q3, q4]
theorem w_62 {d : Int} {M : EM} (h8 : 0 ≤ M 162 8 ∧ M 162 8 < 120) (h6 : 1 ≤ M 162 6 ∧ M 162 6 ≤ 130) : E_C 62 [162, d] M = some (1, w_M1 M d) := by
  have s0 : E_C 62 [162, d] M = e_tv E_C (E_V 62) e_t62_0 [162, d] M := r_ent (u := 62) (as := [162, d]) (M := M) (decide_eq_true c_rd5)
  rw [s0]
  unfold e_t62_0
  have l0 := fun v M' => p_layd (a := 167) (i := M 162 8) (v := v) (n := 120) (by decide +kernel) h8 M'
  have l1 := fun v M' => p_layd (a := 168) (i := M 162 8) (v := v) (n := 120) (by decide +kernel) h8 M'
  have l2 := fun v M' => p_layd (a := 169) (i := M 162 8) (v := v) (n := 120) (by decide +kernel) h8 M'
  have w1 : e_w (M 162 6 - 1) = M 162 6 - 1 := a_w_id (by omega) (by omega)
  have w2 : e_w (M 162 8 + 1) = M 162 8 + 1 := a_w_id (by omega) (by omega)
  unfold w_M1
  by_cases q : d = 0
  · simp [e_tv, e_ev, e_sv, e_b1, e_b2, x_o1, x_o2, w_f5, w_f6, w_f8, w_aD, w_aE, w_aF, w_p2, w_p8, l0, l1, l2, w1, w2, c_up_n, q]
  · simp [e_tv, e_ev, e_sv, e_b1, e_b2, x_o1, x_o2, w_f5, w_f6, w_f8, w_aD, w_aE, w_aF, w_p2, w_p8, l0, l1, l2, w1, w2, c_up_n, q]
