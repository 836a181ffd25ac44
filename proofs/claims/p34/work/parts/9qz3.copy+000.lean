/-! SHELVES: copy -/
theorem h_143a {d i e j n x y : Int} {M : EM} (c0 : E_C 154 [8, d] M = some (x, M)) (c1 : E_C 154 [8, e] M = some (y, M)) (h : x = -1 ∨ y = -1) : E_C 143 [8, d, i, e, j, n] M = some (-1, M) := by
  have s0 : E_C 143 [8, d, i, e, j, n] M = e_tv E_C (E_V 143) e_t143_0 [8, d, i, e, j, n, 0, 0] M := r_ent (u := 143) (as := [8, d, i, e, j, n]) (M := M) (decide_eq_true c_this)
  rw [s0]
  unfold e_t143_0
  by_cases q : x = -1
  · simp [e_tv, e_ev, e_sv, e_b1, e_b2, x_o1, x_o2, c0, c1, q]
  · have q2 := h.resolve_left q
    simp [e_tv, e_ev, e_sv, e_b1, e_b2, x_o1, x_o2, c0, c1, q, q2]
theorem h_143b {d i e j n x y u v : Int} {M : EM} (c0 : E_C 154 [8, d] M = some (x, M)) (c1 : E_C 154 [8, e] M = some (y, M)) (hx : x ≠ -1) (hy : y ≠ -1) (t1 : E_C 84 [x] M = some (u, M)) (t2 : E_C 84 [y] M = some (v, M)) (h : u ≠ 0 ∨ v ≠ 0) : E_C 143 [8, d, i, e, j, n] M = some (-11, M) := by
  have s0 : E_C 143 [8, d, i, e, j, n] M = e_tv E_C (E_V 143) e_t143_0 [8, d, i, e, j, n, 0, 0] M := r_ent (u := 143) (as := [8, d, i, e, j, n]) (M := M) (decide_eq_true c_this)
  rw [s0]
  unfold e_t143_0
  by_cases q : u = 0
  · have q2 : v ≠ 0 := h.resolve_left (fun e => e q)
    simp [e_tv, e_ev, e_sv, e_b1, e_b2, x_o1, x_o2, c0, c1, hx, hy, t1, t2, q, q2]
  · simp [e_tv, e_ev, e_sv, e_b1, e_b2, x_o1, x_o2, c0, c1, hx, hy, t1, t2, q]
theorem h_143c {d i e j n x y p p' s s' : Int} {M : EM} (c0 : E_C 154 [8, d] M = some (x, M)) (c1 : E_C 154 [8, e] M = some (y, M)) (hx : x ≠ -1) (hy : y ≠ -1) (t1 : E_C 84 [x] M = some (0, M)) (t2 : E_C 84 [y] M = some (0, M)) (f1 : e_gf 513 [x] M = some p) (f2 : e_gf 513 [y] M = some p') (f3 : e_gf 516 [x] M = some s) (f4 : e_gf 516 [y] M = some s') (h : p = 0 ∨ p' = 0 ∨ s ≠ s') : E_C 143 [8, d, i, e, j, n] M = some (-12, M) := by
  have s0 : E_C 143 [8, d, i, e, j, n] M = e_tv E_C (E_V 143) e_t143_0 [8, d, i, e, j, n, 0, 0] M := r_ent (u := 143) (as := [8, d, i, e, j, n]) (M := M) (decide_eq_true c_this)
  rw [s0]
  unfold e_t143_0
  by_cases q : p = 0
  · simp [e_tv, e_ev, e_sv, e_b1, e_b2, x_o1, x_o2, c0, c1, hx, hy, t1, t2, f1, f2, q]
  · by_cases q2 : p' = 0
    · simp [e_tv, e_ev, e_sv, e_b1, e_b2, x_o1, x_o2, c0, c1, hx, hy, t1, t2, f1, f2, q, q2]
    · have q3 : s ≠ s' := (h.resolve_left q).resolve_left q2
      simp [e_tv, e_ev, e_sv, e_b1, e_b2, x_o1, x_o2, c0, c1, hx, hy, t1, t2, f1, f2, f3, f4, q, q2, q3]
theorem h_143d {d i e j n x y p p' s g g' : Int} {M : EM} (c0 : E_C 154 [8, d] M = some (x, M)) (c1 : E_C 154 [8, e] M = some (y, M)) (hx : x ≠ -1) (hy : y ≠ -1) (t1 : E_C 84 [x] M = some (0, M)) (t2 : E_C 84 [y] M = some (0, M)) (f1 : e_gf 513 [x] M = some p) (f2 : e_gf 513 [y] M = some p') (f3 : e_gf 516 [x] M = some s) (f4 : e_gf 516 [y] M = some s) (hp : p ≠ 0) (hp' : p' ≠ 0) (g1 : E_C 90 [x, i, n] M = some (g, M)) (g2 : E_C 90 [y, j, n] M = some (g', M)) (h : g = 0 ∨ g' = 0) : E_C 143 [8, d, i, e, j, n] M = some (-13, M) := by
  have s0 : E_C 143 [8, d, i, e, j, n] M = e_tv E_C (E_V 143) e_t143_0 [8, d, i, e, j, n, 0, 0] M := r_ent (u := 143) (as := [8, d, i, e, j, n]) (M := M) (decide_eq_true c_this)
  rw [s0]
  unfold e_t143_0
  by_cases q : g = 0
  · simp [e_tv, e_ev, e_sv, e_b1, e_b2, x_o1, x_o2, c0, c1, hx, hy, t1, t2, f1, f2, f3, f4, hp, hp', g1, g2, q]
  · have q2 := h.resolve_left q
    simp [e_tv, e_ev, e_sv, e_b1, e_b2, x_o1, x_o2, c0, c1, hx, hy, t1, t2, f1, f2, f3, f4, hp, hp', g1, g2, q, q2]
theorem h_143e {d i e j n x y x' y' p p' s g g' : Int} {M M1 : EM} (c0 : E_C 154 [8, d] M = some (x, M)) (c1 : E_C 154 [8, e] M = some (y, M)) (hx : x ≠ -1) (hy : y ≠ -1) (t1 : E_C 84 [x] M = some (0, M)) (t2 : E_C 84 [y] M = some (0, M)) (f1 : e_gf 513 [x] M = some p) (f2 : e_gf 513 [y] M = some p') (f3 : e_gf 516 [x] M = some s) (f4 : e_gf 516 [y] M = some s) (hp : p ≠ 0) (hp' : p' ≠ 0) (g1 : E_C 90 [x, i, n] M = some (g, M)) (g2 : E_C 90 [y, j, n] M = some (g', M)) (hg : g ≠ 0) (hg' : g' ≠ 0) (f5 : e_gf 518 [x] M = some x') (f6 : e_gf 518 [y] M = some y') (k : e_cp [x', i, y', j, n] M = some M1) : E_C 143 [8, d, i, e, j, n] M = some (n, M1) := by
  have s0 : E_C 143 [8, d, i, e, j, n] M = e_tv E_C (E_V 143) e_t143_0 [8, d, i, e, j, n, 0, 0] M := r_ent (u := 143) (as := [8, d, i, e, j, n]) (M := M) (decide_eq_true c_this)
  rw [s0]
  unfold e_t143_0
  simp [e_tv, e_ev, e_sv, e_b1, e_b2, x_o1, x_o2, c0, c1, hx, hy, t1, t2, f1, f2, f3, f4, hp, hp', g1, g2, hg, hg', f5, f6, k]
theorem h_262a {d i e j n a c : Int} {M : EM} (c0 : E_C 173 [d] M = some (a, M)) (c1 : E_C 173 [e] M = some (c, M)) (h : a = 0 ∨ c = 0) : E_C 262 [192, d, i, e, j, n] M = some (-1, M) := by
  rw [r_ent (show e_rok 262 [192, d, i, e, j, n] = true from decide_eq_true r_ref)]
  show e_tv E_C (E_V 262) e_t262_0 [192, d, i, e, j, n, 0, 0] M = _
  unfold e_t262_0
  by_cases q : a = 0
  · simp [e_tv, e_ev, e_sv, e_b1, e_b2, x_o1, x_o2, c0, c1, q]
  · have q2 := h.resolve_left q
    simp [e_tv, e_ev, e_sv, e_b1, e_b2, x_o1, x_o2, c0, c1, q, q2]
theorem h_262b {d i e j n a c : Int} {M : EM} (c0 : E_C 173 [d] M = some (1, M)) (c1 : E_C 173 [e] M = some (1, M)) (l1 : e_op 60 [195, d] M = some a) (l2 : e_op 60 [195, e] M = some c) (h : a = 0 ∨ c = 0) : E_C 262 [192, d, i, e, j, n] M = some (-11, M) := by
  rw [r_ent (show e_rok 262 [192, d, i, e, j, n] = true from decide_eq_true r_ref)]
  show e_tv E_C (E_V 262) e_t262_0 [192, d, i, e, j, n, 0, 0] M = _
  unfold e_t262_0
  by_cases q : a = 0
  · simp [e_tv, e_ev, e_sv, e_b1, e_b2, x_o1, x_o2, r_O2, c0, c1, l1, l2, q]
  · have q2 := h.resolve_left q
    simp [e_tv, e_ev, e_sv, e_b1, e_b2, x_o1, x_o2, r_O2, c0, c1, l1, l2, q, q2]
theorem h_262c {d i e j n a c s s' : Int} {M : EM} (c0 : E_C 173 [d] M = some (1, M)) (c1 : E_C 173 [e] M = some (1, M)) (l1 : e_op 60 [195, d] M = some a) (l2 : e_op 60 [195, e] M = some c) (ha : a ≠ 0) (hc : c ≠ 0) (l3 : e_op 60 [196, d] M = some s) (l4 : e_op 60 [196, e] M = some s') (h : a ≠ 2 ∨ c ≠ 2 ∨ s ≠ s') : E_C 262 [192, d, i, e, j, n] M = some (-12, M) := by
  rw [r_ent (show e_rok 262 [192, d, i, e, j, n] = true from decide_eq_true r_ref)]
  show e_tv E_C (E_V 262) e_t262_0 [192, d, i, e, j, n, 0, 0] M = _
  unfold e_t262_0
  by_cases q : a = 2
  · by_cases q2 : c = 2
    · have q3 : s ≠ s' := (h.resolve_left (fun h => h q)).resolve_left (fun h => h q2)
      simp [e_tv, e_ev, e_sv, e_b1, e_b2, x_o1, x_o2, r_O2, r_O3, c0, c1, l1, l2, l3, l4, q, q2, q3]
    · simp [e_tv, e_ev, e_sv, e_b1, e_b2, x_o1, x_o2, r_O2, r_O3, c0, c1, l1, l2, hc, q, q2]
  · simp [e_tv, e_ev, e_sv, e_b1, e_b2, x_o1, x_o2, r_O2, r_O3, c0, c1, l1, l2, ha, hc, q]
