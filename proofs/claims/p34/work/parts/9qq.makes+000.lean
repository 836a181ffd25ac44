/-! the reference makes the PART of a STATEMENT: exactly -/
theorem y_m0 {M : EM} (h : e_op 60 [193, 1198] M = some 40) : E_C 188 [192] M = some (0, M) := by
  rw [r_ent (show e_rok 188 [192] = true from decide_eq_true r_ref)]
  show e_tv E_C (E_V 188) e_t188_0 [192, 0, 0, 0, 0] M = _
  unfold e_t188_0
  simp [e_tv, e_ev, e_sv, e_b1, e_b2, x_o1, x_o2, r_O0, h]
theorem y_m1 {P : Int} {M : EM} (h : e_op 60 [193, 1198] M = some P) (hp : P ≠ 40) : E_C 188 [192] M = E_V 188 19 [192, P, 0, 0, 0] M := by
  rw [r_ent (show e_rok 188 [192] = true from decide_eq_true r_ref)]
  show e_tv E_C (E_V 188) e_t188_0 [192, 0, 0, 0, 0] M = _
  unfold e_t188_0
  simp [e_tv, e_ev, e_sv, e_b1, e_b2, x_o1, x_o2, r_O0, h, hp]
theorem y_m19 {P x2 x4 ia y : Int} {na : Nat} {M : EM} (h : x2 < 28) (v1 : e_w (28 * P) = 28 * P) (v2 : e_w (28 * P + x2) = ia) (s1 : ∀ v, e_st 100 [193, ia, v] M = some (e_up M 193 na v)) (w : e_w (x2 + 1) = y) : E_V 188 19 [192, P, x2, 0, x4] M = E_V 188 19 [192, P, y, 0, x4] (e_up M 193 na 0) := by
  rw [E_V_eq]
  show e_tv E_C (E_V 188) e_t188_19 [192, P, x2, 0, x4] M = _
  unfold e_t188_19
  simp [e_tv, e_ev, e_sv, e_b1, e_b2, x_o1, x_o2, r_O0, h, v1, v2, s1, w]
theorem y_mC {P x4 r ia ib : Int} {na nb : Nat} {M M' : EM} (ks : E_C 177 [192] M = some (99, M)) (v1 : e_w (28 * P) = ia) (s1 : ∀ v, e_st 100 [193, ia, v] M = some (e_up M 193 na v)) (k : E_C 184 [192, P] (e_up M 193 na 0) = some (r, M')) (v2 : e_w (ia + 15) = ib) (s2 : ∀ v, e_st 100 [193, ib, v] M' = some (e_up M' 193 nb v)) : E_V 188 19 [192, P, 28, 0, x4] M = E_V 188 159 [192, P, 99, 0, r] (e_up M' 193 nb 100) := by
  rw [E_V_eq]
  show e_tv E_C (E_V 188) e_t188_19 [192, P, 28, 0, x4] M = _
  unfold e_t188_19
  simp [e_tv, e_ev, e_sv, e_b1, e_b2, x_o1, x_o2, r_O0, ks, v1, s1, k, v2, s2]
theorem y_mR {P x4 r ia : Int} {na : Nat} {M M' : EM} (ks : E_C 177 [192] M = some (114, M)) (v1 : e_w (28 * P) = ia) (s1 : ∀ v, e_st 100 [193, ia, v] M = some (e_up M 193 na v)) (k : E_C 186 [192, P] (e_up M 193 na 1) = some (r, M')) : E_V 188 19 [192, P, 28, 0, x4] M = E_V 188 159 [192, P, 114, 1, r] M' := by
  rw [E_V_eq]
  show e_tv E_C (E_V 188) e_t188_19 [192, P, 28, 0, x4] M = _
  unfold e_t188_19
  simp [e_tv, e_ev, e_sv, e_b1, e_b2, x_o1, x_o2, r_O0, ks, v1, s1, k]
theorem y_mF {P x4 r ia : Int} {na : Nat} {M M' : EM} (ks : E_C 177 [192] M = some (102, M)) (v1 : e_w (28 * P) = ia) (s1 : ∀ v, e_st 100 [193, ia, v] M = some (e_up M 193 na v)) (k : E_C 187 [192, P, 6, 3] (e_up M 193 na 2) = some (r, M')) : E_V 188 19 [192, P, 28, 0, x4] M = E_V 188 159 [192, P, 102, 2, r] M' := by
  rw [E_V_eq]
  show e_tv E_C (E_V 188) e_t188_19 [192, P, 28, 0, x4] M = _
  unfold e_t188_19
  simp [e_tv, e_ev, e_sv, e_b1, e_b2, x_o1, x_o2, r_O0, ks, v1, s1, k]
theorem y_mB {P x4 r ia c : Int} {na : Nat} {M M' : EM} (ks : E_C 177 [192] M = some (c, M)) (c1 : c ≠ 99) (c2 : c ≠ 114) (c3 : c ≠ 102) (v1 : e_w (28 * P) = ia) (s1 : ∀ v, e_st 100 [193, ia, v] M = some (e_up M 193 na v)) (k : E_C 187 [192, P, 1, 7] (e_up M 193 na 3) = some (r, M')) : E_V 188 19 [192, P, 28, 0, x4] M = E_V 188 159 [192, P, c, 3, r] M' := by
  rw [E_V_eq]
  show e_tv E_C (E_V 188) e_t188_19 [192, P, 28, 0, x4] M = _
  unfold e_t188_19
  simp [e_tv, e_ev, e_sv, e_b1, e_b2, x_o1, x_o2, r_O0, ks, c1, c2, c3, v1, s1, k]
theorem y_m159n {P x2 x3 r : Int} {M : EM} (h : x3 ≠ 3) : E_V 188 159 [192, P, x2, x3, r] M = E_V 188 189 [192, P, x2, x3, r] M := by
  rw [E_V_eq]
  show e_tv E_C (E_V 188) e_t188_159 [192, P, x2, x3, r] M = _
  unfold e_t188_159
  simp [e_tv, e_ev, e_sv, e_b1, e_b2, x_o1, x_o2, h]
theorem y_m159y {P x2 r ia ib : Int} {na nb : Nat} {M : EM} (v1 : e_w (28 * P) = 28 * P) (v2 : e_w (28 * P + 5) = ia) (v3 : e_w (28 * P + 6) = ib) (s1 : ∀ v, e_st 100 [193, ia, v] M = some (e_up M 193 na v)) (s2 : ∀ v M, e_st 100 [193, ib, v] M = some (e_up M 193 nb v)) : E_V 188 159 [192, P, x2, 3, r] M = E_V 188 189 [192, P, x2, 3, r] (e_up (e_up M 193 na 5) 193 nb 1) := by
  rw [E_V_eq]
  show e_tv E_C (E_V 188) e_t188_159 [192, P, x2, 3, r] M = _
  unfold e_t188_159
  simp [e_tv, e_ev, e_sv, e_b1, e_b2, x_o1, x_o2, r_O0, v1, v2, v3, s1, s2]
theorem y_m189 {P x2 x3 r pos k1 q q1 : Int} {M M1 : EM} (h15 : M 192 15 = pos) (w1 : e_w (pos + 1) = k1) (hM1 : e_up M 192 15 k1 = M1) (l : e_op 60 [193, 1198] M1 = some q) (w2 : e_w (q + 1) = q1) (s1 : ∀ v, e_st 100 [193, 1198, v] M1 = some (e_up M1 193 1198 v)) : E_V 188 189 [192, P, x2, x3, r] M = some (r, e_up M1 193 1198 q1) := by
  rw [E_V_eq]
  show e_tv E_C (E_V 188) e_t188_189 [192, P, x2, x3, r] M = _
  unfold e_t188_189
  simp [e_tv, e_ev, e_sv, e_b1, e_b2, x_o1, x_o2, r_O0, r_F15, r_P15, h15, w1, hM1, l, w2, s1]
/-- the new PART's row is empty but for its KIND -/
def y_zk (g g0 : Int → Int) (p : Nat) (kd : Int) : Prop := g0 (28 * (p : Int)) = kd ∧ (∀ d, 1 ≤ d → d < 28 → g0 (28 * (p : Int) + d) = 0) ∧ (∀ x, 0 ≤ x → (x < 28 * (p : Int) ∨ 28 * (p : Int) + 28 ≤ x) → g0 x = g x)
