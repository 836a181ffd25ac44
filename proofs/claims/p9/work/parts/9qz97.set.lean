/-! set: the two answers; what is told of CELLS stays related -/
def h_t1 (M : EM) : Prop := M 1 0 = 100 ∧ M 1 1 = 50 ∧ M 1 2 = 50 ∧ M 1 3 = 40
def h_z (w : Int) : Int := if w = 0 then 100 else if w = 3 then 40 else 50
theorem h_zb (w : Int) : 0 ≤ h_z w ∧ h_z w ≤ 100 := by
  unfold h_z
  by_cases c0 : w = 0
  · rw [if_pos c0]; decide
  · rw [if_neg c0]
    by_cases c3 : w = 3
    · rw [if_pos c3]; decide
    · rw [if_neg c3]; decide
theorem h_at1 {w : Int} {M : EM} (ht : h_t1 M) (hw : 0 ≤ w ∧ w < 4) : E_C 146 [1, w] M = some (h_z w, M) := by
  obtain ⟨t0, t1, t2, t3⟩ := ht
  have s : (e_sh (1 : Int).toNat) = (100, 4) := by decide +kernel
  rw [c_at 1 w M (Or.inr ⟨by decide, by decide, by rw [s]⟩), s, if_pos ⟨by decide, hw.1, hw.2⟩]
  refine congrArg some (congrArg (·, M) ?_)
  have h9 : w = 0 ∨ w = 1 ∨ w = 2 ∨ w = 3 := by omega
  rcases h9 with rfl | rfl | rfl | rfl
  · exact t0
  · exact t1
  · exact t2
  · exact t3
def h_Sq (w v : Int) : Prop := (0 ≤ w ∧ w < 4) ∧ 0 ≤ v ∧ v ≤ h_z w
theorem h_107s {p w v : Int} {M : EM} : E_C 107 [8, p, w, v] M = e_tv E_C (E_V 107) e_t107_0 [8, p, w, v, 0] M := r_ent (u := 107) (as := [8, p, w, v]) (M := M) (decide_eq_true c_this)
theorem h_107a {p w v i : Int} {M : EM} (ht : h_t1 M) (ip : E_C 149 [8, p] M = some (i, M)) (h : i = 0 ∨ ¬ h_Sq w v) : E_C 107 [8, p, w, v] M = some (-1, M) := by
  rw [h_107s]
  unfold e_t107_0
  by_cases c : i = 0
  · simp [e_tv, e_ev, e_sv, e_b1, e_b2, x_o1, x_o2, ip, c]
  · have h := h.resolve_left c
    rcases x_le 0 w with ⟨c1, c1_n⟩ | ⟨c1, c1_n⟩
    · rcases x_lt w 4 with ⟨c2, c2_n⟩ | ⟨c2, c2_n⟩
      · have t := h_at1 ht ⟨c1, c2⟩
        rcases x_le 0 v with ⟨c3, c3_n⟩ | ⟨c3, c3_n⟩
        · have c4 : h_z w < v := Int.not_le.mp fun e => h ⟨⟨c1, c2⟩, c3, e⟩
          simp [e_tv, e_ev, e_sv, e_b1, e_b2, x_o1, x_o2, ip, c, c1, c1_n, c2, c2_n, c3, c3_n, t, c4]
        · simp [e_tv, e_ev, e_sv, e_b1, e_b2, x_o1, x_o2, ip, c, c1, c1_n, c2, c2_n, c3, c3_n]
      · simp [e_tv, e_ev, e_sv, e_b1, e_b2, x_o1, x_o2, ip, c, c1, c1_n, c2, c2_n]
    · simp [e_tv, e_ev, e_sv, e_b1, e_b2, x_o1, x_o2, ip, c, c1, c1_n]
theorem h_107b {p w v : Int} {M : EM} (ht : h_t1 M) (ip : E_C 149 [8, p] M = some (1, M)) (j : E_C 150 [8, p, 0] M = some (0, M)) (h : h_Sq w v) : E_C 107 [8, p, w, v] M = some (-3, M) := by
  obtain ⟨⟨c1, c2⟩, c3, c4⟩ := h
  have t := h_at1 ht ⟨c1, c2⟩
  have c1' : ¬ w < 0 := by omega
  have c2' : ¬ 4 ≤ w := by omega
  have c3' : ¬ v < 0 := by omega
  have c4' : ¬ h_z w < v := by omega
  rw [h_107s]
  unfold e_t107_0
  simp [e_tv, e_ev, e_sv, e_b1, e_b2, x_o1, x_o2, ip, j, t, c1, c2, c3, c4, c1', c2', c3', c4']
theorem h_107c {p w v : Int} {M : EM} (ht : h_t1 M) (hp : 0 ≤ p ∧ p < 40) (ip : E_C 149 [8, p] M = some (1, M)) (j : E_C 150 [8, p, 0] M = some (1, M)) (h : h_Sq w v) : E_C 107 [8, p, w, v] M = some (M 21 (4 * p + w).toNat, e_up M 21 (4 * p + w).toNat v) := by
  obtain ⟨⟨c1, c2⟩, c3, c4⟩ := h
  have t := h_at1 ht ⟨c1, c2⟩
  have t2 : E_C 146 [21, 4 * p + w] M = some (M 21 (4 * p + w).toNat, M) := p_at (a := 21) (n := 160) (by decide +kernel) ⟨by omega, by omega⟩ M
  have l : ∀ v M, E_C 147 [21, 4 * p + w, v] M = some (0, e_up M 21 (4 * p + w).toNat v) := fun v M => p_layd (a := 21) (n := 160) (by decide +kernel) ⟨by omega, by omega⟩ M
  have w1 : e_w (p * 4) = 4 * p := by rw [Int.mul_comm]; exact a_w_id (by omega) (by omega)
  have w2 : e_w (4 * p + w) = 4 * p + w := a_w_id (by omega) (by omega)
  have c1' : ¬ w < 0 := by omega
  have c2' : ¬ 4 ≤ w := by omega
  have c3' : ¬ v < 0 := by omega
  have c4' : ¬ h_z w < v := by omega
  rw [h_107s]
  unfold e_t107_0
  simp [e_tv, e_ev, e_sv, e_b1, e_b2, x_o1, x_o2, p_704, w_H1, w_C2, ip, j, t, c1, c2, c3, c4, c1', c2', c3', c4', w1, w2, t2, l]
