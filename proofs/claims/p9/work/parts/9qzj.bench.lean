/-! the class spreads a PART out: exactly -/
theorem bx_G3 (M : EM) : e_gf 3 [170] M = some 9 := p_g 3 170 9 M (by decide +kernel)
theorem bx_G8 (M : EM) : e_gf 8 [170] M = some 171 := p_g 8 170 171 M (by decide +kernel)
theorem bx_G9 (M : EM) : e_gf 9 [170] M = some 172 := p_g 9 170 172 M (by decide +kernel)
theorem bx_Ga (M : EM) : e_gf 10 [170] M = some 173 := p_g 10 170 173 M (by decide +kernel)
theorem bx_Gb (M : EM) : e_gf 11 [170] M = some 174 := p_g 11 170 174 M (by decide +kernel)
theorem bx_Gc (M : EM) : e_gf 12 [170] M = some 175 := p_g 12 170 175 M (by decide +kernel)
theorem bx_Gd (M : EM) : e_gf 13 [170] M = some 176 := p_g 13 170 176 M (by decide +kernel)
theorem bx_Ge (M : EM) : e_gf 14 [170] M = some 177 := p_g 14 170 177 M (by decide +kernel)
theorem bx_Gf (M : EM) : e_gf 15 [170] M = some 178 := p_g 15 170 178 M (by decide +kernel)
theorem bx_Gg (M : EM) : e_gf 16 [170] M = some 179 := p_g 16 170 179 M (by decide +kernel)
theorem bx_Gh (M : EM) : e_gf 17 [170] M = some 180 := p_g 17 170 180 M (by decide +kernel)
theorem bx_Gi (M : EM) : e_gf 18 [170] M = some 181 := p_g 18 170 181 M (by decide +kernel)
theorem bx_F0 (M : EM) : e_gf 0 [170] M = some (M 170 0) := c_gf (by decide +kernel) (by decide +kernel)
theorem bx_F1 (M : EM) : e_gf 1 [170] M = some (M 170 1) := c_gf (by decide +kernel) (by decide +kernel)
theorem bx_F2 (M : EM) : e_gf 2 [170] M = some (M 170 2) := c_gf (by decide +kernel) (by decide +kernel)
theorem bx_F4 (M : EM) : e_gf 4 [170] M = some (M 170 4) := c_gf (by decide +kernel) (by decide +kernel)
theorem bx_F5 (M : EM) : e_gf 5 [170] M = some (M 170 5) := c_gf (by decide +kernel) (by decide +kernel)
theorem bx_F6 (M : EM) : e_gf 6 [170] M = some (M 170 6) := c_gf (by decide +kernel) (by decide +kernel)
theorem bx_F7 (M : EM) : e_gf 7 [170] M = some (M 170 7) := c_gf (by decide +kernel) (by decide +kernel)
theorem bx_P0 (v : Int) (M : EM) : e_pf 0 [170, v] M = some (e_up M 170 0 v) := c_pf (by decide +kernel) (by decide +kernel)
theorem bx_P1 (v : Int) (M : EM) : e_pf 1 [170, v] M = some (e_up M 170 1 v) := c_pf (by decide +kernel) (by decide +kernel)
theorem bx_P2 (v : Int) (M : EM) : e_pf 2 [170, v] M = some (e_up M 170 2 v) := c_pf (by decide +kernel) (by decide +kernel)
theorem bx_P4 (v : Int) (M : EM) : e_pf 4 [170, v] M = some (e_up M 170 4 v) := c_pf (by decide +kernel) (by decide +kernel)
theorem bx_P5 (v : Int) (M : EM) : e_pf 5 [170, v] M = some (e_up M 170 5 v) := c_pf (by decide +kernel) (by decide +kernel)
theorem bx_P6 (v : Int) (M : EM) : e_pf 6 [170, v] M = some (e_up M 170 6 v) := c_pf (by decide +kernel) (by decide +kernel)
theorem bx_P7 (v : Int) (M : EM) : e_pf 7 [170, v] M = some (e_up M 170 7 v) := c_pf (by decide +kernel) (by decide +kernel)
theorem bx_r {u : Nat} {as : List Int} {M : EM} (h : as.getD 0 0 = 170) (hc : q_rc (e_vm u) = some 0) : e_rok u as = true := by
  unfold e_rok
  rw [hc]
  show decide (e_isO 0 (as.getD 0 0)) = true
  rw [h]
  exact decide_eq_true (by decide +kernel)
/-- a row filled -/
def bx_fl (M : EM) (a n : Nat) (v : Int) (i : Nat) : EM := fun b j => if b = a ∧ i ≤ j ∧ j < n then v else M b j
theorem bx_fl_step {M : EM} {a n i : Nat} {v : Int} (h : i < n) : bx_fl (e_up M a i v) a n v (i + 1) = bx_fl M a n v i := by
  funext b j
  unfold bx_fl
  by_cases c : b = a ∧ j = i
  · obtain ⟨rfl, rfl⟩ := c
    rw [if_neg (by omega), if_pos ⟨rfl, Nat.le_refl _, h⟩, c_up_s]
  · by_cases c2 : b = a ∧ i + 1 ≤ j ∧ j < n
    · rw [if_pos c2, if_pos (by omega)]
    · rw [if_neg c2, if_neg (by omega), c_up_n c]
theorem bx_fill_loop {a n : Nat} {a0 n0 v : Int} (ha : a0 = a) (hn : n0 = n) (h8 : 8 ≤ a) (hN : a < e_N) (hs : e_sh a = (100, n)) (hn9 : n ≤ 100000) : ∀ (m i : Nat) (i0 : Int) (M : EM), i0 = i → i + m = n → E_V 270 5 [a0, v, i0, n0] M = some (0, bx_fl M a n v i) := by
  intro m
  induction m with
  | zero =>
    intro i i0 M hi hm
    have q : ¬ (i0 < n0) := by omega
    have e : bx_fl M a n v i = M := by
      funext b j
      exact if_neg (fun hc => by omega)
    rw [e, E_V_eq]
    show e_tv E_C (E_V 270) e_t270_5 [a0, v, i0, n0] M = _
    unfold e_t270_5
    simp [e_tv, e_ev, e_sv, e_b1, e_b2, x_o1, x_o2, q]
  | succ m ih =>
    intro i i0 M hi hm
    have k := ih (i + 1) (i0 + 1) (e_up M a i v) (by omega) (by omega)
    rw [bx_fl_step (by omega)] at k
    have hst : e_st 100 [a0, i0, v] M = some (e_up M a i v) := by
      have hin : (8 : Int) ≤ a0 ∧ e_in2 M 100 a0 i0 := ⟨by omega, by omega, by omega, by rw [ha, Int.toNat_natCast, hs], by omega, by
        have z : e_sz M a = n := (if_neg (by omega)).trans (by rw [hs])
        rw [ha, Int.toNat_natCast, z]
        omega⟩
      exact (if_pos hin).trans (by rw [ha, hi, Int.toNat_natCast, Int.toNat_natCast])
    have w : e_w (i0 + 1) = i0 + 1 := a_w_id (by omega) (by omega)
    have q : i0 < n0 := by omega
    have q_n : ¬ (n0 ≤ i0) := by omega
    rw [E_V_eq]
    show e_tv E_C (E_V 270) e_t270_5 [a0, v, i0, n0] M = _
    unfold e_t270_5
    simp [e_tv, e_ev, e_sv, e_b1, e_b2, x_o1, x_o2, q, q_n, hst, w, k]
theorem bx_fill {a n : Nat} {v : Int} (h8 : 8 ≤ a) (hN : a < e_N) (hs : e_sh a = (100, n)) (hn9 : n ≤ 100000) (M : EM) : E_C 270 [(a : Int), v] M = some (0, bx_fl M a n v 0) := by
  have k := bx_fill_loop (a := a) (n := n) (v := v) rfl rfl h8 hN hs hn9 n 0 0 M rfl (by omega)
  have l : e_op 63 [(a : Int)] M = some (n : Int) := p_len (a := (a : Int)) (n := n) ⟨by omega, by omega, by simp [hs], by simp [hs]⟩ M
  obtain ⟨a0, ha0⟩ : ∃ a0 : Int, (a : Int) = a0 := ⟨_, rfl⟩
  obtain ⟨n0, hn0⟩ : ∃ n0 : Int, (n : Int) = n0 := ⟨_, rfl⟩
  rw [ha0, hn0] at k
  rw [ha0, hn0] at l
  rw [ha0]
  rw [r_ent (show e_rok 270 [a0, v] = true from rfl)]
  show e_tv E_C (E_V 270) e_t270_0 [a0, v, 0, 0] M = _
  unfold e_t270_0
  simp [e_tv, e_ev, e_sv, e_b1, e_b2, x_o1, x_o2, l, k]
/-- nothing is spread out -/
def bx_cl (M : EM) : EM := bx_fl (e_up (e_up (e_up M 170 0 0) 170 4 0) 170 5 0) 172 40 0 0
theorem bx_clear (M : EM) : E_C 3 [170] M = some (0, bx_cl M) := by
  have f := fun M => bx_fill (a := 172) (n := 40) (v := 0) (by decide) (by decide) (by decide +kernel) (by decide) M
  have f' : ∀ M, E_C 270 [172, 0] M = some (0, bx_fl M 172 40 0 0) := f
  rw [r_ent (show e_rok 3 [170] = true from bx_r (M := M) rfl (by decide +kernel))]
  show e_tv E_C (E_V 3) e_t3_0 [170] M = _
  unfold e_t3_0 bx_cl
  simp [e_tv, e_ev, e_sv, e_b1, e_b2, x_o1, x_o2, bx_P0, bx_P4, bx_P5, bx_G9, f']
/-- CELL q stands at j, in GROUP y -/
def bx_cell (M0 M : EM) (j q : Nat) (y : Int) : Prop := M 174 j = q ∧ M 173 j = y ∧ M 176 j = M0 22 q ∧ ∀ a, a < 4 → M 175 (4 * j + a) = M0 21 (4 * q + a)
def bx_AC (M M' : EM) (j q : Nat) (y : Int) : Prop := bx_cell M M' j q y ∧ M' 170 0 = (j : Int) + 1 ∧ ∀ id k, ¬ (id = 174 ∧ k = j) → ¬ (id = 173 ∧ k = j) → ¬ (id = 176 ∧ k = j) → ¬ (id = 175 ∧ 4 * j ≤ k ∧ k < 4 * j + 4) → ¬ (id = 170 ∧ k = 0) → M' id k = M id k
theorem bx_5s {j q : Nat} {q0 y : Int} {M : EM} (hj : M 170 0 = j) (hj40 : j < 40) (hq : q0 = q) (hq40 : q < 40) {a : Nat} {a0 : Int} (ha : a0 = a) (ha4 : a < 4) : E_V 5 51 [170, q0, y, a0] M = E_V 5 51 [170, q0, y, a0 + 1] (e_up M 175 (4 * j + a) (M 21 (4 * q + a))) := by
  have w1 : e_w ((j : Int) * 4) = (j : Int) * 4 := a_w_id (by omega) (by omega)
  have w2 : e_w ((j : Int) * 4 + a0) = (j : Int) * 4 + a0 := a_w_id (by omega) (by omega)
  have w3 : e_w (q0 * 4) = q0 * 4 := a_w_id (by omega) (by omega)
  have w4 : e_w (q0 * 4 + a0) = q0 * 4 + a0 := a_w_id (by omega) (by omega)
  have w5 : e_w (a0 + 1) = a0 + 1 := a_w_id (by omega) (by omega)
  have t1 := w_atN (a := 21) (i := q0 * 4 + a0) (n := 160) (by decide +kernel) (j := 4 * q + a) (by omega) (by omega) M
  have l1 := fun v => w_layN (a := 175) (i := (j : Int) * 4 + a0) (n := 160) (by decide +kernel) (j := 4 * j + a) (by omega) (by omega) v M
  have t1' : E_C 146 [21, q0 * 4 + a0] M = some (M 21 (4 * q + a), M) := t1
  have l1' : ∀ v, E_C 147 [175, (j : Int) * 4 + a0, v] M = some (0, e_up M 175 (4 * j + a) v) := l1
  have q4 : a0 < 4 := by omega
  rw [E_V_eq]
  show e_tv E_C (E_V 5) e_t5_51 [170, q0, y, a0] M = _
  unfold e_t5_51
  simp [e_tv, e_ev, e_sv, e_b1, e_b2, x_o1, x_o2, bx_F0, bx_G3, bx_Gc, w_H1, w_C2, hj, q4, w1, w2, w3, w4, w5, t1', l1']
theorem bx_5e {q0 y : Int} {j : Int} {M : EM} (hj : M 170 0 = j) (hj40 : 0 ≤ j ∧ j < 40) : E_V 5 51 [170, q0, y, 4] M = some (0, e_up M 170 0 (j + 1)) := by
  have w5 : e_w (j + 1) = j + 1 := a_w_id (by omega) (by omega)
  rw [E_V_eq]
  show e_tv E_C (E_V 5) e_t5_51 [170, q0, y, 4] M = _
  unfold e_t5_51
  simp [e_tv, e_ev, e_sv, e_b1, e_b2, x_o1, x_o2, bx_F0, bx_P0, hj, w5]
theorem bx_5 {j q : Nat} {q0 y : Int} {M : EM} (hj : M 170 0 = j) (hj40 : j < 40) (hq : q0 = q) (hq40 : q < 40) : ∃ M', E_C 5 [170, q0, y] M = some (0, M') ∧ bx_AC M M' j q y := by
  obtain ⟨N, hN⟩ : ∃ N, e_up (e_up (e_up M 174 j q0) 173 j y) 176 j (M 22 q) = N := ⟨_, rfl⟩
  have e0 : ∀ id k, ¬ (id = 174 ∧ k = j) → ¬ (id = 173 ∧ k = j) → ¬ (id = 176 ∧ k = j) → N id k = M id k := fun id k h1 h2 h3 => by
    rw [← hN, c_up_n h3, c_up_n h2, c_up_n h1]
  have nj : N 170 0 = j := (e0 _ _ (by omega) (by omega) (by omega)).trans hj
  obtain ⟨N1, hN1⟩ : ∃ N1, e_up N 175 (4 * j + 0) (N 21 (4 * q + 0)) = N1 := ⟨_, rfl⟩
  have e1 : ∀ id k, ¬ (id = 175 ∧ k = 4 * j + 0) → N1 id k = N id k := fun id k h => by rw [← hN1, c_up_n h]
  obtain ⟨N2, hN2⟩ : ∃ N2, e_up N1 175 (4 * j + 1) (N1 21 (4 * q + 1)) = N2 := ⟨_, rfl⟩
  have e2 : ∀ id k, ¬ (id = 175 ∧ k = 4 * j + 1) → N2 id k = N1 id k := fun id k h => by rw [← hN2, c_up_n h]
  obtain ⟨N3, hN3⟩ : ∃ N3, e_up N2 175 (4 * j + 2) (N2 21 (4 * q + 2)) = N3 := ⟨_, rfl⟩
  have e3 : ∀ id k, ¬ (id = 175 ∧ k = 4 * j + 2) → N3 id k = N2 id k := fun id k h => by rw [← hN3, c_up_n h]
  obtain ⟨N4, hN4⟩ : ∃ N4, e_up N3 175 (4 * j + 3) (N3 21 (4 * q + 3)) = N4 := ⟨_, rfl⟩
  have e4 : ∀ id k, ¬ (id = 175 ∧ k = 4 * j + 3) → N4 id k = N3 id k := fun id k h => by rw [← hN4, c_up_n h]
  have j1 : N1 170 0 = j := (e1 _ _ (by omega)).trans nj
  have j2 : N2 170 0 = j := (e2 _ _ (by omega)).trans j1
  have j3 : N3 170 0 = j := (e3 _ _ (by omega)).trans j2
  have j4 : N4 170 0 = j := (e4 _ _ (by omega)).trans j3
  have s1 := bx_5s (y := y) nj hj40 hq hq40 (a := 0) (a0 := 0) rfl (by decide)
  have s2 := bx_5s (y := y) j1 hj40 hq hq40 (a := 1) (a0 := 1) rfl (by decide)
  have s3 := bx_5s (y := y) j2 hj40 hq hq40 (a := 2) (a0 := 2) rfl (by decide)
  have s4 := bx_5s (y := y) j3 hj40 hq hq40 (a := 3) (a0 := 3) rfl (by decide)
  rw [hN1] at s1
  rw [hN2] at s2
  rw [hN3] at s3
  rw [hN4] at s4
  have s5 := bx_5e (q0 := q0) (y := y) j4 ⟨by omega, by omega⟩
  have sg : E_V 5 51 [170, q0, y, 0] N = some (0, e_up N4 170 0 ((j : Int) + 1)) := s1.trans (s2.trans (s3.trans (s4.trans s5)))
  refine ⟨e_up N4 170 0 ((j : Int) + 1), ?_, ⟨?_, ?_, ?_, fun a ha => ?_⟩, c_up_s, fun id k h1 h2 h3 h4 h5 => ?_⟩
  · have l1 := fun v M => w_layN (a := 174) (i := (j : Int)) (n := 40) (by decide +kernel) (j := j) rfl hj40 v M
    have l2 := fun v M => w_layN (a := 173) (i := (j : Int)) (n := 40) (by decide +kernel) (j := j) rfl hj40 v M
    have l3 := fun v M => w_layN (a := 176) (i := (j : Int)) (n := 40) (by decide +kernel) (j := j) rfl hj40 v M
    have t3 := fun M => w_atN (a := 22) (i := q0) (n := 40) (by decide +kernel) (j := q) hq hq40 M
    have l1' : ∀ v M, E_C 147 [174, (j : Int), v] M = some (0, e_up M 174 j v) := l1
    have l2' : ∀ v M, E_C 147 [173, (j : Int), v] M = some (0, e_up M 173 j v) := l2
    have l3' : ∀ v M, E_C 147 [176, (j : Int), v] M = some (0, e_up M 176 j v) := l3
    have t3' : ∀ M, E_C 146 [22, q0] M = some (M 22 q, M) := t3
    obtain ⟨jj, hjj⟩ : ∃ jj : Int, (j : Int) = jj := ⟨_, rfl⟩
    rw [hjj] at hj
    rw [hjj] at l1' l2' l3'
    have h0 : ∀ (q0 y : Int), (e_up (e_up M 174 j q0) 173 j y) 22 q = M 22 q := fun q0 y => by rw [c_up_n (by omega), c_up_n (by omega)]
    have h1 : ∀ q0, e_up M 174 j q0 170 0 = jj := fun q0 => by rw [c_up_n (by omega)]; exact hj
    have h2 : ∀ q0 y, e_up (e_up M 174 j q0) 173 j y 170 0 = jj := fun q0 y => by rw [c_up_n (by omega), c_up_n (by omega)]; exact hj
    rw [← hN] at sg
    rw [r_ent (show e_rok 5 [170, q0, y] = true from bx_r (M := M) rfl (by decide +kernel))]
    show e_tv E_C (E_V 5) e_t5_0 [170, q0, y, 0] M = _
    unfold e_t5_0
    simp [e_tv, e_ev, e_sv, e_b1, e_b2, x_o1, x_o2, bx_F0, bx_G3, bx_Ga, bx_Gb, bx_Gd, w_H1, w_C3, hj, h0, h1, h2, l1', l2', l3', t3', sg]
  · rw [c_up_n (by omega), e4 _ _ (by omega), e3 _ _ (by omega), e2 _ _ (by omega), e1 _ _ (by omega), ← hN, c_up_n (by omega), c_up_n (by omega), c_up_s, hq]
  · rw [c_up_n (by omega), e4 _ _ (by omega), e3 _ _ (by omega), e2 _ _ (by omega), e1 _ _ (by omega), ← hN, c_up_n (by omega), c_up_s]
  · rw [c_up_n (by omega), e4 _ _ (by omega), e3 _ _ (by omega), e2 _ _ (by omega), e1 _ _ (by omega), ← hN, c_up_s]
  · have f : ∀ k, N 21 k = M 21 k := fun k => e0 _ _ (by omega) (by omega) (by omega)
    have f1 : ∀ k, N1 21 k = M 21 k := fun k => (e1 _ _ (by omega)).trans (f k)
    have f2 : ∀ k, N2 21 k = M 21 k := fun k => (e2 _ _ (by omega)).trans (f1 k)
    have f3 : ∀ k, N3 21 k = M 21 k := fun k => (e3 _ _ (by omega)).trans (f2 k)
    rw [c_up_n (by omega)]
    have h4 : a = 0 ∨ a = 1 ∨ a = 2 ∨ a = 3 := by omega
    rcases h4 with rfl | rfl | rfl | rfl
    · rw [e4 _ _ (by omega), e3 _ _ (by omega), e2 _ _ (by omega), ← hN1, c_up_s, f]
    · rw [e4 _ _ (by omega), e3 _ _ (by omega), ← hN2, c_up_s, f1]
    · rw [e4 _ _ (by omega), ← hN3, c_up_s, f2]
    · rw [← hN4, c_up_s, f3]
  · rw [c_up_n h5, e4 _ _ (by omega), e3 _ _ (by omega), e2 _ _ (by omega), e1 _ _ (by omega), e0 _ _ h1 h2 h3]
