section
/-! the class spreads a PART out: exactly -/
theorem bx_G3 (M : EM) : e_gf 3 [170] M = some 9 := p_g 3 170 9 M (by decide +kernel)
theorem bx_G8 (M : EM) : e_gf 8 [170] M = some 171 := p_g 8 170 171 M (by decide +kernel)
theorem bx_G9 (M : EM) : e_gf 9 [170] M = some 172 := p_g 9 170 172 M (by decide +kernel)
theorem bx_Ga (M : EM) : e_gf 10 [170] M = some 173 := p_g 10 170 173 M (by decide +kernel)
theorem bx_Gb (M : EM) : e_gf 11 [170] M = some 174 := p_g 11 170 174 M (by decide +kernel)
theorem bx_Gc (M : EM) : e_gf 12 [170] M = some 175 := p_g 12 170 175 M (by decide +kernel)
theorem bx_Gd (M : EM) : e_gf 13 [170] M = some 176 := p_g 13 170 176 M (by decide +kernel)
theorem bx_Ge (M : EM) : e_gf 14 [170] M = some 177 := p_g 14 170 177 M (by decide +kernel)
theorem bx_Gf (M : EM) : e_gf 15 [170] M = some 178 := p_g 15 170 178 M (by decide +kernel)
theorem bx_Gg (M : EM) : e_gf 16 [170] M = some 179 := p_g 16 170 179 M (by decide +kernel)
theorem bx_Gh (M : EM) : e_gf 17 [170] M = some 180 := p_g 17 170 180 M (by decide +kernel)
theorem bx_Gi (M : EM) : e_gf 18 [170] M = some 181 := p_g 18 170 181 M (by decide +kernel)
theorem bx_F0 (M : EM) : e_gf 0 [170] M = some (M 170 0) := c_gf (by decide +kernel) (by decide +kernel)
theorem bx_F1 (M : EM) : e_gf 1 [170] M = some (M 170 1) := c_gf (by decide +kernel) (by decide +kernel)
theorem bx_F2 (M : EM) : e_gf 2 [170] M = some (M 170 2) := c_gf (by decide +kernel) (by decide +kernel)
theorem bx_F4 (M : EM) : e_gf 4 [170] M = some (M 170 4) := c_gf (by decide +kernel) (by decide +kernel)
theorem bx_F5 (M : EM) : e_gf 5 [170] M = some (M 170 5) := c_gf (by decide +kernel) (by decide +kernel)
theorem bx_F6 (M : EM) : e_gf 6 [170] M = some (M 170 6) := c_gf (by decide +kernel) (by decide +kernel)
theorem bx_F7 (M : EM) : e_gf 7 [170] M = some (M 170 7) := c_gf (by decide +kernel) (by decide +kernel)
theorem bx_P0 (v : Int) (M : EM) : e_pf 0 [170, v] M = some (e_up M 170 0 v) := c_pf (by decide +kernel) (by decide +kernel)
theorem bx_P1 (v : Int) (M : EM) : e_pf 1 [170, v] M = some (e_up M 170 1 v) := c_pf (by decide +kernel) (by decide +kernel)
theorem bx_P2 (v : Int) (M : EM) : e_pf 2 [170, v] M = some (e_up M 170 2 v) := c_pf (by decide +kernel) (by decide +kernel)
theorem bx_P4 (v : Int) (M : EM) : e_pf 4 [170, v] M = some (e_up M 170 4 v) := c_pf (by decide +kernel) (by decide +kernel)
theorem bx_P5 (v : Int) (M : EM) : e_pf 5 [170, v] M = some (e_up M 170 5 v) := c_pf (by decide +kernel) (by decide +kernel)
theorem bx_P6 (v : Int) (M : EM) : e_pf 6 [170, v] M = some (e_up M 170 6 v) := c_pf (by decide +kernel) (by decide +kernel)
theorem bx_P7 (v : Int) (M : EM) : e_pf 7 [170, v] M = some (e_up M 170 7 v) := c_pf (by decide +kernel) (by decide +kernel)
theorem bx_r {u : Nat} {as : List Int} {M : EM} (h : as.getD 0 0 = 170) (hc : q_rc (e_vm u) = some 0) : e_rok u as = true := by
  unfold e_rok
  rw [hc]
  show decide (e_isO 0 (as.getD 0 0)) = true
  rw [h]
  exact decide_eq_true (by decide +kernel)
/-- a row filled -/
def bx_fl (M : EM) (a n : Nat) (v : Int) (i : Nat) : EM := fun b j => if b = a ∧ i ≤ j ∧ j < n then v else M b j
theorem bx_fl_step {M : EM} {a n i : Nat} {v : Int} (h : i < n) : bx_fl (e_up M a i v) a n v (i + 1) = bx_fl M a n v i := by
  funext b j
  unfold bx_fl
  by_cases c : b = a ∧ j = i
  · obtain ⟨rfl, rfl⟩ := c
    rw [if_neg (by omega), if_pos ⟨rfl, Nat.le_refl _, h⟩, c_up_s]
  · by_cases c2 : b = a ∧ i + 1 ≤ j ∧ j < n
    · rw [if_pos c2, if_pos (by omega)]
    · rw [if_neg c2, if_neg (by omega), c_up_n c]
theorem bx_fill_loop {a n : Nat} {a0 n0 v : Int} (ha : a0 = a) (hn : n0 = n) (h8 : 8 ≤ a) (hN : a < e_N) (hs : e_sh a = (100, n)) (hn9 : n ≤ 100000) : ∀ (m i : Nat) (i0 : Int) (M : EM), i0 = i → i + m = n → E_V 270 5 [a0, v, i0, n0] M = some (0, bx_fl M a n v i) := by
  intro m
  induction m with
  | zero =>
    intro i i0 M hi hm
    have q : ¬ (i0 < n0) := by omega
    have e : bx_fl M a n v i = M := by
      funext b j
      exact if_neg (fun hc => by omega)
    rw [e, E_V_eq]
    show e_tv E_C (E_V 270) e_t270_5 [a0, v, i0, n0] M = _
    unfold e_t270_5
    simp [e_tv, e_ev, e_sv, e_b1, e_b2, x_o1, x_o2, q]
  | succ m ih =>
    intro i i0 M hi hm
    have k := ih (i + 1) (i0 + 1) (e_up M a i v) (by omega) (by omega)
    rw [bx_fl_step (by omega)] at k
    have hst : e_st 100 [a0, i0, v] M = some (e_up M a i v) := by
      have hin : (8 : Int) ≤ a0 ∧ e_in2 M 100 a0 i0 := ⟨by omega, by omega, by omega, by rw [ha, Int.toNat_natCast, hs], by omega, by
        have z : e_sz M a = n := (if_neg (by omega)).trans (by rw [hs])
        rw [ha, Int.toNat_natCast, z]
        omega⟩
      exact (if_pos hin).trans (by rw [ha, hi, Int.toNat_natCast, Int.toNat_natCast])
    have w : e_w (i0 + 1) = i0 + 1 := a_w_id (by omega) (by omega)
    have q : i0 < n0 := by omega
    have q_n : ¬ (n0 ≤ i0) := by omega
    rw [E_V_eq]
    show e_tv E_C (E_V 270) e_t270_5 [a0, v, i0, n0] M = _
    unfold e_t270_5
    simp [e_tv, e_ev, e_sv, e_b1, e_b2, x_o1, x_o2, q, q_n, hst, w, k]
theorem bx_fill {a n : Nat} {v : Int} (h8 : 8 ≤ a) (hN : a < e_N) (hs : e_sh a = (100, n)) (hn9 : n ≤ 100000) (M : EM) : E_C 270 [(a : Int), v] M = some (0, bx_fl M a n v 0) := by
  have k := bx_fill_loop (a := a) (n := n) (v := v) rfl rfl h8 hN hs hn9 n 0 0 M rfl (by omega)
  have l : e_op 63 [(a : Int)] M = some (n : Int) := p_len (a := (a : Int)) (n := n) ⟨by omega, by omega, by simp [hs], by simp [hs]⟩ M
  obtain ⟨a0, ha0⟩ : ∃ a0 : Int, (a : Int) = a0 := ⟨_, rfl⟩
  obtain ⟨n0, hn0⟩ : ∃ n0 : Int, (n : Int) = n0 := ⟨_, rfl⟩
  rw [ha0, hn0] at k
  rw [ha0, hn0] at l
  rw [ha0]
  rw [r_ent (show e_rok 270 [a0, v] = true from rfl)]
  show e_tv E_C (E_V 270) e_t270_0 [a0, v, 0, 0] M = _
  unfold e_t270_0
  simp [e_tv, e_ev, e_sv, e_b1, e_b2, x_o1, x_o2, l, k]
/-- nothing is spread out -/
def bx_cl (M : EM) : EM := bx_fl (e_up (e_up (e_up M 170 0 0) 170 4 0) 170 5 0) 172 40 0 0
theorem bx_clear (M : EM) : E_C 3 [170] M = some (0, bx_cl M) := by
  have f := fun M => bx_fill (a := 172) (n := 40) (v := 0) (by decide) (by decide) (by decide +kernel) (by decide) M
  have f' : ∀ M, E_C 270 [172, 0] M = some (0, bx_fl M 172 40 0 0) := f
  rw [r_ent (show e_rok 3 [170] = true from bx_r (M := M) rfl (by decide +kernel))]
  show e_tv E_C (E_V 3) e_t3_0 [170] M = _
  unfold e_t3_0 bx_cl
  simp [e_tv, e_ev, e_sv, e_b1, e_b2, x_o1, x_o2, bx_P0, bx_P4, bx_P5, bx_G9, f']
/-- CELL q stands at j, in GROUP y -/
def bx_cell (M0 M : EM) (j q : Nat) (y : Int) : Prop := M 174 j = q ∧ M 173 j = y ∧ M 176 j = M0 22 q ∧ ∀ a, a < 4 → M 175 (4 * j + a) = M0 21 (4 * q + a)
def bx_AC (M M' : EM) (j q : Nat) (y : Int) : Prop := bx_cell M M' j q y ∧ M' 170 0 = (j : Int) + 1 ∧ ∀ id k, ¬ (id = 174 ∧ k = j) → ¬ (id = 173 ∧ k = j) → ¬ (id = 176 ∧ k = j) → ¬ (id = 175 ∧ 4 * j ≤ k ∧ k < 4 * j + 4) → ¬ (id = 170 ∧ k = 0) → M' id k = M id k
theorem bx_5s {j q : Nat} {q0 y : Int} {M : EM} (hj : M 170 0 = j) (hj40 : j < 40) (hq : q0 = q) (hq40 : q < 40) {a : Nat} {a0 : Int} (ha : a0 = a) (ha4 : a < 4) : E_V 5 51 [170, q0, y, a0] M = E_V 5 51 [170, q0, y, a0 + 1] (e_up M 175 (4 * j + a) (M 21 (4 * q + a))) := by
  have w1 : e_w ((j : Int) * 4) = (j : Int) * 4 := a_w_id (by omega) (by omega)
  have w2 : e_w ((j : Int) * 4 + a0) = (j : Int) * 4 + a0 := a_w_id (by omega) (by omega)
  have w3 : e_w (q0 * 4) = q0 * 4 := a_w_id (by omega) (by omega)
  have w4 : e_w (q0 * 4 + a0) = q0 * 4 + a0 := a_w_id (by omega) (by omega)
  have w5 : e_w (a0 + 1) = a0 + 1 := a_w_id (by omega) (by omega)
  have t1 := w_atN (a := 21) (i := q0 * 4 + a0) (n := 160) (by decide +kernel) (j := 4 * q + a) (by omega) (by omega) M
  have l1 := fun v => w_layN (a := 175) (i := (j : Int) * 4 + a0) (n := 160) (by decide +kernel) (j := 4 * j + a) (by omega) (by omega) v M
  have t1' : E_C 146 [21, q0 * 4 + a0] M = some (M 21 (4 * q + a), M) := t1
  have l1' : ∀ v, E_C 147 [175, (j : Int) * 4 + a0, v] M = some (0, e_up M 175 (4 * j + a) v) := l1
  have q4 : a0 < 4 := by omega
  rw [E_V_eq]
  show e_tv E_C (E_V 5) e_t5_51 [170, q0, y, a0] M = _
  unfold e_t5_51
  simp [e_tv, e_ev, e_sv, e_b1, e_b2, x_o1, x_o2, bx_F0, bx_G3, bx_Gc, w_H1, w_C2, hj, q4, w1, w2, w3, w4, w5, t1', l1']
theorem bx_5e {q0 y : Int} {j : Int} {M : EM} (hj : M 170 0 = j) (hj40 : 0 ≤ j ∧ j < 40) : E_V 5 51 [170, q0, y, 4] M = some (0, e_up M 170 0 (j + 1)) := by
  have w5 : e_w (j + 1) = j + 1 := a_w_id (by omega) (by omega)
  rw [E_V_eq]
  show e_tv E_C (E_V 5) e_t5_51 [170, q0, y, 4] M = _
  unfold e_t5_51
  simp [e_tv, e_ev, e_sv, e_b1, e_b2, x_o1, x_o2, bx_F0, bx_P0, hj, w5]
theorem bx_5 {j q : Nat} {q0 y : Int} {M : EM} (hj : M 170 0 = j) (hj40 : j < 40) (hq : q0 = q) (hq40 : q < 40) : ∃ M', E_C 5 [170, q0, y] M = some (0, M') ∧ bx_AC M M' j q y := by
  obtain ⟨N, hN⟩ : ∃ N, e_up (e_up (e_up M 174 j q0) 173 j y) 176 j (M 22 q) = N := ⟨_, rfl⟩
  have e0 : ∀ id k, ¬ (id = 174 ∧ k = j) → ¬ (id = 173 ∧ k = j) → ¬ (id = 176 ∧ k = j) → N id k = M id k := fun id k h1 h2 h3 => by
    rw [← hN, c_up_n h3, c_up_n h2, c_up_n h1]
  have nj : N 170 0 = j := (e0 _ _ (by omega) (by omega) (by omega)).trans hj
  obtain ⟨N1, hN1⟩ : ∃ N1, e_up N 175 (4 * j + 0) (N 21 (4 * q + 0)) = N1 := ⟨_, rfl⟩
  have e1 : ∀ id k, ¬ (id = 175 ∧ k = 4 * j + 0) → N1 id k = N id k := fun id k h => by rw [← hN1, c_up_n h]
  obtain ⟨N2, hN2⟩ : ∃ N2, e_up N1 175 (4 * j + 1) (N1 21 (4 * q + 1)) = N2 := ⟨_, rfl⟩
  have e2 : ∀ id k, ¬ (id = 175 ∧ k = 4 * j + 1) → N2 id k = N1 id k := fun id k h => by rw [← hN2, c_up_n h]
  obtain ⟨N3, hN3⟩ : ∃ N3, e_up N2 175 (4 * j + 2) (N2 21 (4 * q + 2)) = N3 := ⟨_, rfl⟩
  have e3 : ∀ id k, ¬ (id = 175 ∧ k = 4 * j + 2) → N3 id k = N2 id k := fun id k h => by rw [← hN3, c_up_n h]
  obtain ⟨N4, hN4⟩ : ∃ N4, e_up N3 175 (4 * j + 3) (N3 21 (4 * q + 3)) = N4 := ⟨_, rfl⟩
  have e4 : ∀ id k, ¬ (id = 175 ∧ k = 4 * j + 3) → N4 id k = N3 id k := fun id k h => by rw [← hN4, c_up_n h]
  have j1 : N1 170 0 = j := (e1 _ _ (by omega)).trans nj
  have j2 : N2 170 0 = j := (e2 _ _ (by omega)).trans j1
  have j3 : N3 170 0 = j := (e3 _ _ (by omega)).trans j2
  have j4 : N4 170 0 = j := (e4 _ _ (by omega)).trans j3
  have s1 := bx_5s (y := y) nj hj40 hq hq40 (a := 0) (a0 := 0) rfl (by decide)
  have s2 := bx_5s (y := y) j1 hj40 hq hq40 (a := 1) (a0 := 1) rfl (by decide)
  have s3 := bx_5s (y := y) j2 hj40 hq hq40 (a := 2) (a0 := 2) rfl (by decide)
  have s4 := bx_5s (y := y) j3 hj40 hq hq40 (a := 3) (a0 := 3) rfl (by decide)
  rw [hN1] at s1
  rw [hN2] at s2
  rw [hN3] at s3
  rw [hN4] at s4
  have s5 := bx_5e (q0 := q0) (y := y) j4 ⟨by omega, by omega⟩
  have sg : E_V 5 51 [170, q0, y, 0] N = some (0, e_up N4 170 0 ((j : Int) + 1)) := s1.trans (s2.trans (s3.trans (s4.trans s5)))
  refine ⟨e_up N4 170 0 ((j : Int) + 1), ?_, ⟨?_, ?_, ?_, fun a ha => ?_⟩, c_up_s, fun id k h1 h2 h3 h4 h5 => ?_⟩
  · have l1 := fun v M => w_layN (a := 174) (i := (j : Int)) (n := 40) (by decide +kernel) (j := j) rfl hj40 v M
    have l2 := fun v M => w_layN (a := 173) (i := (j : Int)) (n := 40) (by decide +kernel) (j := j) rfl hj40 v M
    have l3 := fun v M => w_layN (a := 176) (i := (j : Int)) (n := 40) (by decide +kernel) (j := j) rfl hj40 v M
    have t3 := fun M => w_atN (a := 22) (i := q0) (n := 40) (by decide +kernel) (j := q) hq hq40 M
    have l1' : ∀ v M, E_C 147 [174, (j : Int), v] M = some (0, e_up M 174 j v) := l1
    have l2' : ∀ v M, E_C 147 [173, (j : Int), v] M = some (0, e_up M 173 j v) := l2
    have l3' : ∀ v M, E_C 147 [176, (j : Int), v] M = some (0, e_up M 176 j v) := l3
    have t3' : ∀ M, E_C 146 [22, q0] M = some (M 22 q, M) := t3
    obtain ⟨jj, hjj⟩ : ∃ jj : Int, (j : Int) = jj := ⟨_, rfl⟩
    rw [hjj] at hj
    rw [hjj] at l1' l2' l3'
    have h0 : ∀ (q0 y : Int), (e_up (e_up M 174 j q0) 173 j y) 22 q = M 22 q := fun q0 y => by rw [c_up_n (by omega), c_up_n (by omega)]
    have h1 : ∀ q0, e_up M 174 j q0 170 0 = jj := fun q0 => by rw [c_up_n (by omega)]; exact hj
    have h2 : ∀ q0 y, e_up (e_up M 174 j q0) 173 j y 170 0 = jj := fun q0 y => by rw [c_up_n (by omega), c_up_n (by omega)]; exact hj
    rw [← hN] at sg
    rw [r_ent (show e_rok 5 [170, q0, y] = true from bx_r (M := M) rfl (by decide +kernel))]
    show e_tv E_C (E_V 5) e_t5_0 [170, q0, y, 0] M = _
    unfold e_t5_0
    simp [e_tv, e_ev, e_sv, e_b1, e_b2, x_o1, x_o2, bx_F0, bx_G3, bx_Ga, bx_Gb, bx_Gd, w_H1, w_C3, hj, h0, h1, h2, l1', l2', l3', t3', sg]
  · rw [c_up_n (by omega), e4 _ _ (by omega), e3 _ _ (by omega), e2 _ _ (by omega), e1 _ _ (by omega), ← hN, c_up_n (by omega), c_up_n (by omega), c_up_s, hq]
  · rw [c_up_n (by omega), e4 _ _ (by omega), e3 _ _ (by omega), e2 _ _ (by omega), e1 _ _ (by omega), ← hN, c_up_n (by omega), c_up_s]
  · rw [c_up_n (by omega), e4 _ _ (by omega), e3 _ _ (by omega), e2 _ _ (by omega), e1 _ _ (by omega), ← hN, c_up_s]
  · have f : ∀ k, N 21 k = M 21 k := fun k => e0 _ _ (by omega) (by omega) (by omega)
    have f1 : ∀ k, N1 21 k = M 21 k := fun k => (e1 _ _ (by omega)).trans (f k)
    have f2 : ∀ k, N2 21 k = M 21 k := fun k => (e2 _ _ (by omega)).trans (f1 k)
    have f3 : ∀ k, N3 21 k = M 21 k := fun k => (e3 _ _ (by omega)).trans (f2 k)
    rw [c_up_n (by omega)]
    have h4 : a = 0 ∨ a = 1 ∨ a = 2 ∨ a = 3 := by omega
    rcases h4 with rfl | rfl | rfl | rfl
    · rw [e4 _ _ (by omega), e3 _ _ (by omega), e2 _ _ (by omega), ← hN1, c_up_s, f]
    · rw [e4 _ _ (by omega), e3 _ _ (by omega), ← hN2, c_up_s, f1]
    · rw [e4 _ _ (by omega), ← hN3, c_up_s, f2]
    · rw [← hN4, c_up_s, f3]
  · rw [c_up_n h5, e4 _ _ (by omega), e3 _ _ (by omega), e2 _ _ (by omega), e1 _ _ (by omega), e0 _ _ h1 h2 h3]
end
section
/-! the class spreads a line of a PART out: exactly -/
def bx_nc (g : Int → Int) (x : Int) : Nat := if g (28 * x) = 0 then 1 else (g (28 * x + 2)).toNat
def bx_ng (g : Int → Int) (x : Int) : Nat := if g (28 * x) = 0 then 1 else (g (28 * x + 19)).toNat
def bx_ce (g : Int → Int) (x : Int) (k : Nat) : Int := if g (28 * x) = 0 then x else g (28 * x + 3 + (k : Int))
def bx_gr (g : Int → Int) (x : Int) (k : Nat) : Int := if g (28 * x) = 0 then 0 else g (28 * x + 11 + (k : Int))
def bx_di (g : Int → Int) (x : Int) (y : Nat) : Int := if g (28 * x) = 0 then 0 else g (28 * x + 20 + (y : Int))
/-- what a line leaves alone -/
def bx_fr (M M' : EM) (j0 g0 g1 l0 : Nat) : Prop := (∀ id k, ¬ (170 ≤ id ∧ id ≤ 176) → M' id k = M id k) ∧ (∀ k, k ≠ 0 → k ≠ 4 → k ≠ 5 → M' 170 k = M 170 k) ∧ (∀ k, k ≠ l0 + 1 → M' 171 k = M 171 k) ∧ (∀ k, (k < g0 ∨ g1 ≤ k) → M' 172 k = M 172 k) ∧ (∀ k, k < j0 → M' 173 k = M 173 k ∧ M' 174 k = M 174 k ∧ M' 176 k = M 176 k) ∧ ∀ k, k < 4 * j0 → M' 175 k = M 175 k
def bx_AL (g : Int → Int) (M M' : EM) (x : Int) (j0 g0 l0 : Nat) : Prop := M' 170 0 = ((j0 + bx_nc g x : Nat) : Int) ∧ M' 170 4 = ((g0 + bx_ng g x : Nat) : Int) ∧ M' 170 5 = ((l0 + 1 : Nat) : Int) ∧ M' 171 (l0 + 1) = ((j0 + bx_nc g x : Nat) : Int) ∧ (∀ k, k < bx_nc g x → bx_cell M M' (j0 + k) (bx_ce g x k).toNat ((g0 : Int) + bx_gr g x k)) ∧ (∀ y, y < bx_ng g x → M' 172 (g0 + y) = bx_di g x y) ∧ bx_fr M M' j0 g0 (g0 + bx_ng g x) l0
theorem bx_140 {x x2 x3 x4 x5 x6 : Int} {l0 : Nat} {c : Int} {M : EM} (hl : M 170 5 = l0) (h6 : l0 < 6) (h0 : M 170 0 = c) : E_V 4 140 [170, x, x2, x3, x4, x5, x6] M = some (0, e_up (e_up M 170 5 ((l0 : Int) + 1)) 171 (l0 + 1) c) := by
  have w : e_w ((l0 : Int) + 1) = (l0 : Int) + 1 := a_w_id (by omega) (by omega)
  have l := fun v M => w_layN (a := 171) (i := (l0 : Int) + 1) (n := 7) (by decide +kernel) (j := l0 + 1) (by omega) (by omega) v M
  have l' : ∀ v M, E_C 147 [171, (l0 : Int) + 1, v] M = some (0, e_up M 171 (l0 + 1) v) := l
  rw [E_V_eq]
  show e_tv E_C (E_V 4) e_t4_140 [170, x, x2, x3, x4, x5, x6] M = _
  unfold e_t4_140
  simp [e_tv, e_ev, e_sv, e_b1, e_b2, x_o1, x_o2, bx_F0, bx_F5, bx_P5, bx_G8, hl, h0, w, l', c_up_n, c_up_s]
/-- k CELLS of a ROW stand -/
def bx_RS (g : Int → Int) (M0 M : EM) (x j0 g0 g1 k : Nat) : Prop := M 170 0 = ((j0 + k : Nat) : Int) ∧ (∀ i : Nat, i < k → bx_cell M0 M (j0 + i) (g (28 * (x : Int) + 3 + (i : Int))).toNat ((g0 : Int) + g (28 * (x : Int) + 11 + (i : Int)))) ∧ (∀ i : Nat, i < k → M 172 (g0 + (g (28 * (x : Int) + 11 + (i : Int))).toNat) = g (28 * (x : Int) + 20 + g (28 * (x : Int) + 11 + (i : Int)))) ∧ (∀ id i, ¬ (170 ≤ id ∧ id ≤ 176) → M id i = M0 id i) ∧ (∀ i, i ≠ 0 → M 170 i = M0 170 i) ∧ (∀ i, M 171 i = M0 171 i) ∧ (∀ i, (i < g0 ∨ g1 ≤ i) → M 172 i = M0 172 i) ∧ (∀ i, i < j0 → M 173 i = M0 173 i ∧ M 174 i = M0 174 i ∧ M 176 i = M0 176 i) ∧ ∀ i, i < 4 * j0 → M 175 i = M0 175 i
theorem bx_53 {g : Int → Int} {M0 : EM} {x j0 g0 n gr : Nat} (hd : hd_d1 M0 0 g x n gr) (hx : x < 40) (hj : j0 + n ≤ 40) (hg : g0 + gr ≤ 40) (h4 : M0 170 4 = g0) {x0 n0 : Int} (hx0 : x0 = x) (hn0 : n0 = n) : ∀ (d k : Nat) (x4 x5 x6 : Int) (M : EM), x4 = k → k + d = n → bx_RS g M0 M x j0 g0 (g0 + gr) k → ∃ M' y4 y5 y6, E_V 4 53 [170, x0, 10, n0, x4, x5, x6] M = E_V 4 140 [170, x0, 10, n0, y4, y5, y6] (e_up M' 170 4 ((g0 + gr : Nat) : Int)) ∧ bx_RS g M0 M' x j0 g0 (g0 + gr) n := by
  obtain ⟨⟨n1, n2, n3⟩, b1, b2, b3, b4, b5, b6⟩ := hd
  intro d
  induction d with
  | zero =>
    intro k x4 x5 x6 M hk hd hR
    have e : k = n := by omega
    subst e
    have q : ¬ (x4 < n0) := by omega
    have h4' : M 170 4 = g0 := (hR.2.2.2.2.1 4 (by decide)).trans h4
    have t12 := w_atN (a := 12) (i := x0) (n := 40) (by decide +kernel) (j := x) hx0 hx M
    have t12' : E_C 146 [12, x0] M = some ((gr : Int), M) := t12.trans (by rw [show M (12 : Int).toNat x = M0 (12 + 0) x from hR.2.2.2.1 _ _ (by omega), b4])
    have w : e_w ((g0 : Int) + (gr : Int)) = ((g0 + gr : Nat) : Int) := (a_w_id (by omega) (by omega)).trans (by omega)
    refine ⟨M, x4, x5, x6, ?_, hR⟩
    generalize ((g0 + gr : Nat) : Int) = gg at w ⊢
    rw [E_V_eq]
    show e_tv E_C (E_V 4) e_t4_53 [170, x0, 10, n0, x4, x5, x6] M = _
    unfold e_t4_53
    simp [e_tv, e_ev, e_sv, e_b1, e_b2, x_o1, x_o2, bx_F4, bx_P4, w_P2, q, h4', t12', w]
  | succ d ih =>
    intro k x4 x5 x6 M hk hd hR
    obtain ⟨r1, r2, r3, r4, r5, r6, r7, r8, r9⟩ := hR
    have hkn : k < n := by omega
    obtain ⟨⟨m1, m2, m3, m4, m5⟩, c2, c3, c4, c5⟩ := b6 k hkn
    have q : x4 < n0 := by omega
    have h4' : M 170 4 = g0 := (r5 4 (by decide)).trans h4
    have G0 : 0 ≤ g (28 * (x : Int) + 11 + (k : Int)) := by
      obtain ⟨y, y1, -, -⟩ := cu_st_in (v := fun _ => 0) (D := fun _ => 0) b5 k hkn
      have y1 : g (28 * (x : Int) + 11 + (k : Int)) = y := y1
      omega
    have G1 : g (28 * (x : Int) + 11 + (k : Int)) < gr := cu_gp_lt b5 k hkn
    obtain ⟨y, hy⟩ : ∃ y : Nat, g (28 * (x : Int) + 11 + (k : Int)) = y := ⟨(g (28 * (x : Int) + 11 + (k : Int))).toNat, by omega⟩
    obtain ⟨q1, hq1⟩ : ∃ q1 : Nat, g (28 * (x : Int) + 3 + (k : Int)) = q1 := ⟨(g (28 * (x : Int) + 3 + (k : Int))).toNat, by omega⟩
    have i1 : x0 * 8 + x4 = ((8 * x + k : Nat) : Int) := by omega
    have i2 : 8 * x + k < 320 := by omega
    have i3 : g0 + y < 40 := by omega
    have i4 : j0 + k < 40 := by omega
    have i5 : q1 < 40 := by omega
    have k15 : ∀ M : EM, (∀ id i, ¬ (170 ≤ id ∧ id ≤ 176) → M id i = M0 id i) → E_C 146 [15, x0 * 8 + x4] M = some ((q1 : Int), M) := fun M h => by
      have t := w_atN (a := 15) (i := x0 * 8 + x4) (n := 320) (by decide +kernel) (j := 8 * x + k) i1 i2 M
      exact t.trans (by rw [show M (15 : Int).toNat (8 * x + k) = M0 (15 + 0) (8 * x + k) from h _ _ (by omega), m1, hq1])
    have k16 : E_C 146 [16, x0 * 8 + x4] M = some ((y : Int), M) := by
      have t := w_atN (a := 16) (i := x0 * 8 + x4) (n := 320) (by decide +kernel) (j := 8 * x + k) i1 i2 M
      exact t.trans (by rw [show M (16 : Int).toNat (8 * x + k) = M0 (16 + 0) (8 * x + k) from r4 _ _ (by omega), c3, hy])
    obtain ⟨dv, hdv⟩ : ∃ dv, M0 (17 + 0) (8 * x + k) = dv := ⟨_, rfl⟩
    have k17 : E_C 146 [17, x0 * 8 + x4] M = some (dv, M) := by
      have t := w_atN (a := 17) (i := x0 * 8 + x4) (n := 320) (by decide +kernel) (j := 8 * x + k) i1 i2 M
      exact t.trans (by rw [show M (17 : Int).toNat (8 * x + k) = M0 (17 + 0) (8 * x + k) from r4 _ _ (by omega), hdv])
    have l := w_layN (a := 172) (i := ((g0 + y : Nat) : Int)) (n := 40) (by decide +kernel) (j := g0 + y) rfl i3 dv M
    have l' : E_C 147 [172, ((g0 + y : Nat) : Int), dv] M = some (0, e_up M 172 (g0 + y) dv) := l
    obtain ⟨M1, hM1⟩ : ∃ M1, e_up M 172 (g0 + y) dv = M1 := ⟨_, rfl⟩
    have e1 : ∀ id i, ¬ (id = 172 ∧ i = g0 + y) → M1 id i = M id i := fun id i h => by rw [← hM1, c_up_n h]
    rw [hM1] at l'
    have k15' := k15 M1 (fun id i h => (e1 _ _ (by omega)).trans (r4 _ _ h))
    obtain ⟨M2, s1, s2, s3, s4⟩ := bx_5 (j := j0 + k) (q := q1) (q0 := (q1 : Int)) (y := ((g0 + y : Nat) : Int)) (M := M1) ((e1 _ _ (by omega)).trans r1) i4 rfl i5
    have e2 : ∀ id i, ¬ (170 ≤ id ∧ id ≤ 176) → M2 id i = M0 id i := fun id i h => (s4 _ _ (by omega) (by omega) (by omega) (by omega) (by omega)).trans ((e1 _ _ (by omega)).trans (r4 _ _ h))
    have hRS : bx_RS g M0 M2 x j0 g0 (g0 + gr) (k + 1) := by
      refine ⟨by rw [s3]; omega, fun i hi => ?_, fun i hi => ?_, e2, fun i hi => ?_, fun i => ?_, fun i hi => ?_, fun i hi => ⟨?_, ?_, ?_⟩, fun i hi => ?_⟩
      · by_cases e : i = k
        · subst e
          obtain ⟨d1, d2, d3, d4⟩ := s2
          refine ⟨?_, ?_, ?_, fun a ha => ?_⟩
          · rw [d1, hq1, Int.toNat_natCast]
          · rw [d2, hy]; omega
          · rw [d3, hq1, Int.toNat_natCast, e1 _ _ (by omega), r4 _ _ (by omega)]
          · rw [d4 a ha, hq1, Int.toNat_natCast, e1 _ _ (by omega), r4 _ _ (by omega)]
        · obtain ⟨d1, d2, d3, d4⟩ := r2 i (by omega)
          refine ⟨?_, ?_, ?_, fun a ha => ?_⟩
          · rw [s4 _ _ (by omega) (by omega) (by omega) (by omega) (by omega), e1 _ _ (by omega)]; exact d1
          · rw [s4 _ _ (by omega) (by omega) (by omega) (by omega) (by omega), e1 _ _ (by omega)]; exact d2
          · rw [s4 _ _ (by omega) (by omega) (by omega) (by omega) (by omega), e1 _ _ (by omega)]; exact d3
          · rw [s4 _ _ (by omega) (by omega) (by omega) (by omega) (by omega), e1 _ _ (by omega)]; exact d4 a ha
      · rw [s4 _ _ (by omega) (by omega) (by omega) (by omega) (by omega)]
        have vk : dv = g (28 * (x : Int) + 20 + (y : Int)) := by rw [← hdv, c4, hy]
        by_cases e : g0 + (g (28 * (x : Int) + 11 + (i : Int))).toNat = g0 + y
        · rw [e, ← hM1, c_up_s, vk]
          by_cases e2 : i = k
          · rw [e2, hy]
          · have Gi : 0 ≤ g (28 * (x : Int) + 11 + (i : Int)) := by
              obtain ⟨y', y1, -, -⟩ := cu_st_in (v := fun _ => 0) (D := fun _ => 0) b5 i (by omega)
              have y1 : g (28 * (x : Int) + 11 + (i : Int)) = y' := y1
              omega
            rw [show g (28 * (x : Int) + 11 + (i : Int)) = (y : Int) by omega]
        · rw [e1 _ _ (by omega)]
          have : i ≠ k := fun e2 => e (by rw [e2, hy, Int.toNat_natCast])
          exact r3 i (by omega)
      · rw [s4 _ _ (by omega) (by omega) (by omega) (by omega) (by omega), e1 _ _ (by omega)]; exact r5 i hi
      · rw [s4 _ _ (by omega) (by omega) (by omega) (by omega) (by omega), e1 _ _ (by omega)]; exact r6 i
      · rw [s4 _ _ (by omega) (by omega) (by omega) (by omega) (by omega), e1 _ _ (by omega)]; exact r7 i hi
      · rw [s4 _ _ (by omega) (by omega) (by omega) (by omega) (by omega), e1 _ _ (by omega)]; exact (r8 i hi).1
      · rw [s4 _ _ (by omega) (by omega) (by omega) (by omega) (by omega), e1 _ _ (by omega)]; exact (r8 i hi).2.1
      · rw [s4 _ _ (by omega) (by omega) (by omega) (by omega) (by omega), e1 _ _ (by omega)]; exact (r8 i hi).2.2
      · rw [s4 _ _ (by omega) (by omega) (by omega) (by omega) (by omega), e1 _ _ (by omega)]; exact r9 i hi
    obtain ⟨M', y4, y5, y6, z1, z2⟩ := ih (k + 1) (x4 + 1) (x0 * 8 + x4) ((g0 + y : Nat) : Int) M2 (by omega) (by omega) hRS
    refine ⟨M', y4, y5, y6, ?_, z2⟩
    rw [← z1]
    have w1 : e_w (x0 * 8) = x0 * 8 := a_w_id (by omega) (by omega)
    have w2 : e_w (x0 * 8 + x4) = x0 * 8 + x4 := a_w_id (by omega) (by omega)
    have w4 : e_w (x4 + 1) = x4 + 1 := a_w_id (by omega) (by omega)
    have w3 : e_w ((g0 : Int) + (y : Int)) = ((g0 + y : Nat) : Int) := (a_w_id (by omega) (by omega)).trans (by omega)
    clear z1 z2 s2 s3 s4 ih hRS k15 e1 e2 r1 r2 r3 r4 r5 r6 r7 r8 r9
    generalize ((g0 + y : Nat) : Int) = gy at w3 l' s1 ⊢
    generalize (g0 : Int) = gg at w3 h4' ⊢
    generalize (y : Int) = yy at w3 k16
    generalize (q1 : Int) = qq at k15' s1
    rw [E_V_eq]
    show e_tv E_C (E_V 4) e_t4_53 [170, x0, 10, n0, x4, x5, x6] M = _
    unfold e_t4_53
    simp [e_tv, e_ev, e_sv, e_b1, e_b2, x_o1, x_o2, bx_F4, bx_G9, w_P5, w_P6, w_P7, q, h4', w1, w2, w3, w4, k16, k17, l', k15', s1]
/-- a line: a CELL or a ROW -/
theorem bx_4 {g : Int → Int} {M : EM} {x j0 g0 l0 : Nat} {x0 : Int} (hx0 : x0 = x) (hx : x < 40) (hk : M 11 x = g (28 * (x : Int))) (hd : g (28 * (x : Int)) = 0 ∨ (g (28 * (x : Int)) = 1 ∧ ∃ n gr, hd_d1 M 0 g x n gr)) (h0 : M 170 0 = j0) (h4 : M 170 4 = g0) (h5 : M 170 5 = l0) (h6 : l0 < 6) (hj : j0 + bx_nc g (x : Int) ≤ 40) (hg : g0 + bx_ng g (x : Int) ≤ 40) (hz : ∀ y, g0 ≤ y → y < 40 → M 172 y = 0) : ∃ M', E_C 4 [170, x0] M = some (0, M') ∧ bx_AL g M M' (x : Int) j0 g0 l0 := by
  have t11 := w_atN (a := 11) (i := x0) (n := 40) (by decide +kernel) (j := x) hx0 hx M
  have t11' : E_C 146 [11, x0] M = some (g (28 * (x : Int)), M) := t11.trans (by rw [show M (11 : Int).toNat x = M 11 x from rfl, hk])
  have s0 : E_C 4 [170, x0] M = e_tv E_C (E_V 4) e_t4_0 [170, x0, 0, 0, 0, 0, 0] M := r_ent (u := 4) (as := [170, x0]) (M := M) (bx_r (M := M) rfl (by decide +kernel))
  rw [s0]
  rcases hd with k0 | ⟨k1, n, gr, hd⟩
  · have en : bx_nc g (x : Int) = 1 := if_pos k0
    have eg : bx_ng g (x : Int) = 1 := if_pos k0
    rw [en] at hj
    rw [eg] at hg
    rw [k0] at t11'
    have hz0 := hz g0 (Nat.le_refl _) (by omega)
    have hj0 : j0 < 40 := by omega
    have w4 : e_w ((g0 : Int) + 1) = ((g0 + 1 : Nat) : Int) := (a_w_id (by omega) (by omega)).trans (by omega)
    obtain ⟨M1, s1, ⟨d1, d2, d3, d4⟩, s3, s4⟩ := bx_5 (j := j0) (q := x) (q0 := x0) (y := (g0 : Int)) h0 hj0 hx0 hx
    have f4 : M1 170 4 = g0 := (s4 _ _ (by omega) (by omega) (by omega) (by omega) (by omega)).trans h4
    have f5 : (e_up M1 170 4 ((g0 + 1 : Nat) : Int)) 170 5 = l0 := by
      rw [c_up_n (by omega)]
      exact (s4 _ _ (by omega) (by omega) (by omega) (by omega) (by omega)).trans h5
    have f0 : (e_up M1 170 4 ((g0 + 1 : Nat) : Int)) 170 0 = (j0 : Int) + 1 := by
      rw [c_up_n (by omega)]
      exact s3
    have k := fun x2 x3 x4 x5 x6 => bx_140 (x := x0) (x2 := x2) (x3 := x3) (x4 := x4) (x5 := x5) (x6 := x6) f5 h6 f0
    refine ⟨e_up (e_up (e_up M1 170 4 ((g0 + 1 : Nat) : Int)) 170 5 ((l0 : Int) + 1)) 171 (l0 + 1) ((j0 : Int) + 1), ?_, ?_⟩
    · unfold e_t4_0
      generalize ((g0 + 1 : Nat) : Int) = g1 at w4 k ⊢
      generalize (g0 : Int) = gg at w4 f4 s1 h4
      simp [e_tv, e_ev, e_sv, e_b1, e_b2, x_o1, x_o2, bx_F4, bx_P4, bx_G3, w_H0, w_P1, h4, t11', s1, f4, w4, k]
    · clear w4 k
      have fr : ∀ id i, ¬ (id = 171 ∧ i = l0 + 1) → ¬ (id = 170 ∧ (i = 5 ∨ i = 4)) → (e_up (e_up (e_up M1 170 4 ((g0 + 1 : Nat) : Int)) 170 5 ((l0 : Int) + 1)) 171 (l0 + 1) ((j0 : Int) + 1)) id i = M1 id i := fun id i h1 h2 => by
        rw [c_up_n h1, c_up_n (fun e => h2 ⟨e.1, Or.inl e.2⟩), c_up_n (fun e => h2 ⟨e.1, Or.inr e.2⟩)]
      have ff : ∀ id i, ¬ (id = 171 ∧ i = l0 + 1) → ¬ (id = 170 ∧ (i = 5 ∨ i = 4 ∨ i = 0)) → ¬ (id = 174 ∧ i = j0) → ¬ (id = 173 ∧ i = j0) → ¬ (id = 176 ∧ i = j0) → ¬ (id = 175 ∧ 4 * j0 ≤ i ∧ i < 4 * j0 + 4) → (e_up (e_up (e_up M1 170 4 ((g0 + 1 : Nat) : Int)) 170 5 ((l0 : Int) + 1)) 171 (l0 + 1) ((j0 : Int) + 1)) id i = M id i := fun id i h1 h2 h3 h4 h5 h6 => (fr _ _ h1 (by omega)).trans (s4 _ _ h3 h4 h5 h6 (by omega))
      unfold bx_AL
      rw [en, eg]
      refine ⟨?_, ?_, ?_, ?_, fun k hk => ?_, fun y hy => ?_, fun id k h => ?_, fun k h1 h2 h3 => ?_, fun k h => ?_, fun k h => ?_, fun k h => ⟨?_, ?_, ?_⟩, fun k h => ?_⟩
      · rw [fr _ _ (by omega) (by omega), s3]; omega
      · rw [c_up_n (by omega), c_up_n (by omega), c_up_s]
      · rw [c_up_n (by omega), c_up_s]; omega
      · rw [c_up_s]; omega
      · have e : k = 0 := by omega
        subst e
        have ec : bx_ce g (x : Int) 0 = x := if_pos k0
        have eG : bx_gr g (x : Int) 0 = 0 := if_pos k0
        rw [ec, eG, Int.toNat_natCast, Int.add_zero]
        refine ⟨?_, ?_, ?_, fun a ha => ?_⟩
        · rw [fr _ _ (by omega) (by omega)]; exact d1
        · rw [fr _ _ (by omega) (by omega)]; exact d2
        · rw [fr _ _ (by omega) (by omega)]; exact d3
        · rw [fr _ _ (by omega) (by omega)]; exact d4 a ha
      · have e : y = 0 := by omega
        subst e
        rw [show bx_di g (x : Int) 0 = 0 from if_pos k0, ff _ _ (by omega) (by omega) (by omega) (by omega) (by omega) (by omega)]
        exact hz0
      · exact ff _ _ (by omega) (by omega) (by omega) (by omega) (by omega) (by omega)
      · exact ff _ _ (by omega) (by omega) (by omega) (by omega) (by omega) (by omega)
      · exact ff _ _ (by omega) (by omega) (by omega) (by omega) (by omega) (by omega)
      · exact ff _ _ (by omega) (by omega) (by omega) (by omega) (by omega) (by omega)
      · exact ff _ _ (by omega) (by omega) (by omega) (by omega) (by omega) (by omega)
      · exact ff _ _ (by omega) (by omega) (by omega) (by omega) (by omega) (by omega)
      · exact ff _ _ (by omega) (by omega) (by omega) (by omega) (by omega) (by omega)
      · exact ff _ _ (by omega) (by omega) (by omega) (by omega) (by omega) (by omega)
  · have hd' := hd
    obtain ⟨⟨n1, n2, n3⟩, b1, b2, b3, b4, b5, b6⟩ := hd
    have kn : ¬ g (28 * (x : Int)) = 0 := by omega
    have en : bx_nc g (x : Int) = n := by
      unfold bx_nc
      rw [if_neg kn, b1, Int.toNat_natCast]
    have eg : bx_ng g (x : Int) = gr := by
      unfold bx_ng
      rw [if_neg kn, b3, Int.toNat_natCast]
    rw [en] at hj
    rw [eg] at hg
    rw [k1] at t11'
    have t14 := w_atN (a := 14) (i := x0) (n := 40) (by decide +kernel) (j := x) hx0 hx M
    have t14' : E_C 146 [14, x0] M = some ((n : Int), M) := t14.trans (by rw [show M (14 : Int).toNat x = M (14 + 0) x from rfl, b2])
    obtain ⟨M1, y4, y5, y6, z1, r1, r2, r3, r4, r5, r6, r7, r8, r9⟩ := bx_53 (g0 := g0) hd' hx hj hg h4 hx0 (n0 := (n : Int)) rfl n 0 0 0 0 M rfl (by omega) ⟨h0, fun i hi => absurd hi (Nat.not_lt_zero _), fun i hi => absurd hi (Nat.not_lt_zero _), fun _ _ _ => rfl, fun _ _ => rfl, fun _ => rfl, fun _ _ => rfl, fun _ _ => ⟨rfl, rfl, rfl⟩, fun _ _ => rfl⟩
    have f5 : (e_up M1 170 4 ((g0 + gr : Nat) : Int)) 170 5 = l0 := by
      rw [c_up_n (by omega)]
      exact (r5 5 (by decide)).trans h5
    have f0 : (e_up M1 170 4 ((g0 + gr : Nat) : Int)) 170 0 = ((j0 + n : Nat) : Int) := by
      rw [c_up_n (by omega)]
      exact r1
    have k := bx_140 (x := x0) (x2 := 10) (x3 := (n : Int)) (x4 := y4) (x5 := y5) (x6 := y6) f5 h6 f0
    refine ⟨e_up (e_up (e_up M1 170 4 ((g0 + gr : Nat) : Int)) 170 5 ((l0 : Int) + 1)) 171 (l0 + 1) ((j0 + n : Nat) : Int), ?_, ?_⟩
    · have z2 := z1.trans k
      clear z1 k
      unfold e_t4_0
      generalize (n : Int) = nn at t14' z2
      simp [e_tv, e_ev, e_sv, e_b1, e_b2, x_o1, x_o2, bx_G3, w_H0, w_P1, w_P4, t11', t14', z2]
    · have fr : ∀ id i, ¬ (id = 171 ∧ i = l0 + 1) → ¬ (id = 170 ∧ (i = 5 ∨ i = 4)) → (e_up (e_up (e_up M1 170 4 ((g0 + gr : Nat) : Int)) 170 5 ((l0 : Int) + 1)) 171 (l0 + 1) ((j0 + n : Nat) : Int)) id i = M1 id i := fun id i h1 h2 => by
        rw [c_up_n h1, c_up_n (fun e => h2 ⟨e.1, Or.inl e.2⟩), c_up_n (fun e => h2 ⟨e.1, Or.inr e.2⟩)]
      unfold bx_AL
      rw [en, eg]
      refine ⟨?_, ?_, ?_, ?_, fun k hk => ?_, fun y hy => ?_, fun id k h => ?_, fun k h1 h2 h3 => ?_, fun k h => ?_, fun k h => ?_, fun k h => ⟨?_, ?_, ?_⟩, fun k h => ?_⟩
      · rw [fr _ _ (by omega) (by omega)]; exact r1
      · rw [c_up_n (by omega), c_up_n (by omega), c_up_s]
      · rw [c_up_n (by omega), c_up_s]; omega
      · rw [c_up_s]
      · have ec : bx_ce g (x : Int) k = g (28 * (x : Int) + 3 + (k : Int)) := if_neg kn
        have eG : bx_gr g (x : Int) k = g (28 * (x : Int) + 11 + (k : Int)) := if_neg kn
        rw [ec, eG]
        obtain ⟨d1, d2, d3, d4⟩ := r2 k hk
        refine ⟨?_, ?_, ?_, fun a ha => ?_⟩
        · rw [fr _ _ (by omega) (by omega)]; exact d1
        · rw [fr _ _ (by omega) (by omega)]; exact d2
        · rw [fr _ _ (by omega) (by omega)]; exact d3
        · rw [fr _ _ (by omega) (by omega)]; exact d4 a ha
      · obtain ⟨i, i1, i2⟩ := cu_gp_on b5 y hy
        have i2 : g (28 * (x : Int) + 11 + (i : Int)) = y := i2
        have := r3 i i1
        rw [i2, Int.toNat_natCast] at this
        rw [show bx_di g (x : Int) y = g (28 * (x : Int) + 20 + (y : Int)) from if_neg kn, fr _ _ (by omega) (by omega)]
        exact this
      · rw [fr _ _ (by omega) (by omega)]; exact r4 _ _ h
      · rw [fr _ _ (by omega) (by omega)]; exact r5 _ h1
      · rw [fr _ _ (by omega) (by omega)]; exact r6 _
      · rw [fr _ _ (by omega) (by omega)]; exact r7 _ h
      · rw [fr _ _ (by omega) (by omega)]; exact (r8 _ h).1
      · rw [fr _ _ (by omega) (by omega)]; exact (r8 _ h).2.1
      · rw [fr _ _ (by omega) (by omega)]; exact (r8 _ h).2.2
      · rw [fr _ _ (by omega) (by omega)]; exact r9 _ h
end
section
/-! a PART spread out: no more than 40 CELLS; what stands on the bench -/
theorem bx_pg : ∀ (m n : Nat) (f : Nat → Nat), (∀ i, i < n → f i < m) → (∀ i j, i < n → j < n → f i = f j → i = j) → n ≤ m := by
  intro m
  induction m with
  | zero =>
    intro n f h _
    rcases Nat.eq_zero_or_pos n with z | z
    · omega
    · exact absurd (h 0 z) (Nat.not_lt_zero _)
  | succ m ih =>
    intro n f h hi
    by_cases c : ∃ i, i < n ∧ f i = m
    · obtain ⟨i0, i1, i2⟩ := c
      obtain ⟨k, rfl⟩ : ∃ k, n = k + 1 := ⟨n - 1, by omega⟩
      have r := ih k (fun j => if j = i0 then f k else f j) (fun j hj => by
        show (if j = i0 then f k else f j) < m
        by_cases e : j = i0
        · rw [if_pos e]
          have a := h k (by omega)
          have b : f k ≠ m := fun e2 => by
            have := hi k i0 (by omega) i1 (e2.trans i2.symm)
            omega
          omega
        · rw [if_neg e]
          have a := h j (by omega)
          have b : f j ≠ m := fun e2 => e (hi j i0 (by omega) i1 (e2.trans i2.symm))
          omega) (fun i j h1 h2 h3 => by
        have h3 : (if i = i0 then f k else f i) = (if j = i0 then f k else f j) := h3
        by_cases e : i = i0
        · rw [if_pos e] at h3
          by_cases e2 : j = i0
          · omega
          · rw [if_neg e2] at h3
            have := hi k j (by omega) (by omega) h3
            omega
        · rw [if_neg e] at h3
          by_cases e2 : j = i0
          · rw [if_pos e2] at h3
            have := hi i k (by omega) (by omega) h3
            omega
          · rw [if_neg e2] at h3
            exact hi i j (by omega) (by omega) h3)
      omega
    · have r := ih n f (fun i h1 => by
        have a := h i h1
        have b : f i ≠ m := fun e => c ⟨i, h1, e⟩
        omega) hi
      omega
def bx_oc (g : Int → Int) (X : Nat → Int) : Nat → Nat
  | 0 => 0
  | i + 1 => bx_oc g X i + bx_nc g (X i)
def bx_og (g : Int → Int) (X : Nat → Int) : Nat → Nat
  | 0 => 0
  | i + 1 => bx_og g X i + bx_ng g (X i)
def bx_fc (g : Int → Int) (X : Nat → Int) : Nat → Nat → Int
  | 0, _ => 0
  | i + 1, j => if j < bx_oc g X i then bx_fc g X i j else bx_ce g (X i) (j - bx_oc g X i)
theorem bx_fc_at {g : Int → Int} {X : Nat → Int} : ∀ i j, j < bx_oc g X i → ∃ l k, l < i ∧ k < bx_nc g (X l) ∧ j = bx_oc g X l + k ∧ bx_fc g X i j = bx_ce g (X l) k := by
  intro i
  induction i with
  | zero => intro j hj; exact absurd hj (Nat.not_lt_zero _)
  | succ i ih =>
    intro j hj
    have hj : j < bx_oc g X i + bx_nc g (X i) := hj
    rcases Nat.lt_or_ge j (bx_oc g X i) with c | c
    · obtain ⟨l, k, h1, h2, h3, h4⟩ := ih j c
      exact ⟨l, k, by omega, h2, h3, (if_pos c).trans h4⟩
    · exact ⟨i, j - bx_oc g X i, by omega, by omega, by omega, if_neg (by omega)⟩
theorem bx_oc_m {g : Int → Int} {X : Nat → Int} : ∀ d i, bx_oc g X i ≤ bx_oc g X (i + d) := by
  intro d
  induction d with
  | zero => intro i; exact Nat.le_refl _
  | succ d ih =>
    intro i
    have := ih i
    show bx_oc g X i ≤ bx_oc g X (i + d) + bx_nc g (X (i + d))
    omega
theorem bx_og_m {g : Int → Int} {X : Nat → Int} : ∀ d i, bx_og g X i ≤ bx_og g X (i + d) := by
  intro d
  induction d with
  | zero => intro i; exact Nat.le_refl _
  | succ d ih =>
    intro i
    have := ih i
    show bx_og g X i ≤ bx_og g X (i + d) + bx_ng g (X (i + d))
    omega
theorem bx_cap {g : Int → Int} {X : Nat → Int} {L : Nat} (hin : ∀ l k, l < L → k < bx_nc g (X l) → 0 ≤ bx_ce g (X l) k ∧ bx_ce g (X l) k < 40) (hij : ∀ l k l' k', l < L → k < bx_nc g (X l) → l' < L → k' < bx_nc g (X l') → bx_ce g (X l) k = bx_ce g (X l') k' → l = l' ∧ k = k') : bx_oc g X L ≤ 40 := by
  refine bx_pg 40 _ (fun j => (bx_fc g X L j).toNat) (fun j hj => ?_) (fun i j hi hj h => ?_)
  · obtain ⟨l, k, h1, h2, h3, h4⟩ := bx_fc_at L j hj
    have := hin l k h1 h2
    show (bx_fc g X L j).toNat < 40
    rw [h4]
    omega
  · obtain ⟨l, k, h1, h2, h3, h4⟩ := bx_fc_at L i hi
    obtain ⟨l', k', h1', h2', h3', h4'⟩ := bx_fc_at L j hj
    have h : (bx_fc g X L i).toNat = (bx_fc g X L j).toNat := h
    rw [h4, h4'] at h
    have a := hin l k h1 h2
    have b := hin l' k' h1' h2'
    obtain ⟨e1, e2⟩ := hij l k l' k' h1 h2 h1' h2' (by omega)
    subst e1 e2
    omega
theorem bx_ogc {g : Int → Int} {X : Nat → Int} : ∀ L, (∀ l, l < L → bx_ng g (X l) ≤ bx_nc g (X l)) → bx_og g X L ≤ bx_oc g X L := by
  intro L
  induction L with
  | zero => intro _; exact Nat.le_refl _
  | succ L ih =>
    intro h
    have a := ih (fun l hl => h l (by omega))
    have b := h L (by omega)
    show bx_og g X L + bx_ng g (X L) ≤ bx_oc g X L + bx_nc g (X L)
    omega
/-- i lines stand on the bench -/
def bx_SP (g : Int → Int) (M M' : EM) (X : Nat → Int) (L : Nat) : Prop := M' 170 0 = (bx_oc g X L : Int) ∧ M' 170 4 = (bx_og g X L : Int) ∧ M' 170 5 = (L : Int) ∧ (∀ l, l ≤ L → M' 171 l = (bx_oc g X l : Int)) ∧ (∀ l k, l < L → k < bx_nc g (X l) → bx_cell M M' (bx_oc g X l + k) (bx_ce g (X l) k).toNat ((bx_og g X l : Int) + bx_gr g (X l) k)) ∧ (∀ l y, l < L → y < bx_ng g (X l) → M' 172 (bx_og g X l + y) = bx_di g (X l) y) ∧ (∀ y, bx_og g X L ≤ y → y < 40 → M' 172 y = 0) ∧ (∀ id k, ¬ (170 ≤ id ∧ id ≤ 176) → M' id k = M id k) ∧ (∀ k, k ≠ 0 → k ≠ 4 → k ≠ 5 → k ≠ 7 → M' 170 k = M 170 k)
theorem bx_SPs {g : Int → Int} {M N N' : EM} {X : Nat → Int} {i : Nat} (h : bx_SP g M N X i) (k : bx_AL g N N' (X i) (bx_oc g X i) (bx_og g X i) i) : bx_SP g M N' X (i + 1) := by
  obtain ⟨a1, a2, a3, a4, a5, a6, a7, a8, a9⟩ := h
  obtain ⟨b1, b2, b3, b4, b5, b6, c1, c2, c3, c4, c5, c6⟩ := k
  have ocs : bx_oc g X (i + 1) = bx_oc g X i + bx_nc g (X i) := rfl
  have ogs : bx_og g X (i + 1) = bx_og g X i + bx_ng g (X i) := rfl
  refine ⟨by rw [b1, ocs], by rw [b2, ogs], b3, fun l hl => ?_, fun l k hl hk => ?_, fun l y hl hy => ?_, fun y h1 h2 => ?_, fun id k h => (c1 id k h).trans (a8 id k h), fun k h0 h4 h5 h7 => (c2 k h0 h4 h5).trans (a9 k h0 h4 h5 h7)⟩
  · by_cases e : l = i + 1
    · rw [e, b4, ocs]
    · rw [c3 l e]; exact a4 l (by omega)
  · by_cases e : l = i
    · subst e
      obtain ⟨d1, d2, d3, d4⟩ := b5 k hk
      refine ⟨d1, d2, ?_, fun a ha => ?_⟩
      · rw [d3]; exact a8 _ _ (by omega)
      · rw [d4 a ha]; exact a8 _ _ (by omega)
    · obtain ⟨d1, d2, d3, d4⟩ := a5 l k (by omega) hk
      have m := bx_oc_m (g := g) (X := X) (i - (l + 1)) (l + 1)
      rw [show l + 1 + (i - (l + 1)) = i by omega] at m
      have m : bx_oc g X l + bx_nc g (X l) ≤ bx_oc g X i := m
      obtain ⟨f1, f2, f3⟩ := c5 (bx_oc g X l + k) (by omega)
      refine ⟨?_, ?_, ?_, fun a ha => ?_⟩
      · rw [f2]; exact d1
      · rw [f1]; exact d2
      · rw [f3]; exact d3
      · rw [c6 _ (by omega)]; exact d4 a ha
  · by_cases e : l = i
    · subst e
      exact b6 y hy
    · have m := bx_og_m (g := g) (X := X) (i - (l + 1)) (l + 1)
      rw [show l + 1 + (i - (l + 1)) = i by omega] at m
      have m : bx_og g X l + bx_ng g (X l) ≤ bx_og g X i := m
      rw [c4 _ (by omega)]
      exact a6 l y (by omega) hy
  · rw [ogs] at h1
    rw [c4 _ (by omega)]
    exact a7 y (by omega) h2
end
