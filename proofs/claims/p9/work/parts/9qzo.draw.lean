/-! PUSH of CELLS on the bench: exactly -/
theorem bx_14 {j l : Nat} {x1 c s t a b : Int} {M : EM} (hx : x1 = ((6 * j + l : Nat) : Int)) (hl : 1 ≤ l) (hb6 : 6 * j + l < 240) (hs : M 177 (6 * j + l) = s) (ht : M 177 (6 * j + (l - 1)) = t) (ha : M 178 (6 * j + l) = a) (hb : M 178 (6 * j + (l - 1)) = b) (h1 : 0 ≤ t) (h2 : t ≤ s) (h3 : s ≤ 60) (h4 : 0 ≤ a) (h5 : a ≤ c) (h6 : c ≤ b) (h7 : b ≤ 99) : E_C 14 [170, x1, c] M = some (if b = a then s else s - ((s - t) * (c - a)).tdiv (b - a), M) := by
  have i1 : x1 - 1 = ((6 * j + (l - 1) : Nat) : Int) := by omega
  have t1 : E_C 146 [177, x1] M = some (s, M) := (w_atN (a := 177) (n := 240) (by decide +kernel) (j := 6 * j + l) hx hb6 M).trans (by rw [← hs]; rfl)
  have t2 : E_C 146 [177, x1 - 1] M = some (t, M) := (w_atN (a := 177) (n := 240) (by decide +kernel) (j := 6 * j + (l - 1)) i1 (by omega) M).trans (by rw [← ht]; rfl)
  have t3 : E_C 146 [178, x1] M = some (a, M) := (w_atN (a := 178) (n := 240) (by decide +kernel) (j := 6 * j + l) hx hb6 M).trans (by rw [← ha]; rfl)
  have t4 : E_C 146 [178, x1 - 1] M = some (b, M) := (w_atN (a := 178) (n := 240) (by decide +kernel) (j := 6 * j + (l - 1)) i1 (by omega) M).trans (by rw [← hb]; rfl)
  have w1 : e_w (x1 - 1) = x1 - 1 := a_w_id (by omega) (by omega)
  clear hs ht ha hb
  rw [r_ent (show e_rok 14 [170, x1, c] = true from bx_r (M := M) rfl (by decide +kernel))]
  show e_tv E_C (E_V 14) e_t14_0 [170, x1, c, 0, 0] M = _
  unfold e_t14_0
  by_cases e : b = a
  · have w2 : e_w (a - a) = 0 := by rw [Int.sub_self]; exact a_w_id (by omega) (by omega)
    rw [if_pos e]
    subst e
    have w3 : e_w 0 = 0 := a_w_id (by omega) (by omega)
    simp [e_tv, e_ev, e_sv, e_b1, e_b2, x_o1, x_o2, bx_Ge, bx_Gf, w1, w2, w3, t1, t2, t3, t4]
  · have w3 := rx_ar (s := s) (t := t) (a := a) (b := b) (c := c) h1 h2 h3 h4 h5 h6 h7 (fun e2 => e e2.symm)
    have w4 : e_w (b - a) ≠ 0 := r_ne_w ⟨by omega, by omega⟩ ⟨by omega, by omega⟩ e
    rw [if_neg e, ← w3]
    simp [e_tv, e_ev, e_sv, e_b1, e_b2, x_o1, x_o2, bx_Ge, bx_Gf, w1, t1, t2, t3, t4, w4]
theorem bx_60 {j n : Nat} {j0 c x3 x4 : Int} {P C : Nat → Int} {M : EM} (hj : j < 40) (hx3 : x3 = ((6 * j : Nat) : Int)) (hn : n ≤ 6) (hM : ∀ i, i < n → M 177 (6 * j + i) = P i ∧ M 178 (6 * j + i) = C i) (hb : ∀ i, i < n → (0 ≤ P i ∧ P i ≤ 60) ∧ 0 ≤ C i ∧ C i ≤ 99) (hm : ∀ i, i + 1 < n → P i ≤ P (i + 1)) : ∀ (l : Nat) (x5 : Int), x5 = ((6 * j + l : Nat) : Int) → l < n → E_V 13 60 [170, j0, c, x3, x4, x5] M = some (cu_sg P C c l, M) := by
  intro l
  induction l with
  | zero =>
    intro x5 hx hl
    have q : ¬ (x3 < x5) := by omega
    rw [E_V_eq]
    show e_tv E_C (E_V 13) e_t13_60 [170, j0, c, x3, x4, x5] M = _
    unfold e_t13_60
    simp [e_tv, e_ev, e_sv, e_b1, e_b2, x_o1, x_o2, q, cu_sg]
  | succ l ih =>
    intro x5 hx hl
    have q : x3 < x5 := by omega
    have i1 : x5 - 1 = ((6 * j + l : Nat) : Int) := by omega
    obtain ⟨m1, m2⟩ := hM (l + 1) hl
    obtain ⟨m3, m4⟩ := hM l (by omega)
    obtain ⟨b1, b2⟩ := hb (l + 1) hl
    obtain ⟨b3, b4⟩ := hb l (by omega)
    have mm := hm l hl
    have t3 : E_C 146 [178, x5] M = some (C (l + 1), M) := (w_atN (a := 178) (n := 240) (by decide +kernel) (j := 6 * j + (l + 1)) hx (by omega) M).trans (by rw [← m2]; rfl)
    have t4 : E_C 146 [178, x5 - 1] M = some (C l, M) := (w_atN (a := 178) (n := 240) (by decide +kernel) (j := 6 * j + l) i1 (by omega) M).trans (by rw [← m4]; rfl)
    have kb : C (l + 1) ≤ c → c ≤ C l → E_C 14 [170, x5, c] M = some (cu_bt P C (l + 1) c, M) := fun h1 h2 => bx_14 (j := j) (l := l + 1) hx (by omega) (by omega) m1 m3 m2 m4 b3.1 mm b1.2 b2.1 h1 h2 b4.2
    have k := ih (x5 - 1) i1 (by omega)
    have esg : cu_sg P C c (l + 1) = if C (l + 1) ≤ c ∧ c ≤ C l then cu_bt P C (l + 1) c else cu_sg P C c l := rfl
    have w1 : e_w (x5 - 1) = x5 - 1 := a_w_id (by omega) (by omega)
    have w2 : e_w (x5 + -1) = x5 - 1 := (a_w_id (by omega) (by omega)).trans (by omega)
    rw [esg]
    clear esg ih hM hb hm m1 m2 m3 m4
    revert t3 t4 kb
    generalize cu_bt P C (l + 1) c = z
    generalize C (l + 1) = a
    generalize C l = b
    intro t3 t4 kb
    rw [E_V_eq]
    show e_tv E_C (E_V 13) e_t13_60 [170, j0, c, x3, x4, x5] M = _
    unfold e_t13_60
    rcases x_le a c with ⟨c1, c1_n⟩ | ⟨c1, c1_n⟩
    · rcases x_le c b with ⟨c2, c2_n⟩ | ⟨c2, c2_n⟩
      · have kb' := kb c1 c2
        rw [if_pos ⟨c1, c2⟩]
        simp [e_tv, e_ev, e_sv, e_b1, e_b2, x_o1, x_o2, bx_Gf, q, w1, t3, t4, c1, c1_n, c2, c2_n, kb']
      · rw [if_neg (fun e => c2 e.2)]
        simp [e_tv, e_ev, e_sv, e_b1, e_b2, x_o1, x_o2, bx_Gf, q, w1, w2, t3, t4, c1, c1_n, c2, c2_n, k]
    · rw [if_neg (fun e => c1 e.1)]
      simp [e_tv, e_ev, e_sv, e_b1, e_b2, x_o1, x_o2, bx_Gf, q, w2, t3, c1, c1_n, k]
theorem bx_13 {j q n : Nat} {j0 c : Int} {P C : Nat → Int} {M : EM} (hj0 : j0 = j) (hj : j < 40) (hq : q < 40) (h174 : M 174 j = q) (h12 : M 12 q = n) (hn1 : 1 ≤ n) (hn : n ≤ 6) (hc : 0 ≤ c ∧ c ≤ 2000) (hM : ∀ i, i < n → M 177 (6 * j + i) = P i ∧ M 178 (6 * j + i) = C i) (hb : ∀ i, i < n → (0 ≤ P i ∧ P i ≤ 60) ∧ 0 ≤ C i ∧ C i ≤ 99) (hm : ∀ i, i + 1 < n → P i ≤ P (i + 1)) : E_C 13 [170, j0, c] M = some (cu_cp n P C c, M) := by
  have i0 : j0 * 6 = ((6 * j : Nat) : Int) := by omega
  have i5 : j0 * 6 + (n : Int) - 1 = ((6 * j + (n - 1) : Nat) : Int) := by omega
  have t0 : E_C 146 [178, j0 * 6] M = some (C 0, M) := (w_atN (a := 178) (n := 240) (by decide +kernel) (j := 6 * j + 0) i0 (by omega) M).trans (by rw [← (hM 0 (by omega)).2]; rfl)
  have t1 : E_C 146 [174, j0] M = some ((q : Int), M) := (w_atN (a := 174) (n := 40) (by decide +kernel) (j := j) hj0 hj M).trans (by rw [← h174]; rfl)
  have t2 : E_C 146 [12, (q : Int)] M = some ((n : Int), M) := (w_atN (a := 12) (n := 40) (by decide +kernel) (j := q) rfl hq M).trans (by rw [← h12]; rfl)
  have k := fun x4 => bx_60 (j0 := j0) (c := c) (x3 := j0 * 6) (x4 := x4) hj i0 hn hM hb hm (n - 1) (j0 * 6 + (n : Int) - 1) i5 (by omega)
  have b0 := (hb 0 (by omega)).2
  obtain ⟨qq, hqq⟩ : ∃ qq : Int, (q : Int) = qq := ⟨_, rfl⟩
  obtain ⟨nn, hnn⟩ : ∃ nn : Int, (n : Int) = nn := ⟨_, rfl⟩
  rw [hqq, hnn] at t2
  rw [hqq] at t1
  rw [hnn] at k
  have w1 : e_w (j0 * 6) = j0 * 6 := a_w_id (by omega) (by omega)
  have w2 : e_w (j0 * 6 + nn) = j0 * 6 + nn := a_w_id (by omega) (by omega)
  have w3 : e_w (j0 * 6 + nn - 1) = j0 * 6 + nn - 1 := a_w_id (by omega) (by omega)
  unfold cu_cp
  clear hM hb hm i5 i0 h174 h12 hqq hnn
  revert t0 k b0
  generalize cu_sg P C c (n - 1) = z
  generalize C 0 = a
  intro t0 b0 k
  have w4 : e_w (c - a) = c - a := a_w_id (by omega) (by omega)
  rw [r_ent (show e_rok 13 [170, j0, c] = true from bx_r (M := M) rfl (by decide +kernel))]
  show e_tv E_C (E_V 13) e_t13_0 [170, j0, c, 0, 0, 0] M = _
  unfold e_t13_0
  rcases x_lt a c with ⟨c1, c1_n⟩ | ⟨c1, c1_n⟩
  · have c1' : 0 < c - a := by omega
    have c1'' : ¬ (c - a ≤ 0) := by omega
    have w5 : e_w (2 * (c - a)) = 2 * (c - a) := a_w_id (by omega) (by omega)
    rw [if_pos c1]
    rcases x_lt 10 (c - a) with ⟨c2, c2_n⟩ | ⟨c2, c2_n⟩
    · rw [if_pos c2]
      have c3 : 20 < 2 * (c - a) := by omega
      have w6 : e_w (-20) = -20 := a_w_id (by omega) (by omega)
      simp [e_tv, e_ev, e_sv, e_b1, e_b2, x_o1, x_o2, bx_Gf, w1, w4, w5, w6, t0, c1', c1'', c3]
    · rw [if_neg c2, show -2 * (c - a) = -(2 * (c - a)) by omega]
      have c3 : ¬ (20 < 2 * (c - a)) := by omega
      have w6 : e_w (-(2 * (c - a))) = -(2 * (c - a)) := a_w_id (by omega) (by omega)
      simp [e_tv, e_ev, e_sv, e_b1, e_b2, x_o1, x_o2, bx_Gf, w1, w4, w5, w6, t0, c1', c1'', c3]
  · have c1' : ¬ (0 < c - a) := by omega
    have c1'' : c - a ≤ 0 := by omega
    rw [if_neg c1]
    have k' := k (c - a)
    simp [e_tv, e_ev, e_sv, e_b1, e_b2, x_o1, x_o2, bx_Gf, bx_Gb, bx_G3, w_H0, w_P2, w1, w2, w3, w4, t0, t1, t2, c1', c1'', k']
