/-! what the reference reads of CELLS and ROWS: exactly -/
/-- a CELL has a CURVE -/
def hd_cv (g : Int → Int) (q : Int) : Prop := ∃ n : Nat, 2 ≤ n ∧ n ≤ 6 ∧ g (28 * q + 2) = n ∧ g (28 * q + 3) = 0 ∧ g (28 * q + 3 + ((n - 1 : Nat) : Int)) ≤ 60 ∧ g (28 * q + 9 + ((n - 1 : Nat) : Int)) = 0 ∧ g (28 * q + 9) ≤ 99 ∧ ∀ i : Nat, i + 1 < n → g (28 * q + 3 + (i : Int)) < g (28 * q + 3 + ((i + 1 : Nat) : Int)) ∧ g (28 * q + 9 + ((i + 1 : Nat) : Int)) < g (28 * q + 9 + (i : Int))
def cu_pv (g : Int → Int) (w q : Int) (i : Nat) : Int := g (28 * q + 3 + (i : Int)) - (g (28 * q + 3 + (i : Int)) * w).tdiv 100
def cu_cv (g : Int → Int) (s q : Int) (i : Nat) : Int := (g (28 * q + 9 + (i : Int)) * s).tdiv 100
theorem cu_up {X : Nat → Int} : ∀ d i : Nat, (∀ j, i ≤ j → j < i + d → X j < X (j + 1)) → X i + d ≤ X (i + d) := by
  intro d
  induction d with
  | zero => intro i _; show X i + 0 ≤ X i; omega
  | succ d ih =>
    intro i h
    have a := ih i (fun j h1 h2 => h j h1 (by omega))
    have b := h (i + d) (by omega) (by omega)
    rw [show i + (d + 1) = i + d + 1 by omega]
    omega
theorem hd_cv_bd {g : Int → Int} {q : Int} {n : Nat} (h : hd_cv g q) (hn : g (28 * q + 2) = n) : 2 ≤ n ∧ n ≤ 6 ∧ (∀ i : Nat, i < n → (0 ≤ g (28 * q + 3 + (i : Int)) ∧ g (28 * q + 3 + (i : Int)) ≤ 60) ∧ 0 ≤ g (28 * q + 9 + (i : Int)) ∧ g (28 * q + 9 + (i : Int)) ≤ 99) ∧ g (28 * q + 3) = 0 ∧ g (28 * q + 9 + ((n - 1 : Nat) : Int)) = 0 ∧ ∀ i : Nat, i + 1 < n → g (28 * q + 3 + (i : Int)) < g (28 * q + 3 + ((i + 1 : Nat) : Int)) ∧ g (28 * q + 9 + ((i + 1 : Nat) : Int)) < g (28 * q + 9 + (i : Int)) := by
  obtain ⟨m, m1, m2, m3, m4, m5, m6, m7, m8⟩ := h
  have e : m = n := by omega
  subst e
  refine ⟨m1, m2, fun i hi => ?_, m4, m6, m8⟩
  have a1 := cu_up (X := fun j : Nat => g (28 * q + 3 + (j : Int))) i 0 (fun j _ h2 => (m8 j (by omega)).1)
  have a2 := cu_up (X := fun j : Nat => g (28 * q + 3 + (j : Int))) (m - 1 - i) i (fun j _ h2 => (m8 j (by omega)).1)
  have a3 := cu_up (X := fun j : Nat => - g (28 * q + 9 + (j : Int))) i 0 (fun j _ h2 => by have := (m8 j (by omega)).2; show - g (28 * q + 9 + (j : Int)) < - g (28 * q + 9 + ((j + 1 : Nat) : Int)); omega)
  have a4 := cu_up (X := fun j : Nat => - g (28 * q + 9 + (j : Int))) (m - 1 - i) i (fun j _ h2 => by have := (m8 j (by omega)).2; show - g (28 * q + 9 + (j : Int)) < - g (28 * q + 9 + ((j + 1 : Nat) : Int)); omega)
  simp only [Nat.zero_add] at a1 a3
  rw [show i + (m - 1 - i) = m - 1 by omega] at a2 a4
  have z3 : g (28 * q + 3 + ((0 : Nat) : Int)) = 0 := by rw [← m4]; exact congrArg g (by omega)
  have z9 : g (28 * q + 9 + ((0 : Nat) : Int)) ≤ 99 := by rw [show 28 * q + 9 + ((0 : Nat) : Int) = 28 * q + 9 by omega]; exact m7
  omega
/-- what WARM takes off -/
theorem cu_wv {p w : Int} (h0 : 0 ≤ p ∧ p ≤ 100) (h1 : 0 ≤ w ∧ w ≤ 100) : (0 ≤ p * w ∧ p * w ≤ 10000) ∧ 0 ≤ (p * w).tdiv 100 ∧ (p * w).tdiv 100 ≤ p := by
  have a : 0 ≤ p * w := Int.mul_nonneg h0.1 h1.1
  have b : p * w ≤ p * 100 := Int.mul_le_mul_of_nonneg_left h1.2 h0.1
  rw [Int.tdiv_eq_ediv_of_nonneg a]
  omega
theorem cu_wm {p p' w : Int} (h0 : 0 ≤ p) (h1 : p ≤ p') (hw : 0 ≤ w ∧ w ≤ 100) : (p * w).tdiv 100 ≤ (p' * w).tdiv 100 ∧ (p' * w).tdiv 100 - (p * w).tdiv 100 ≤ p' - p := by
  have a : 0 ≤ p * w := Int.mul_nonneg h0 hw.1
  have a' : 0 ≤ p' * w := Int.mul_nonneg (by omega) hw.1
  have b : (p' - p) * w ≤ (p' - p) * 100 := Int.mul_le_mul_of_nonneg_left hw.2 (by omega)
  have c : 0 ≤ (p' - p) * w := Int.mul_nonneg (by omega) hw.1
  rw [Int.sub_mul] at b c
  rw [Int.tdiv_eq_ediv_of_nonneg a, Int.tdiv_eq_ediv_of_nonneg a']
  omega
theorem cu_vok {g : Int → Int} {q s w : Int} {n : Nat} (h : hd_cv g q) (hn : g (28 * q + 2) = n) (hs : 0 ≤ s ∧ s ≤ 100) (hw : 0 ≤ w ∧ w ≤ 100) : cu_ok n (cu_pv g w q) (cu_cv g s q) ∧ ∀ i : Nat, i < n → (0 ≤ cu_pv g w q i ∧ cu_pv g w q i ≤ 60) ∧ 0 ≤ cu_cv g s q i ∧ cu_cv g s q i ≤ 99 := by
  obtain ⟨b1, b2, b3, b4, b5, b6⟩ := hd_cv_bd h hn
  have k : ∀ i : Nat, i < n → (0 ≤ cu_pv g w q i ∧ cu_pv g w q i ≤ 60) ∧ 0 ≤ cu_cv g s q i ∧ cu_cv g s q i ≤ 99 := by
    intro i hi
    obtain ⟨c1, c2⟩ := b3 i hi
    have d1 := cu_wv (p := g (28 * q + 3 + (i : Int))) (w := w) ⟨c1.1, by omega⟩ hw
    have d2 := cu_wv (p := g (28 * q + 9 + (i : Int))) (w := s) ⟨c2.1, by omega⟩ hs
    unfold cu_pv cu_cv
    omega
  refine ⟨⟨by omega, (k 0 (by omega)).1.1, (k (n - 1) (by omega)).1.2, ?_, fun i hi => ?_⟩, k⟩
  · unfold cu_cv
    rw [b5, Int.zero_mul]
    rfl
  · obtain ⟨e1, e2⟩ := b6 i hi
    have c1 := b3 i (by omega)
    have c2 := b3 (i + 1) (by omega)
    have d1 := cu_wm (p := g (28 * q + 3 + (i : Int))) (p' := g (28 * q + 3 + ((i + 1 : Nat) : Int))) (w := w) c1.1.1 (by omega) hw
    have d2 := cu_wm (p := g (28 * q + 9 + ((i + 1 : Nat) : Int))) (p' := g (28 * q + 9 + (i : Int))) (w := s) c2.2.1 (by omega) hs
    unfold cu_pv cu_cv
    omega
/-- CURRENT of a POINT -/
theorem rx_cur {q s : Int} {i : Nat} {M : EM} (hq : 0 ≤ q ∧ q < 40) (hi : i < 6) (hb : 0 ≤ r_G M (28 * q + 9 + (i : Int)) ∧ r_G M (28 * q + 9 + (i : Int)) ≤ 99) (hs : 0 ≤ s ∧ s ≤ 100) : E_C 194 [192, q, (i : Int), s] M = some (cu_cv (r_G M) s q i, M) := by
  have w1 : e_w (28 * q) = 28 * q := a_w_id (by omega) (by omega)
  have w2 : e_w (28 * q + 9) = 28 * q + 9 := a_w_id (by omega) (by omega)
  have w3 : e_w (28 * q + 9 + (i : Int)) = 28 * q + 9 + (i : Int) := a_w_id (by omega) (by omega)
  have l1 : e_op 60 [193, 28 * q + 9 + (i : Int)] M = some (r_G M (28 * q + 9 + (i : Int))) := r_rd (by omega) (by omega)
  have d := cu_wv (p := r_G M (28 * q + 9 + (i : Int))) (w := s) ⟨hb.1, by omega⟩ hs
  unfold cu_cv
  revert l1 d hb
  generalize r_G M (28 * q + 9 + (i : Int)) = z
  intro hb l1 d
  have w4 : e_w (z * s) = z * s := a_w_id (by omega) (by omega)
  have w5 : e_w ((z * s).tdiv 100) = (z * s).tdiv 100 := a_w_id (by omega) (by omega)
  rw [r_ent (show e_rok 194 [192, q, (i : Int), s] = true from decide_eq_true r_ref)]
  show e_tv E_C (E_V 194) e_t194_0 [192, q, (i : Int), s] M = _
  unfold e_t194_0
  simp [e_tv, e_ev, e_sv, e_b1, e_b2, x_o1, x_o2, r_O0, w1, w2, w3, l1, w4, w5]
/-- how things stand as the reference asks: SHARES, WARMS, DIODES -/
def rx_md (M : EM) (SH WM : Int → Int) (DI : Int → Nat → Int) : Prop :=
  (∀ b q, b ≤ 40 → b ≤ r_G M 1198 → r_cl (r_G M) b q → (E_C 192 [192, q] M = some (SH q, M) ∧ 0 ≤ SH q ∧ SH q ≤ 100) ∧ (0 ≤ WM q ∧ WM q ≤ 100) ∧ ∀ i : Nat, i < 6 → 0 ≤ r_G M (28 * q + 3 + (i : Int)) → r_G M (28 * q + 3 + (i : Int)) ≤ 60 → E_C 193 [192, q, (i : Int)] M = some (cu_pv (r_G M) (WM q) q i, M)) ∧
  (∀ q (y : Nat), 0 ≤ q → q < 40 → y < 8 → E_C 200 [192, q, (y : Int)] M = some (DI q y, M) ∧ (DI q y = 0 ∨ DI q y = 1))
def cu_v (g : Int → Int) (SH WM : Int → Int) (q c : Int) : Int := cu_cp (g (28 * q + 2)).toNat (cu_pv g (WM q) q) (cu_cv g (SH q) q) c
theorem rx_ar {s t a b c : Int} (h1 : 0 ≤ t) (h2 : t ≤ s) (h3 : s ≤ 60) (h4 : 0 ≤ a) (h5 : a ≤ c) (h6 : c ≤ b) (h7 : b ≤ 99) (h8 : a ≠ b) : e_w (s - e_w ((e_w (e_w (s - t) * e_w (c - a))).tdiv (e_w (b - a)))) = s - ((s - t) * (c - a)).tdiv (b - a) := by
  have q := cu_q (A := s - t) (B := c - a) (D := b - a) (by omega) (by omega) (by omega) (by omega)
  have m : (s - t) * (c - a) ≤ (s - t) * 99 := Int.mul_le_mul_of_nonneg_left (by omega) (by omega)
  have m0 : 0 ≤ (s - t) * (c - a) := Int.mul_nonneg (by omega) (by omega)
  rw [a_w_id (x := s - t) (by omega) (by omega), a_w_id (x := c - a) (by omega) (by omega), a_w_id (x := b - a) (by omega) (by omega)]
  revert q m m0
  generalize (s - t) * (c - a) = z
  intro q m m0
  rw [a_w_id (x := z) (by omega) (by omega)]
  revert q
  generalize z.tdiv (b - a) = y
  intro q
  rw [a_w_id (x := y) (by omega) (by omega), a_w_id (by omega) (by omega)]
theorem rx_sg {q c s x4 : Int} {n : Nat} {P : Nat → Int} {M : EM} (hq : 0 ≤ q ∧ q < 40) (hc : -2147483648 ≤ c ∧ c ≤ 2147483647) (hs : 0 ≤ s ∧ s ≤ 100) (hn6 : n ≤ 6) (hb : ∀ i : Nat, i < n → 0 ≤ r_G M (28 * q + 9 + (i : Int)) ∧ r_G M (28 * q + 9 + (i : Int)) ≤ 99) (hC : ∀ i : Nat, i < n → 0 ≤ cu_cv (r_G M) s q i ∧ cu_cv (r_G M) s q i ≤ 99) (hP : ∀ i : Nat, i < n → E_C 193 [192, q, (i : Int)] M = some (P i, M) ∧ 0 ≤ P i ∧ P i ≤ 60) (hm : ∀ i, i + 1 < n → P i ≤ P (i + 1)) : ∀ (l : Nat) (x5 x6 x7 x8 : Int), x5 = l → l < n → E_V 198 46 [192, q, c, s, x4, x5, x6, x7, x8] M = some (cu_sg P (cu_cv (r_G M) s q) c l, M) := by
  intro l
  induction l with
  | zero =>
    intro x5 x6 x7 x8 hx _
    have hx0 : x5 = 0 := hx
    subst hx0
    rw [E_V_eq]
    show e_tv E_C (E_V 198) e_t198_46 [192, q, c, s, x4, 0, x6, x7, x8] M = _
    unfold e_t198_46
    simp [e_tv, e_ev, e_sv, e_b1, e_b2, x_o1, x_o2, cu_sg]
  | succ l ih =>
    intro x5 x6 x7 x8 hx hl
    have q0 : 0 < x5 := by omega
    have w1 : e_w (x5 - 1) = x5 - 1 := a_w_id (by omega) (by omega)
    have w2 : e_w (x5 + -1) = x5 - 1 := (a_w_id (by omega) (by omega)).trans (by omega)
    have ka : E_C 194 [192, q, x5, s] M = some (cu_cv (r_G M) s q (l + 1), M) := by
      rw [hx]
      exact rx_cur hq (by omega) (hb (l + 1) hl) hs
    have kb : E_C 194 [192, q, x5 - 1, s] M = some (cu_cv (r_G M) s q l, M) := by
      rw [show x5 - 1 = (l : Int) by omega]
      exact rx_cur hq (by omega) (hb l (by omega)) hs
    obtain ⟨ks0, s1, s2⟩ := hP (l + 1) hl
    obtain ⟨kt0, t1, t2⟩ := hP l (by omega)
    have ks : E_C 193 [192, q, x5] M = some (P (l + 1), M) := by rw [hx]; exact ks0
    have kt : E_C 193 [192, q, x5 - 1] M = some (P l, M) := by rw [show x5 - 1 = (l : Int) by omega]; exact kt0
    clear ks0 kt0
    have ha := hC (l + 1) hl
    have hb' := hC l (by omega)
    have hmm := hm l hl
    have esg : cu_sg P (cu_cv (r_G M) s q) c (l + 1) = if cu_cv (r_G M) s q (l + 1) ≤ c ∧ c ≤ cu_cv (r_G M) s q l then cu_bt P (cu_cv (r_G M) s q) (l + 1) c else cu_sg P (cu_cv (r_G M) s q) c l := rfl
    have ebt : cu_bt P (cu_cv (r_G M) s q) (l + 1) c = if cu_cv (r_G M) s q l = cu_cv (r_G M) s q (l + 1) then P (l + 1) else P (l + 1) - ((P (l + 1) - P l) * (c - cu_cv (r_G M) s q (l + 1))).tdiv (cu_cv (r_G M) s q l - cu_cv (r_G M) s q (l + 1)) := rfl
    have hgo : ∀ y6 y7 y8, E_V 198 136 [192, q, c, s, x4, x5, y6, y7, y8] M = some (cu_sg P (cu_cv (r_G M) s q) c l, M) := by
      intro y6 y7 y8
      have k := ih (x5 - 1) y6 y7 y8 (by omega) (by omega)
      rw [E_V_eq]
      show e_tv E_C (E_V 198) e_t198_136 [192, q, c, s, x4, x5, y6, y7, y8] M = _
      unfold e_t198_136
      simp [e_tv, e_ev, e_sv, e_b1, e_b2, x_o1, x_o2, w2, k]
    rw [esg, ebt]
    clear esg ebt ih hP hC hb
    revert ka kb ha hb' hgo
    generalize cu_sg P (cu_cv (r_G M) s q) c l = zz
    generalize cu_cv (r_G M) s q (l + 1) = a
    generalize cu_cv (r_G M) s q l = b
    intro ka kb ha hb' hgo
    rcases x_le a c with ⟨c1, c1_n⟩ | ⟨c1, c1_n⟩
    · rcases x_lt b c with ⟨c2, c2_n⟩ | ⟨c2, c2_n⟩
      · have k := hgo a b x8
        rw [if_neg (fun e => by omega)]
        rw [E_V_eq]
        show e_tv E_C (E_V 198) e_t198_46 [192, q, c, s, x4, x5, x6, x7, x8] M = _
        unfold e_t198_46
        simp [e_tv, e_ev, e_sv, e_b1, e_b2, x_o1, x_o2, q0, w1, ka, kb, c1, c1_n, c2, c2_n, k]
      · rw [if_pos ⟨c1, by omega⟩]
        by_cases c3 : b = a
        · rw [if_pos c3]
          subst c3
          rw [E_V_eq]
          show e_tv E_C (E_V 198) e_t198_46 [192, q, c, s, x4, x5, x6, x7, x8] M = _
          unfold e_t198_46
          simp [e_tv, e_ev, e_sv, e_b1, e_b2, x_o1, x_o2, q0, w1, ka, kb, ks, c1, c1_n, c2, c2_n]
        · have w3 := rx_ar (s := P (l + 1)) (t := P l) (a := a) (b := b) (c := c) t1 hmm s2 ha.1 c1 (by omega) hb'.2 (fun e => c3 e.symm)
          have c4 : e_w (b - a) ≠ 0 := r_ne_w ⟨by omega, by omega⟩ ⟨by omega, by omega⟩ c3
          rw [if_neg c3, ← w3]
          rw [E_V_eq]
          show e_tv E_C (E_V 198) e_t198_46 [192, q, c, s, x4, x5, x6, x7, x8] M = _
          unfold e_t198_46
          simp [e_tv, e_ev, e_sv, e_b1, e_b2, x_o1, x_o2, q0, w1, ka, kb, ks, kt, c1, c1_n, c2, c2_n, c3, c4]
    · have k := hgo a b x8
      rw [if_neg (fun e => by omega)]
      rw [E_V_eq]
      show e_tv E_C (E_V 198) e_t198_46 [192, q, c, s, x4, x5, x6, x7, x8] M = _
      unfold e_t198_46
      simp [e_tv, e_ev, e_sv, e_b1, e_b2, x_o1, x_o2, q0, w1, ka, kb, c1, c1_n, k]
theorem rx_cell {b q c : Int} {SH WM : Int → Int} {DI : Int → Nat → Int} {M : EM} (hm : rx_md M SH WM DI) (hb : b ≤ 40) (hb1 : b ≤ r_G M 1198) (hq : r_cl (r_G M) b q) (hv : hd_cv (r_G M) q) (hc : 0 ≤ c ∧ c ≤ 2000) : E_C 198 [192, q, c, SH q] M = some (cu_v (r_G M) SH WM q c, M) := by
  have h40 : 0 ≤ q ∧ q < 40 := ⟨hq.1, by have := hq.2.1; omega⟩
  obtain ⟨⟨-, s1, s2⟩, m3, m2⟩ := hm.1 b q hb hb1 hq
  obtain ⟨n, hn⟩ : ∃ n : Nat, r_G M (28 * q + 2) = n := ⟨(r_G M (28 * q + 2)).toNat, by have := hq.2.2.2.1; omega⟩
  obtain ⟨b1, b2, b3, b4, b5, b6⟩ := hd_cv_bd hv hn
  obtain ⟨v1, v2⟩ := cu_vok (s := SH q) (w := WM q) hv hn ⟨s1, s2⟩ m3
  have km : E_C 171 [192, q] M = some ((n : Int), M) := by rw [← hn]; exact r_many h40
  obtain ⟨n1, hn1⟩ : ∃ n1 : Int, ((n - 1 : Nat) : Int) = n1 := ⟨_, rfl⟩
  obtain ⟨nn, hnn⟩ : ∃ nn : Int, (n : Int) = nn := ⟨_, rfl⟩
  have w1 : e_w (nn - 1) = n1 := (a_w_id (by omega) (by omega)).trans (by omega)
  rw [hnn] at km
  have ka := rx_cur (M := M) (s := SH q) h40 (show 0 < 6 by decide) (b3 0 (by omega)).2 ⟨s1, s2⟩
  have k := fun x4 => rx_sg (P := cu_pv (r_G M) (WM q) q) (c := c) (x4 := x4) (n := n) h40 ⟨by omega, by omega⟩ ⟨s1, s2⟩ b2 (fun i hi => (b3 i hi).2) (fun i hi => (v2 i hi).2) (fun i hi => ⟨m2 i (by omega) (b3 i hi).1.1 (b3 i hi).1.2, (v2 i hi).1⟩) (fun i hi => (v1.2.2.2.2 i hi).1) (n - 1) ((n - 1 : Nat) : Int) 0 0 0 rfl (by omega)
  have c0 := (v2 0 (by omega)).2
  unfold cu_v cu_cp
  rw [hn, Int.toNat_natCast]
  revert ka k c0
  generalize cu_sg (cu_pv (r_G M) (WM q) q) (cu_cv (r_G M) (SH q) q) c (n - 1) = z
  generalize cu_cv (r_G M) (SH q) q 0 = a
  intro ka k c0
  have ka' : E_C 194 [192, q, 0, SH q] M = some (a, M) := ka
  have k' := k a
  rw [hn1] at k'
  have w2 : e_w (c - a) = c - a := a_w_id (by omega) (by omega)
  rcases x_lt a c with ⟨c1, c1_n⟩ | ⟨c1, c1_n⟩
  · rw [if_pos c1]
    rcases x_lt 10 (c - a) with ⟨c2, c2_n⟩ | ⟨c2, c2_n⟩
    · rw [if_pos c2]
      rw [r_ent (show e_rok 198 [192, q, c, SH q] = true from decide_eq_true r_ref)]
      show e_tv E_C (E_V 198) e_t198_0 [192, q, c, SH q, 0, 0, 0, 0, 0] M = _
      unfold e_t198_0
      simp [e_tv, e_ev, e_sv, e_b1, e_b2, x_o1, x_o2, ka', c1, c1_n, w2, c2, c2_n]
    · rw [if_neg c2]
      have w3 : e_w (-2 * (c - a)) = -2 * (c - a) := a_w_id (by omega) (by omega)
      have w4 : e_w (-(2 * (c - a))) = -(2 * (c - a)) := a_w_id (by omega) (by omega)
      rw [r_ent (show e_rok 198 [192, q, c, SH q] = true from decide_eq_true r_ref)]
      show e_tv E_C (E_V 198) e_t198_0 [192, q, c, SH q, 0, 0, 0, 0, 0] M = _
      unfold e_t198_0
      simp [e_tv, e_ev, e_sv, e_b1, e_b2, x_o1, x_o2, ka', c1, c1_n, w2, c2, c2_n, w3, w4]
  · rw [if_neg c1]
    rw [r_ent (show e_rok 198 [192, q, c, SH q] = true from decide_eq_true r_ref)]
    show e_tv E_C (E_V 198) e_t198_0 [192, q, c, SH q, 0, 0, 0, 0, 0] M = _
    unfold e_t198_0
    simp [e_tv, e_ev, e_sv, e_b1, e_b2, x_o1, x_o2, ka', c1, c1_n, km, w1, k']
theorem cu_v_bd {g : Int → Int} {SH WM : Int → Int} {q c : Int} (hv : hd_cv g q) (hs : 0 ≤ SH q ∧ SH q ≤ 100) (hw : 0 ≤ WM q ∧ WM q ≤ 100) (hc : 0 ≤ c) : (-20 ≤ cu_v g SH WM q c ∧ cu_v g SH WM q c ≤ 60) ∧ cu_v g SH WM q (c + 1) ≤ cu_v g SH WM q c := by
  obtain ⟨n, hn⟩ : ∃ n : Nat, g (28 * q + 2) = n := by
    obtain ⟨n, h⟩ := hv
    exact ⟨n, h.2.2.1⟩
  have k := (cu_vok hv hn hs hw).1
  unfold cu_v
  rw [hn, Int.toNat_natCast]
  exact ⟨cu_cp_bd k hc, cu_cp_mono k hc⟩
