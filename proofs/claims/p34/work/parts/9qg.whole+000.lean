/-! the class makes a PART out of others: exactly -/
theorem w_jsn {M0 M : EM} {p : Nat} {K t : Int} {f i : Nat} (hp : p < 40) (hi : i < 8) (h : w_js M0 M p K t f i) (hj : w_jn M0 p K f i) (h1 : w_j1 M0 p K f i) {o : Nat} (ho : M0 167 (f + i) = o) : w_js M0 (w_b53 M p o i (M0 168 (f + i)) (M0 169 (f + i))) p K t f (i + 1) := by
  obtain ⟨a1, a2, a3, a4, a5, a6, a7, a8, a9, a10, a11, a12, a13⟩ := h
  obtain ⟨b1, b2, b3, b4, b5⟩ := h1
  rw [ho] at b1 b2 b3 b4 b5
  have hop : o < p := by omega
  have hopn : o ≠ p := by omega
  have hop' : p ≠ o := by omega
  have x13 : ∀ q, q ≠ o → w_b53 M p o i (M0 168 (f + i)) (M0 169 (f + i)) 13 q = M 13 q := by
    intro q hq
    unfold w_b53
    simp [e_up, hq]
  have y13 : w_b53 M p o i (M0 168 (f + i)) (M0 169 (f + i)) 13 o = p := by
    unfold w_b53
    simp [e_up]
  have x14 : ∀ q, q ≠ p → w_b53 M p o i (M0 168 (f + i)) (M0 169 (f + i)) 14 q = M 14 q := by
    intro q hq
    unfold w_b53
    simp [e_up, hq]
  have y14 : w_b53 M p o i (M0 168 (f + i)) (M0 169 (f + i)) 14 p = ((i + 1 : Nat) : Int) := by
    unfold w_b53
    simp [e_up]
  have x15 : ∀ q, q ≠ 8 * p + i → w_b53 M p o i (M0 168 (f + i)) (M0 169 (f + i)) 15 q = M 15 q ∧ w_b53 M p o i (M0 168 (f + i)) (M0 169 (f + i)) 16 q = M 16 q ∧ w_b53 M p o i (M0 168 (f + i)) (M0 169 (f + i)) 17 q = M 17 q := by
    intro q hq
    unfold w_b53
    simp [e_up, hq]
  have y15 : w_b53 M p o i (M0 168 (f + i)) (M0 169 (f + i)) 15 (8 * p + i) = o ∧ w_b53 M p o i (M0 168 (f + i)) (M0 169 (f + i)) 16 (8 * p + i) = M0 168 (f + i) ∧ w_b53 M p o i (M0 168 (f + i)) (M0 169 (f + i)) 17 (8 * p + i) = M0 169 (f + i) := by
    unfold w_b53
    simp [e_up]
  have xo : ∀ id k, ¬ (13 ≤ id ∧ id ≤ 17) → w_b53 M p o i (M0 168 (f + i)) (M0 169 (f + i)) id k = M id k := by
    intro id k hid
    have e3 : id ≠ 13 := by omega
    have e4 : id ≠ 14 := by omega
    have e5 : id ≠ 15 := by omega
    have e6 : id ≠ 16 := by omega
    have e7 : id ≠ 17 := by omega
    unfold w_b53
    simp [e_up, e3, e4, e5, e6, e7]
  generalize w_b53 M p o i (M0 168 (f + i)) (M0 169 (f + i)) = N at x13 y13 x14 y14 x15 y15 xo ⊢
  refine ⟨?_, ?_, ?_, y14, ?_, fun j hj' => ?_, fun q hq hn => ?_, fun q hq => ?_, fun q hq => ?_, fun q hq => ?_, ?_, ?_, fun id k h1 h2 h3 h4 => ?_⟩
  · rw [xo _ _ (by omega)]; exact a1
  · rw [xo _ _ (by omega)]; exact a2
  · rw [x13 _ hop']; exact a3
  · rw [xo _ _ (by omega)]; exact a5
  · by_cases e : j = i
    · subst e
      rw [y15.1, y15.2.1, y15.2.2, ho, Int.toNat_natCast]
      exact ⟨rfl, rfl, rfl, y13⟩
    · obtain ⟨c1, c2, c3, c4⟩ := a6 j (by omega)
      obtain ⟨d1, d2, d3⟩ := x15 (8 * p + j) (by omega)
      rw [d1, d2, d3]
      refine ⟨c1, c2, c3, ?_⟩
      have b5' := b5 j (by omega)
      have z0 := (hj j (by omega)).1
      rw [x13 _ (by omega)]
      exact c4
  · have e := hn i (by omega)
    rw [ho] at e
    rw [x13 _ (by omega)]
    exact a7 q hq (fun j hj' => hn j (by omega))
  · rw [xo 11 _ (by omega), xo 12 _ (by omega), xo 22 _ (by omega), xo 23 _ (by omega), xo 24 _ (by omega), x14 _ hq]
    exact a8 q hq
  · obtain ⟨d1, d2, d3⟩ := x15 q (by omega)
    rw [d1, d2, d3]
    exact a9 q hq
  · rw [xo _ _ (by omega)]; exact a10 q hq
  · rw [xo 21 _ (by omega), xo 21 _ (by omega), xo 21 _ (by omega), xo 21 _ (by omega), xo 22 _ (by omega), xo 23 _ (by omega), xo 24 _ (by omega)]
    exact a11
  · rw [xo _ _ (by omega), xo _ _ (by omega), xo _ _ (by omega), xo _ _ (by omega), xo _ _ (by omega)]
    exact a12
  · rw [xo _ _ (by omega)]
    exact a13 id k h1 h2 h3 h4
theorem w_70l {p f n : Nat} {K t : Int} (hp : p < 40) (hn : n ≤ 8) (hf : f + n ≤ 120) (M0 : EM) : ∀ (m i : Nat) (M : EM), i + m = n → w_jn M0 p K f i → w_js M0 M p K t f i → ∃ r M' i', E_V 70 12 [162, 9, K, t, (f : Int), (n : Int), (p : Int), ((f + i : Nat) : Int)] M = some (r, M') ∧ w_js M0 M' p K t f i' ∧ w_jn M0 p K f i' ∧ ((r = 1 ∧ i' = n) ∨ (r = 0 ∧ i' < n ∧ ¬ w_j1 M0 p K f i')) := by
  have w0 : e_w ((f : Int) + (n : Int)) = (f : Int) + (n : Int) := a_w_id (by omega) (by omega)
  intro m
  induction m with
  | zero =>
    intro i M hm hj hs
    have e : i = n := by omega
    subst e
    refine ⟨1, M, i, ?_, hs, hj, Or.inl ⟨rfl, rfl⟩⟩
    have q : ¬ (((f + i : Nat) : Int) < (f : Int) + (i : Int)) := by omega
    generalize ((f + i : Nat) : Int) = x at q ⊢
    rw [E_V_eq]
    show e_tv E_C (E_V 70) e_t70_12 [162, 9, K, t, (f : Int), (i : Int), (p : Int), x] M = _
    unfold e_t70_12
    simp [e_tv, e_ev, e_sv, e_b1, e_b2, x_o1, x_o2, w0, q]
  | succ m ih =>
    intro i M hm hj hs
    have S := hs
    obtain ⟨a1, a2, a3, a4, a5, a6, a7, a8, a9, a10, a11, a12, a13⟩ := S
    have q : ((f + i : Nat) : Int) < (f : Int) + (n : Int) := by omega
    have t1 := w_atN (a := 167) (i := ((f + i : Nat) : Int)) (n := 120) (by decide +kernel) (j := f + i) rfl (by omega) M
    have t2 := w_atN (a := 168) (i := ((f + i : Nat) : Int)) (n := 120) (by decide +kernel) (j := f + i) rfl (by omega) M
    have t3 := w_atN (a := 169) (i := ((f + i : Nat) : Int)) (n := 120) (by decide +kernel) (j := f + i) rfl (by omega) M
    have z1 : M 167 (f + i) = M0 167 (f + i) := a13 _ _ (by omega) (by omega) (by omega) (by omega)
    have z2 : M 168 (f + i) = M0 168 (f + i) := a13 _ _ (by omega) (by omega) (by omega) (by omega)
    have z3 : M 169 (f + i) = M0 169 (f + i) := a13 _ _ (by omega) (by omega) (by omega) (by omega)
    have t1' : E_C 146 [167, ((f + i : Nat) : Int)] M = some (M0 167 (f + i), M) := t1.trans (congrArg some (congrArg (·, M) z1))
    have t2' : E_C 146 [168, ((f + i : Nat) : Int)] M = some (M0 168 (f + i), M) := t2.trans (congrArg some (congrArg (·, M) z2))
    have t3' : E_C 146 [169, ((f + i : Nat) : Int)] M = some (M0 169 (f + i), M) := t3.trans (congrArg some (congrArg (·, M) z3))
    have w1 : e_w (((f + i : Nat) : Int) + 1) = ((f + (i + 1) : Nat) : Int) := (a_w_id (by omega) (by omega)).trans (by omega)
    have P0 : e_gf 192 [9] M = some 10 := w_H0 M
    by_cases j1 : w_j1 M0 p K f i
    · have J := j1
      obtain ⟨b1, b2, b3, b4, b5⟩ := J
      obtain ⟨o, ho⟩ : ∃ o : Nat, M0 167 (f + i) = o := ⟨(M0 167 (f + i)).toNat, by omega⟩
      rw [ho] at b1 b2 b3 b4 b5
      rw [Int.toNat_natCast] at b3 b4
      have hop : o < p := by omega
      have g13 : M 13 o = M0 13 o := a7 o (by omega) b5
      have g11 : M 11 o = M0 11 o := (a8 o (by omega)).1
      have k := w_53y (g := M0 168 (f + i)) (d := M0 169 (f + i)) hp hop (by rw [g13]; exact b3) (by rw [a1, g11]; exact b4) a4 (by omega)
      have J2 : w_jn M0 p K f (i + 1) := fun j hj' => by
        by_cases e : j = i
        · rw [e]; exact j1
        · exact hj j (by omega)
      obtain ⟨r, M', i', k1, c1, c2, c3⟩ := ih (i + 1) _ (by omega) J2 (w_jsn hp (by omega) hs hj j1 ho)
      refine ⟨r, M', i', ?_, c1, c2, c3⟩
      rw [ho] at t1'
      generalize ((f + i : Nat) : Int) = x at q t1' t2' t3' w1 ⊢
      rw [E_V_eq]
      show e_tv E_C (E_V 70) e_t70_12 [162, 9, K, t, (f : Int), (n : Int), (p : Int), x] M = _
      unfold e_t70_12
      simp [e_tv, e_ev, e_sv, e_b1, e_b2, x_o1, x_o2, w0, w1, q, P0, w_aD, w_aE, w_aF, t1', t2', t3', k]
      exact k1
    · have k : E_C 53 [10, (p : Int), M0 167 (f + i), M0 168 (f + i), M0 169 (f + i)] M = some (0, M) := w_53n hp (fun h => by
        obtain ⟨b1, b2, b3, b4⟩ := h
        apply j1
        obtain ⟨o, ho⟩ : ∃ o : Nat, M0 167 (f + i) = o := ⟨(M0 167 (f + i)).toNat, by omega⟩
        unfold w_j1
        rw [ho] at b1 b2 b3 b4 ⊢
        rw [Int.toNat_natCast] at b3 b4 ⊢
        have g11 : M 11 o = M0 11 o := (a8 o (by omega)).1
        have b5 : ∀ j, j < i → M0 167 (f + j) ≠ (o : Int) := fun j hj' e => by
          have c4 := (a6 j hj').2.2.2
          rw [e, Int.toNat_natCast] at c4
          omega
        rw [a1, g11] at b4
        rw [a7 o (by omega) b5] at b3
        exact ⟨b1, b2, b3, b4, b5⟩)
      refine ⟨0, M, i, ?_, hs, hj, Or.inr ⟨rfl, by omega, j1⟩⟩
      generalize ((f + i : Nat) : Int) = x at q t1' t2' t3' w1 ⊢
      rw [E_V_eq]
      show e_tv E_C (E_V 70) e_t70_12 [162, 9, K, t, (f : Int), (n : Int), (p : Int), x] M = _
      unfold e_t70_12
      simp [e_tv, e_ev, e_sv, e_b1, e_b2, x_o1, x_o2, w0, q, P0, w_aD, w_aE, w_aF, t1', t2', t3', k]
