/-- what the class's rows tell of the s-th STATEMENT -/
theorem w_told {b : Nat → Int} {n : Nat} {M : EM} (hK : w_K b n M) (hA : w_A b n) (hn : n ≤ 120) (hz : w_T b n 2 = 0) {s : Nat} (hs : (s : Int) < w_T b n 7) : ∃ j k, j < k ∧ k ≤ n ∧ w_T b j 2 = 0 ∧ w_T b k 2 = 0 ∧ w_T b j 7 = s ∧ w_T b k 7 = s + 1 ∧ M 163 s = j ∧ M 164 s = b j ∧ M 165 s = w_T b j 8 ∧ M 165 (s + 1) = w_T b k 8 ∧ M 166 s = w_T b k 6 ∧ 0 ≤ w_T b j 8 ∧ w_T b j 8 ≤ w_T b k 8 ∧ w_T b k 8 ≤ 120 ∧ (M 164 s ≠ 99 → M 164 s ≠ 114 → M 164 s ≠ 102 → w_T b k 8 = w_T b j 8 + 1) := by
  obtain ⟨-, ks, ke, -⟩ := hK
  obtain ⟨j, j1, j2, j3⟩ := w_pos hA s (by omega) (by omega)
  obtain ⟨k, k1, k2, k3⟩ := w_pos hA ((s : Int) + 1) (by omega) (by omega)
  have hjk : j < k := by
    rcases Nat.lt_or_ge j k with h | h
    · exact h
    · have := w_m7 (w_Al hA j1) h
      omega
  have ij := w_Ii (w_Al hA j1)
  have ik := w_Ii (w_Al hA k1)
  unfold w_I at ij ik
  obtain ⟨a1, a2⟩ := ks j (by omega) j2
  obtain ⟨c1, -⟩ := ke j j1 j2
  obtain ⟨d1, d2⟩ := ke k k1 k2
  rw [j3, Int.toNat_natCast] at a1 a2 c1
  have e1 : ((s : Int) + 1).toNat = s + 1 := by omega
  have e2 : ((s : Int) + 1 - 1).toNat = s := by omega
  rw [k3, e1] at d1
  rw [k3, e2] at d2
  have nn := w_nxt (w_Al hA k1) j2 hjk k2 (by omega)
  refine ⟨j, k, hjk, k1, j2, k2, j3, k3, a1, a2, c1, d1, d2 (by omega), ij.2.2.2.2.1, w_m8 (by omega), by omega, fun h1 h2 h3 => ?_⟩
  rw [a2] at h1 h2 h3
  have ok := hA j (by omega)
  unfold w_ok at ok
  rw [if_pos j2] at ok
  have hb : b j = 98 := by omega
  have B := w_inb j2 hb (k - j - 1) (by rw [show j + (k - j - 1 + 1) = k by omega]; exact w_Al hA k1) (fun i hi => nn _ (by omega) (by omega))
  rw [show j + (k - j - 1 + 1) = k by omega] at B
  omega
/-- the first n PARTS have lost what came behind them -/
def w_ct (M0 M : EM) (n i : Nat) : Prop := (∀ q, q < i → M 13 q = if (n : Int) ≤ M0 13 q then -1 else M0 13 q) ∧ (∀ q, i ≤ q → M 13 q = M0 13 q) ∧ (∀ id k, id ≠ 13 → M id k = M0 id k)
theorem w_55 {n : Nat} (hn : n ≤ 40) (M : EM) : ∃ M', E_C 55 [10, (n : Int)] M = some (0, M') ∧ w_ct (e_up M 10 0 n) M' n n := by
  have s0 : E_C 55 [10, (n : Int)] M = e_tv E_C (E_V 55) e_t55_0 [10, (n : Int), 0] M := r_ent (u := 55) (as := [10, (n : Int)]) (M := M) (decide_eq_true (show e_isO 4 10 by decide +kernel))
  have lp : ∀ (m i : Nat) (M0 M : EM), i + m = n → w_ct M0 M n i → ∃ M', E_V 55 7 [10, (n : Int), (i : Int)] M = some (0, M') ∧ w_ct M0 M' n n := by
    intro m
    induction m with
    | zero =>
      intro i M0 M hm h
      have e : i = n := by omega
      subst e
      refine ⟨M, ?_, h⟩
      rw [E_V_eq]
      show e_tv E_C (E_V 55) e_t55_7 [10, (i : Int), (i : Int)] M = _
      unfold e_t55_7
      simp [e_tv, e_ev, e_sv, e_b1, e_b2, x_o1, x_o2]
    | succ m ih =>
      intro i M0 M hm h
      obtain ⟨h1, h2, h3⟩ := h
      have qlt : (i : Int) < (n : Int) := by omega
      have w1 : e_w ((i : Int) + 1) = ((i + 1 : Nat) : Int) := (a_w_id (by omega) (by omega)).trans (by omega)
      have t1 := w_atN (a := 13) (i := (i : Int)) (n := 40) (by decide +kernel) (j := i) rfl (by omega) M
      have l1 := fun v => w_layN (a := 13) (i := (i : Int)) (n := 40) (by decide +kernel) (j := i) rfl (by omega) v M
      have s33 : ∀ M, E_V 55 33 [10, (n : Int), (i : Int)] M = E_V 55 7 [10, (n : Int), ((i + 1 : Nat) : Int)] M := by
        intro M
        generalize ((i + 1 : Nat) : Int) = y at w1 ⊢
        rw [E_V_eq]
        show e_tv E_C (E_V 55) e_t55_33 [10, (n : Int), (i : Int)] M = _
        unfold e_t55_33
        simp [e_tv, e_ev, e_sv, e_b1, e_b2, x_o1, x_o2, w1]
      rcases x_le ((n : Int)) (M 13 i) with ⟨c, c_n⟩ | ⟨c, c_n⟩
      · obtain ⟨M', k1, c1⟩ := ih (i + 1) M0 (e_up M 13 i (-1)) (by omega) ⟨fun q hq => by
          by_cases e : q = i
          · subst e
            rw [c_up_s, ← h2 q (Nat.le_refl _), if_pos c]
          · rw [c_up_n (by omega)]
            exact h1 q (by omega), fun q hq => by
          rw [c_up_n (by omega)]
          exact h2 q (by omega), fun id k hid => by
          rw [c_up_n (by omega)]
          exact h3 id k hid⟩
        refine ⟨M', ?_, c1⟩
        rw [← k1, ← s33]
        clear s33 k1
        rw [E_V_eq]
        show e_tv E_C (E_V 55) e_t55_7 [10, (n : Int), (i : Int)] M = _
        unfold e_t55_7
        simp [e_tv, e_ev, e_sv, e_b1, e_b2, x_o1, x_o2, w_P3, qlt, t1, c, c_n, l1]
      · obtain ⟨M', k1, c1⟩ := ih (i + 1) M0 M (by omega) ⟨fun q hq => by
          by_cases e : q = i
          · subst e
            rw [← h2 q (Nat.le_refl _), if_neg c]
          · exact h1 q (by omega), fun q hq => h2 q (by omega), h3⟩
        refine ⟨M', ?_, c1⟩
        rw [← k1, ← s33]
        clear s33 k1
        rw [E_V_eq]
        show e_tv E_C (E_V 55) e_t55_7 [10, (n : Int), (i : Int)] M = _
        unfold e_t55_7
        simp [e_tv, e_ev, e_sv, e_b1, e_b2, x_o1, x_o2, w_P3, qlt, t1, c, c_n]
  obtain ⟨M', k1, c1⟩ := lp n 0 (e_up M 10 0 n) (e_up M 10 0 n) (by omega) ⟨fun q hq => absurd hq (Nat.not_lt_zero _), fun _ _ => rfl, fun _ _ _ => rfl⟩
  refine ⟨M', ?_, c1⟩
  rw [s0]
  unfold e_t55_0
  have k1' : E_V 55 7 [10, (n : Int), 0] (e_up M 10 0 n) = some (0, M') := k1
  simp [e_tv, e_ev, e_sv, e_b1, e_b2, x_o1, x_o2, w_Q0, k1']
/-- STATEMENT s, as the reader's rows N tell it, may come; it makes M1 of M -/
def w_tS (N M : EM) (p s : Nat) : Prop := w_tl M (p + s) (N 164 s) (N 165 s).toNat (N 165 (s + 1) - N 165 s).toNat
def w_oS (N M M1 : EM) (p s : Nat) : Prop := w_to M M1 (p + s) (N 164 s) (N 166 s) (N 165 s).toNat (N 165 (s + 1) - N 165 s).toNat
def w_run (N : EM) (p : Nat) : Nat → Nat → EM → EM → Prop
  | _, 0, M, M' => M' = M
  | s, d + 1, M, M' => ∃ M1, w_tS N M p s ∧ w_oS N M M1 p s ∧ w_run N p (s + 1) d M1 M'
/-- all is as it was, but that the reader's rows are written, and PARTS behind m -/
def w_back (M M' : EM) (m : Nat) : Prop := (∀ q, q < m → M' 11 q = M 11 q ∧ M' 12 q = M 12 q ∧ M' 13 q = M 13 q ∧ M' 14 q = M 14 q ∧ M' 22 q = M 22 q ∧ M' 23 q = M 23 q ∧ M' 24 q = M 24 q) ∧
  (∀ q, q < 8 * m → M' 15 q = M 15 q ∧ M' 16 q = M 16 q ∧ M' 17 q = M 17 q) ∧
  (∀ q, q < 4 * m → M' 21 q = M 21 q) ∧
  (∀ q, q < 6 * m → M' 19 q = M 19 q ∧ M' 20 q = M 20 q) ∧
  (∀ id k, ¬ (11 ≤ id ∧ id ≤ 17) → ¬ (19 ≤ id ∧ id ≤ 24) → ¬ (37 + m ≤ id ∧ id ≤ 76) → M' id k = M id k)
