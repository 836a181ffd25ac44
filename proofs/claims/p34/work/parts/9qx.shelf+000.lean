/-! SHELVES: row, put -/
theorem h_270l {a : Int} (ha : 8 ≤ a ∧ a.toNat < e_N ∧ e_sh a.toNat = (100, 120)) : ∀ (m i : Nat) (M : EM), i + m = 120 → ∃ M', E_V 270 5 [a, 0, (i : Int), 120] M = some (0, M') ∧ (∀ id k, ¬ (id = a.toNat ∧ i ≤ k ∧ k < 120) → M' id k = M id k) ∧ ∀ k, i ≤ k → k < 120 → M' a.toNat k = 0 := by
  intro m
  induction m with
  | zero =>
    intro i M hm
    have e : i = 120 := by omega
    subst e
    refine ⟨M, ?_, fun _ _ _ => rfl, fun k h1 h2 => by omega⟩
    rw [E_V_eq]
    show e_tv E_C (E_V 270) e_t270_5 [a, 0, ((120 : Nat) : Int), 120] M = _
    unfold e_t270_5
    simp [e_tv, e_ev, e_sv, e_b1, e_b2, x_o1, x_o2]
  | succ m ih =>
    intro i M hm
    have q : (i : Int) < 120 := by omega
    have h0 : (0 : Int) ≤ (i : Int) := by omega
    have st : e_st 100 [a, (i : Int), 0] M = some (e_up M a.toNat i 0) := r_st (n := 120) ha.1 ha.2.1 ha.2.2 h0 q
    obtain ⟨M', k1, c1, c2⟩ := ih (i + 1) (e_up M a.toNat i 0) (by omega)
    have w1 : e_w ((i : Int) + 1) = ((i + 1 : Nat) : Int) := by
      clear st k1 c1 c2
      exact (a_w_id (by omega) (by omega)).trans (by omega)
    refine ⟨M', ?_, fun id k h => ?_, fun k h1 h2 => ?_⟩
    · rw [← k1]
      generalize ((i + 1 : Nat) : Int) = y at w1
      clear k1 c1 c2 ih
      rw [E_V_eq]
      show e_tv E_C (E_V 270) e_t270_5 [a, 0, (i : Int), 120] M = _
      unfold e_t270_5
      simp [e_tv, e_ev, e_sv, e_b1, e_b2, x_o1, x_o2, q, st, w1]
    · rw [c1 id k (by omega)]
      exact c_up_n (by omega)
    · by_cases e : k = i
      · subst e
        rw [c1 _ _ (by omega)]
        exact c_up_s
      · exact c2 k (by omega) h2
theorem h_270 {a : Int} (ha : 8 ≤ a ∧ a.toNat < e_N ∧ e_sh a.toNat = (100, 120)) (M : EM) : ∃ M', E_C 270 [a, 0] M = some (0, M') ∧ (∀ id k, ¬ (id = a.toNat ∧ k < 120) → M' id k = M id k) ∧ ∀ k, k < 120 → M' a.toNat k = 0 := by
  obtain ⟨M', k1, c1, c2⟩ := h_270l ha 120 0 M (by decide)
  have ln : e_op 63 [a] M = some 120 := p_len (n := 120) ⟨ha.1, ha.2.1, by rw [ha.2.2]; decide, by rw [ha.2.2]⟩ M
  refine ⟨M', ?_, fun id k h => c1 id k (by omega), fun k h => c2 k (Nat.zero_le _) h⟩
  have k1' : E_V 270 5 [a, 0, 0, 120] M = some (0, M') := k1
  rw [r_ent (show e_rok 270 [a, 0] = true from rfl)]
  show e_tv E_C (E_V 270) e_t270_0 [a, 0, 0, 0] M = _
  unfold e_t270_0
  simp [e_tv, e_ev, e_sv, e_b1, e_b2, x_o1, x_o2, ln, k1']
theorem h_87 {h k n : Int} (hh : h ∈ a_SH) (M : EM) : ∃ M', E_C 87 [h, k, n] M = some (0, M') ∧ M' h.toNat 0 = 0 ∧ M' h.toNat 1 = 1 ∧ M' h.toNat 4 = k ∧ M' h.toNat 5 = n ∧ (∀ i, i < 120 → M' (h + 1).toNat i = 0) ∧ ∀ id j, ¬ (id = h.toNat ∧ (j = 0 ∨ j = 1 ∨ j = 4 ∨ j = 5)) → ¬ (id = (h + 1).toNat ∧ j < 120) → M' id j = M id j := by
  obtain ⟨s1, s2, s3, s4, s5, s6, s7⟩ := w_sh hh
  obtain ⟨M', k1, c1, c2⟩ := h_270 ⟨s2, s3, s4⟩ (e_up (e_up (e_up (e_up M h.toNat 0 0) h.toNat 1 1) h.toNat 4 k) h.toNat 5 n)
  have p0 : ∀ v M, e_pf 512 [h, v] M = some (e_up M h.toNat 0 v) := fun v M => c_pf s1 (by decide +kernel)
  have p1 : ∀ v M, e_pf 513 [h, v] M = some (e_up M h.toNat 1 v) := fun v M => c_pf s1 (by decide +kernel)
  have p4 : ∀ v M, e_pf 516 [h, v] M = some (e_up M h.toNat 4 v) := fun v M => c_pf s1 (by decide +kernel)
  have p5 : ∀ v M, e_pf 517 [h, v] M = some (e_up M h.toNat 5 v) := fun v M => c_pf s1 (by decide +kernel)
  have g6 : ∀ M, e_gf 518 [h] M = some (h + 1) := fun M => (c_gr s1 (by decide +kernel)).trans (congrArg some s5)
  have hne : h.toNat ≠ (h + 1).toNat := by omega
  refine ⟨M', ?_, ?_, ?_, ?_, ?_, c2, fun id j h1 h2 => ?_⟩
  · rw [r_ent (show e_rok 87 [h, k, n] = true from decide_eq_true s1)]
    show e_tv E_C (E_V 87) e_t87_0 [h, k, n] M = _
    unfold e_t87_0
    simp [e_tv, e_ev, e_sv, e_b1, e_b2, x_o1, x_o2, p0, p1, p4, p5, g6, k1]
  · rw [c1 _ _ (fun e => hne e.1), c_up_n (by omega), c_up_n (by omega), c_up_n (by omega), c_up_s]
  · rw [c1 _ _ (fun e => hne e.1), c_up_n (by omega), c_up_n (by omega), c_up_s]
  · rw [c1 _ _ (fun e => hne e.1), c_up_n (by omega), c_up_s]
  · rw [c1 _ _ (fun e => hne e.1), c_up_s]
  · rw [c1 _ _ h2, c_up_n (by omega), c_up_n (by omega), c_up_n (by omega), c_up_n (by omega)]
/-- the class's row -/
def h_okr (d k n : Int) : Prop := (0 ≤ d ∧ d < 8) ∧ (0 ≤ k ∧ k ≤ 2) ∧ n ≤ 120
theorem h_140y {d k n s r : Int} {M M1 : EM} (hd : E_C 154 [8, d] M = some (s, M)) (hs : s ≠ -1) (k0 : 0 ≤ k) (k2 : k ≤ 2) (n1 : n ≤ 120) (n0 : 0 ≤ n) (h : E_C 87 [s, k, n] M = some (r, M1)) : E_C 140 [8, d, k, n] M = some (0, M1) := by
  have s0 : E_C 140 [8, d, k, n] M = e_tv E_C (E_V 140) e_t140_0 [8, d, k, n, 0] M := r_ent (u := 140) (as := [8, d, k, n]) (M := M) (decide_eq_true c_this)
  have a1 : ¬ k < 0 := by omega
  have a2 : ¬ 2 < k := by omega
  have a3 : ¬ 120 < n := by omega
  have a4 : ¬ n < 0 := by omega
  rw [s0]
  unfold e_t140_0
  simp [e_tv, e_ev, e_sv, e_b1, e_b2, x_o1, x_o2, hd, hs, k0, k2, n1, n0, a1, a2, a3, a4, h]
theorem h_140n {d k n s z : Int} {M : EM} (hd : E_C 154 [8, d] M = some (s, M)) (h : s = -1 ∨ k < 0 ∨ 2 < k ∨ 120 < n ∨ n < 0) (hz : z = if s = -1 ∨ k < 0 ∨ 2 < k ∨ 120 < n then -1 else -14) : E_C 140 [8, d, k, n] M = some (z, M) := by
  have s0 : E_C 140 [8, d, k, n] M = e_tv E_C (E_V 140) e_t140_0 [8, d, k, n, 0] M := r_ent (u := 140) (as := [8, d, k, n]) (M := M) (decide_eq_true c_this)
  rw [s0]
  unfold e_t140_0
  by_cases q0 : s = -1
  · rw [if_pos (Or.inl q0)] at hz
    subst hz
    simp [e_tv, e_ev, e_sv, e_b1, e_b2, x_o1, x_o2, hd, q0]
  · rcases x_le 0 k with ⟨q1, q1_n⟩ | ⟨q1, q1_n⟩
    · rcases x_le k 2 with ⟨q2, q2_n⟩ | ⟨q2, q2_n⟩
      · rcases x_le n 120 with ⟨q3, q3_n⟩ | ⟨q3, q3_n⟩
        · have q4 : n < 0 := by omega
          have q5 : ¬ 0 ≤ n := by omega
          rw [if_neg (by omega)] at hz
          subst hz
          simp [e_tv, e_ev, e_sv, e_b1, e_b2, x_o1, x_o2, hd, q0, q1, q1_n, q2, q2_n, q3, q3_n, q4, q5]
        · rw [if_pos (by omega)] at hz
          subst hz
          simp [e_tv, e_ev, e_sv, e_b1, e_b2, x_o1, x_o2, hd, q0, q1, q1_n, q2, q2_n, q3, q3_n]
      · rw [if_pos (by omega)] at hz
        subst hz
        simp [e_tv, e_ev, e_sv, e_b1, e_b2, x_o1, x_o2, hd, q0, q1, q1_n, q2, q2_n]
    · rw [if_pos (by omega)] at hz
      subst hz
      simp [e_tv, e_ev, e_sv, e_b1, e_b2, x_o1, x_o2, hd, q0, q1, q1_n]
