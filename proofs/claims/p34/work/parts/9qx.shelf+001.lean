/-- the reference's row -/
theorem h_259s {d k n i y : Int} {na : Nat} {M : EM} (q : i < 120) (w1 : e_w (i + 1) = y) (w2 : e_w (120 * d) = 120 * d) (w3 : e_w (120 * d + i) = 120 * d + i) (st : e_st 100 [198, 120 * d + i, 0] M = some (e_up M 198 na 0)) : E_V 259 58 [192, d, k, n, i] M = E_V 259 58 [192, d, k, n, y] (e_up M 198 na 0) := by
  rw [E_V_eq]
  show e_tv E_C (E_V 259) e_t259_58 [192, d, k, n, i] M = _
  unfold e_t259_58
  simp [e_tv, e_ev, e_sv, e_b1, e_b2, x_o1, x_o2, r_O5, q, w1, w2, w3, st]
theorem h_259l {d k n : Int} (hd : 0 ≤ d ∧ d < 8) : ∀ (m i : Nat) (M : EM), i + m = 120 → ∃ M', E_V 259 58 [192, d, k, n, (i : Int)] M = some (0, M') ∧ (∀ id j, ¬ (id = 198 ∧ 120 * d.toNat + i ≤ j ∧ j < 120 * d.toNat + 120) → M' id j = M id j) ∧ ∀ j, i ≤ j → j < 120 → M' 198 (120 * d.toNat + j) = 0 := by
  intro m
  induction m with
  | zero =>
    intro i M hm
    have e : i = 120 := by omega
    subst e
    refine ⟨M, ?_, fun _ _ _ => rfl, fun k h1 h2 => by omega⟩
    rw [E_V_eq]
    show e_tv E_C (E_V 259) e_t259_58 [192, d, k, n, ((120 : Nat) : Int)] M = _
    unfold e_t259_58
    simp [e_tv, e_ev, e_sv, e_b1, e_b2, x_o1, x_o2]
  | succ m ih =>
    intro i M hm
    have q : (i : Int) < 120 := by omega
    have b1 : 0 ≤ 120 * d + (i : Int) ∧ 120 * d + (i : Int) < 960 := by omega
    have e1 : (120 * d + (i : Int)).toNat = 120 * d.toNat + i := by omega
    have st : e_st 100 [198, 120 * d + (i : Int), 0] M = some (e_up M 198 (120 * d.toNat + i) 0) := (r_st (n := 960) (by decide) (by decide +kernel) (by decide +kernel) b1.1 b1.2).trans (by rw [e1]; rfl)
    obtain ⟨M', k1, c1, c2⟩ := ih (i + 1) (e_up M 198 (120 * d.toNat + i) 0) (by omega)
    have w : e_w ((i : Int) + 1) = ((i + 1 : Nat) : Int) ∧ e_w (120 * d) = 120 * d ∧ e_w (120 * d + (i : Int)) = 120 * d + (i : Int) := by
      clear st k1 c1 c2 ih e1
      refine ⟨(a_w_id (by omega) (by omega)).trans (by omega), ?_, ?_⟩ <;> exact a_w_id (by omega) (by omega)
    refine ⟨M', ?_, fun id j h => ?_, fun j h1 h2 => ?_⟩
    · rw [← k1]
      obtain ⟨w1, w2, w3⟩ := w
      exact h_259s q w1 w2 w3 st
    · rw [c1 id j (by omega)]
      exact c_up_n (by omega)
    · by_cases e : j = i
      · subst e
        rw [c1 _ _ (by omega)]
        exact c_up_s
      · exact c2 j (by omega) h2
def h_rz (d k n : Int) : Int := if 0 ≤ d ∧ d < 8 ∧ 0 ≤ k ∧ k ≤ 2 ∧ n ≤ 120 then (if n < 0 then -14 else 0) else -1
theorem h_is {d : Int} (M : EM) : E_C 173 [d] M = some (if 0 ≤ d ∧ d < 8 then 1 else 0, M) := by
  by_cases hd : 0 ≤ d ∧ d < 8
  · rw [if_pos hd]
    have k := r_in1 (M := M) (x := d) (lo := 0) (hi := 7) ⟨hd.1, by omega⟩
    rw [r_ent (show e_rok 173 [d] = true from rfl)]
    show e_tv E_C (E_V 173) e_t173_0 [d] M = _
    unfold e_t173_0
    simp [e_tv, e_ev, e_sv, e_b1, e_b2, x_o1, x_o2, k]
  · rw [if_neg hd]
    have k := r_in0 (M := M) (x := d) (lo := 0) (hi := 7) (fun e => hd ⟨e.1, by omega⟩)
    rw [r_ent (show e_rok 173 [d] = true from rfl)]
    show e_tv E_C (E_V 173) e_t173_0 [d] M = _
    unfold e_t173_0
    simp [e_tv, e_ev, e_sv, e_b1, e_b2, x_o1, x_o2, k]
theorem h_259n {d k n : Int} {M : EM} (h : ¬ (0 ≤ d ∧ d < 8 ∧ 0 ≤ k ∧ k ≤ 2 ∧ n ≤ 120 ∧ 0 ≤ n)) : E_C 259 [192, d, k, n] M = some (h_rz d k n, M) := by
  have i0 := h_is (d := d) M
  unfold h_rz
  by_cases hd : 0 ≤ d ∧ d < 8
  · rw [if_pos hd] at i0
    by_cases hk : 0 ≤ k ∧ k ≤ 2
    · have i1 := r_in1 (M := M) (x := k) (lo := 0) (hi := 2) hk
      rcases x_le n 120 with ⟨q3, q3_n⟩ | ⟨q3, q3_n⟩
      · have q4 : n < 0 := by omega
        have q5 : ¬ 0 ≤ n := by omega
        rw [if_pos ⟨hd.1, hd.2, hk.1, hk.2, q3⟩, if_pos q4]
        rw [r_ent (show e_rok 259 [192, d, k, n] = true from decide_eq_true r_ref)]
        show e_tv E_C (E_V 259) e_t259_0 [192, d, k, n, 0] M = _
        unfold e_t259_0
        simp [e_tv, e_ev, e_sv, e_b1, e_b2, x_o1, x_o2, i0, i1, q3, q3_n, q4, q5]
      · rw [if_neg (fun e => q3 e.2.2.2.2)]
        rw [r_ent (show e_rok 259 [192, d, k, n] = true from decide_eq_true r_ref)]
        show e_tv E_C (E_V 259) e_t259_0 [192, d, k, n, 0] M = _
        unfold e_t259_0
        simp [e_tv, e_ev, e_sv, e_b1, e_b2, x_o1, x_o2, i0, i1, q3, q3_n]
    · have i1 := r_in0 (M := M) (x := k) (lo := 0) (hi := 2) hk
      rw [if_neg (fun e => hk ⟨e.2.2.1, e.2.2.2.1⟩)]
      rw [r_ent (show e_rok 259 [192, d, k, n] = true from decide_eq_true r_ref)]
      show e_tv E_C (E_V 259) e_t259_0 [192, d, k, n, 0] M = _
      unfold e_t259_0
      simp [e_tv, e_ev, e_sv, e_b1, e_b2, x_o1, x_o2, i0, i1]
  · rw [if_neg hd] at i0
    rw [if_neg (fun e => hd ⟨e.1, e.2.1⟩)]
    rw [r_ent (show e_rok 259 [192, d, k, n] = true from decide_eq_true r_ref)]
    show e_tv E_C (E_V 259) e_t259_0 [192, d, k, n, 0] M = _
    unfold e_t259_0
    simp [e_tv, e_ev, e_sv, e_b1, e_b2, x_o1, x_o2, i0]
theorem h_259y {d k n : Int} {m : Nat} {M : EM} {o : EO} (hm : d = m) (hd : m < 8) (hk : 0 ≤ k ∧ k ≤ 2) (n1 : n ≤ 120) (n0 : 0 ≤ n) (h : E_V 259 58 [192, d, k, n, 0] (e_up (e_up (e_up M 195 m 2) 196 m k) 197 m n) = o) : E_C 259 [192, d, k, n] M = o := by
  have i0 := h_is (d := d) M
  rw [if_pos (by omega)] at i0
  have i1 := r_in1 (M := M) (x := k) (lo := 0) (hi := 2) hk
  have a3 : ¬ 120 < n := by omega
  have a4 : ¬ n < 0 := by omega
  have b : 0 ≤ d ∧ d < 8 := by omega
  have e : d.toNat = m := by omega
  have s1 : ∀ v M, e_st 100 [195, d, v] M = some (e_up M 195 m v) := fun v M => (r_st (n := 8) (by decide) (by decide +kernel) (by decide +kernel) b.1 b.2).trans (by rw [e]; rfl)
  have s2 : ∀ v M, e_st 100 [196, d, v] M = some (e_up M 196 m v) := fun v M => (r_st (n := 8) (by decide) (by decide +kernel) (by decide +kernel) b.1 b.2).trans (by rw [e]; rfl)
  have s3 : ∀ v M, e_st 100 [197, d, v] M = some (e_up M 197 m v) := fun v M => (r_st (n := 8) (by decide) (by decide +kernel) (by decide +kernel) b.1 b.2).trans (by rw [e]; rfl)
  rw [r_ent (show e_rok 259 [192, d, k, n] = true from decide_eq_true r_ref)]
  show e_tv E_C (E_V 259) e_t259_0 [192, d, k, n, 0] M = _
  unfold e_t259_0
  simp [e_tv, e_ev, e_sv, e_b1, e_b2, x_o1, x_o2, r_O2, r_O3, r_O4, i0, i1, n1, n0, a3, a4, s1, s2, s3, h]
/-- one SHELF is new -/
theorem h_S_set {M M' : EM} (hS : h_S M) {m : Nat} (new : (M' 195 m = 0 ∧ M' (146 + 2 * m) 0 = 0 ∧ M' (146 + 2 * m) 1 = 0) ∨ (M' 195 m = 1 ∧ M' (146 + 2 * m) 0 = 1 ∧ M' (146 + 2 * m) 1 = 0) ∨ (M' 195 m = 2 ∧ M' (146 + 2 * m) 0 = 0 ∧ M' (146 + 2 * m) 1 = 1 ∧ M' (146 + 2 * m) 4 = M' 196 m ∧ M' (146 + 2 * m) 5 = M' 197 m ∧ ∀ i, i < 120 → M' (147 + 2 * m) i = M' 198 (120 * m + i))) (old : ∀ d : Nat, d < 8 → d ≠ m → M' 195 d = M 195 d ∧ M' 196 d = M 196 d ∧ M' 197 d = M 197 d ∧ M' (146 + 2 * d) 0 = M (146 + 2 * d) 0 ∧ M' (146 + 2 * d) 1 = M (146 + 2 * d) 1 ∧ M' (146 + 2 * d) 4 = M (146 + 2 * d) 4 ∧ M' (146 + 2 * d) 5 = M (146 + 2 * d) 5 ∧ ∀ i, i < 120 → M' (147 + 2 * d) i = M (147 + 2 * d) i ∧ M' 198 (120 * d + i) = M 198 (120 * d + i)) : h_S M' := by
  intro d hd
  by_cases e : d = m
  · subst e
    exact new
  · obtain ⟨a1, a2, a3, a4, a5, a6, a7, a8⟩ := old d hd e
    rw [a1, a2, a3, a4, a5, a6, a7]
    rcases hS d hd with h | h | ⟨b1, b2, b3, b4, b5, b6⟩
    · exact Or.inl h
    · exact Or.inr (Or.inl h)
    · exact Or.inr (Or.inr ⟨b1, b2, b3, b4, b5, fun i hi => by rw [(a8 i hi).1, (a8 i hi).2]; exact b6 i hi⟩)
