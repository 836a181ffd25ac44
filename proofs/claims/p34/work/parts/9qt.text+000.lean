/-! SHELVES: class and reference; text, the class's answer -/
def h_S (M : EM) : Prop := ∀ d : Nat, d < 8 → (M 195 d = 0 ∧ M (146 + 2 * d) 0 = 0 ∧ M (146 + 2 * d) 1 = 0) ∨ (M 195 d = 1 ∧ M (146 + 2 * d) 0 = 1 ∧ M (146 + 2 * d) 1 = 0) ∨ (M 195 d = 2 ∧ M (146 + 2 * d) 0 = 0 ∧ M (146 + 2 * d) 1 = 1 ∧ M (146 + 2 * d) 4 = M 196 d ∧ M (146 + 2 * d) 5 = M 197 d ∧ ∀ i, i < 120 → M (147 + 2 * d) i = M 198 (120 * d + i))
theorem h_gr145 {d : Nat} (h : d < 8) : e_gr 145 d = ((146 + 2 * d : Nat) : Int) ∧ ((146 + 2 * d : Nat) : Int) ∈ a_SH := (by decide +kernel : ∀ i : Fin 8, e_gr 145 i.val = ((146 + 2 * i.val : Nat) : Int) ∧ ((146 + 2 * i.val : Nat) : Int) ∈ a_SH) ⟨d, h⟩
theorem h_rd145 {d : Nat} (h : d < 8) (M : EM) : e_op 62 [145, (d : Int)] M = some ((146 + 2 * d : Nat) : Int) := by
  have z1 : e_sz M 145 = 8 := (if_neg (by decide)).trans (by decide +kernel)
  have c : (0 : Int) ≤ 145 ∧ (145 : Int).toNat < e_N ∧ 102 ≤ (e_sh (145 : Int).toNat).1 ∧ 0 ≤ (d : Int) ∧ (d : Int).toNat < e_sz M (145 : Int).toNat := ⟨by decide, by decide +kernel, by decide +kernel, by omega, by show _ < e_sz M 145; omega⟩
  exact (if_pos c).trans (congrArg some ((congrArg (e_gr 145) (Int.toNat_natCast d)).trans (h_gr145 h).1))
theorem h_len145 (M : EM) : e_op 63 [145] M = some 8 := p_len (n := 8) (by decide +kernel) M
theorem h_707 (M : EM) : e_gf 707 [8] M = some 145 := p_g 707 8 145 M (by decide +kernel)
theorem h_708 (M : EM) : e_gf 708 [8] M = some 162 := p_g 708 8 162 M (by decide +kernel)
theorem h_154a {d s : Int} {M : EM} (h0 : 0 ≤ d) (h1 : d < 8) (h : e_op 62 [145, d] M = some s) : E_C 154 [8, d] M = some (s, M) := by
  have s0 : E_C 154 [8, d] M = e_tv E_C (E_V 154) e_t154_0 [8, d] M := r_ent (u := 154) (as := [8, d]) (M := M) (decide_eq_true c_this)
  have hl := h_len145 M
  have h0' : ¬ d < 0 := by omega
  rw [s0]
  unfold e_t154_0
  simp [e_tv, e_ev, e_sv, e_b1, e_b2, x_o1, x_o2, h_707, hl, h0, h0', h1, h]
theorem h_154n {d : Int} {M : EM} (h : ¬ (0 ≤ d ∧ d < 8)) : E_C 154 [8, d] M = some (-1, M) := by
  have s0 : E_C 154 [8, d] M = e_tv E_C (E_V 154) e_t154_0 [8, d] M := r_ent (u := 154) (as := [8, d]) (M := M) (decide_eq_true c_this)
  have hl := h_len145 M
  rw [s0]
  unfold e_t154_0
  rcases x_le 0 d with ⟨q, q_n⟩ | ⟨q, q_n⟩
  · have q2 : ¬ d < 8 := fun e => h ⟨q, e⟩
    simp [e_tv, e_ev, e_sv, e_b1, e_b2, x_o1, x_o2, h_707, hl, q, q_n, q2]
  · simp [e_tv, e_ev, e_sv, e_b1, e_b2, x_o1, x_o2, h_707, hl, q, q_n]
theorem h_sf {h : Int} (hh : h ∈ a_SH) (M : EM) : e_gf 512 [h] M = some (M h.toNat 0) ∧ e_gf 513 [h] M = some (M h.toNat 1) ∧ e_gf 516 [h] M = some (M h.toNat 4) ∧ e_gf 517 [h] M = some (M h.toNat 5) := by
  obtain ⟨s1, -⟩ := w_sh hh
  exact ⟨c_gf s1 (by decide +kernel), c_gf s1 (by decide +kernel), c_gf s1 (by decide +kernel), c_gf s1 (by decide +kernel)⟩
theorem h_84 {h : Int} (hh : h ∈ a_SH) (M : EM) : E_C 84 [h] M = some (if M h.toNat 0 = 0 ∧ M h.toNat 1 = 0 then 1 else 0, M) := by
  obtain ⟨s1, -⟩ := w_sh hh
  obtain ⟨f0, f1, -, -⟩ := h_sf hh M
  rw [r_ent (show e_rok 84 [h] = true from decide_eq_true s1)]
  show e_tv E_C (E_V 84) e_t84_0 [h] M = _
  unfold e_t84_0
  generalize M h.toNat 0 = a at f0 ⊢
  generalize M h.toNat 1 = c at f1 ⊢
  by_cases q : a = 0
  · by_cases q2 : c = 0
    · rw [if_pos ⟨q, q2⟩]
      simp [e_tv, e_ev, e_sv, e_b1, e_b2, x_o1, x_o2, f0, f1, q, q2]
    · rw [if_neg (fun e => q2 e.2)]
      simp [e_tv, e_ev, e_sv, e_b1, e_b2, x_o1, x_o2, f0, f1, q, q2]
  · rw [if_neg (fun e => q e.1)]
    simp [e_tv, e_ev, e_sv, e_b1, e_b2, x_o1, x_o2, f0, f1, q]
theorem h_156 {h w z a c s : Int} (hh : h ∈ a_SH) {M : EM} (h0 : M h.toNat 0 = a) (h1 : M h.toNat 1 = c) (h4 : M h.toNat 4 = s) (hz : z = if a = 0 ∧ c = 0 then -11 else if c ≠ 0 ∧ (w = -1 ∨ w = s) then 0 else -12) : E_C 156 [h, w] M = some (z, M) := by
  obtain ⟨s1, s2, s3, s4, s5, s6, s7⟩ := w_sh hh
  obtain ⟨f0, f1, f4, -⟩ := h_sf hh M
  have k := h_84 hh M
  rw [h0, h1] at k
  rw [h1] at f1
  rw [h4] at f4
  have hne : ¬ h = -1 := by omega
  rw [r_ent (show e_rok 156 [h, w] = true from rfl)]
  show e_tv E_C (E_V 156) e_t156_0 [h, w] M = _
  unfold e_t156_0
  by_cases q : a = 0 ∧ c = 0
  · rw [if_pos q] at k hz
    subst hz
    simp [e_tv, e_ev, e_sv, e_b1, e_b2, x_o1, x_o2, hne, k]
  · rw [if_neg q] at k hz
    by_cases q1 : c = 0
    · rw [if_neg (fun e => e.1 q1)] at hz
      subst hz
      simp [e_tv, e_ev, e_sv, e_b1, e_b2, x_o1, x_o2, hne, k, f1, q1]
    · by_cases q2 : w = -1
      · rw [if_pos ⟨q1, Or.inl q2⟩] at hz
        subst hz
        simp [e_tv, e_ev, e_sv, e_b1, e_b2, x_o1, x_o2, hne, k, f1, q1, q2]
      · by_cases q3 : w = s
        · rw [if_pos ⟨q1, Or.inr q3⟩] at hz
          subst hz
          simp [e_tv, e_ev, e_sv, e_b1, e_b2, x_o1, x_o2, hne, k, f1, f4, q1, q2, q3]
        · rw [if_neg (fun e => e.2.elim q2 q3)] at hz
          subst hz
          simp [e_tv, e_ev, e_sv, e_b1, e_b2, x_o1, x_o2, hne, k, f1, f4, q1, q2, q3]
/-- the refusal of SHELF d where a ROW of sort w (any: -1) is wanted -/
def h_no (M : EM) (d w : Int) : Int := if 0 ≤ d ∧ d < 8 then (if M 195 d.toNat = 0 then -11 else if M 195 d.toNat = 2 ∧ (w = -1 ∨ w = M 196 d.toNat) then 0 else -12) else -1
theorem h_ref {M : EM} (hS : h_S M) {d w : Int} (hd : 0 ≤ d ∧ d < 8) : E_C 154 [8, d] M = some (((146 + 2 * d.toNat : Nat) : Int), M) ∧ E_C 156 [((146 + 2 * d.toNat : Nat) : Int), w] M = some (h_no M d w, M) := by
  obtain ⟨n, rfl⟩ : ∃ n : Nat, d = n := ⟨d.toNat, by omega⟩
  rw [Int.toNat_natCast]
  have hn : n < 8 := by omega
  have hh := (h_gr145 hn).2
  refine ⟨h_154a hd.1 hd.2 (h_rd145 hn M), ?_⟩
  unfold h_no
  rw [if_pos hd, Int.toNat_natCast]
  rcases hS n hn with ⟨a, c, e⟩ | ⟨a, c, e⟩ | ⟨a, c, e, f, -⟩
  · refine h_156 hh c e rfl ?_
    rw [if_pos a, if_pos ⟨rfl, rfl⟩]
  · refine h_156 hh c e rfl ?_
    rw [a, if_neg (by decide), if_neg (fun q => absurd q.1 (by decide)), if_neg (fun q => absurd q.1 (by decide)), if_neg (fun q => q.1 rfl)]
  · refine h_156 hh c e f ?_
    rw [a]
    have n1 : ¬ ((2 : Int) = 0) := by decide
    have n2 : ¬ ((0 : Int) = 0 ∧ (1 : Int) = 0) := by decide
    rw [if_neg n1, if_neg n2]
    by_cases q : w = -1 ∨ w = M 196 n
    · have q1 : (2 : Int) = 2 ∧ (w = -1 ∨ w = M 196 n) := ⟨rfl, q⟩
      have q2 : (1 : Int) ≠ 0 ∧ (w = -1 ∨ w = M 196 n) := ⟨by decide, q⟩
      rw [if_pos q1, if_pos q2]
    · have q1 : ¬ ((2 : Int) = 2 ∧ (w = -1 ∨ w = M 196 n)) := fun e => q e.2
      have q2 : ¬ ((1 : Int) ≠ 0 ∧ (w = -1 ∨ w = M 196 n)) := fun e => q e.2
      rw [if_neg q1, if_neg q2]
