theorem w_63 {c : Int} {M : EM} : E_C 63 [162, c] M = if c = 91 ∧ M 162 3 = 114 ∧ M 162 5 = 0 then some (1, e_up M 162 5 1) else some (0, M) := by
  have s0 : E_C 63 [162, c] M = e_tv E_C (E_V 63) e_t63_0 [162, c] M := r_ent (u := 63) (as := [162, c]) (M := M) (decide_eq_true c_rd5)
  rw [s0]
  unfold e_t63_0
  by_cases q1 : c = 91
  · by_cases q2 : M 162 3 = 114
    · by_cases q3 : M 162 5 = 0
      · simp [e_tv, e_ev, e_sv, e_b1, e_b2, x_o1, x_o2, w_f3, w_f5, w_p5, q1, q2, q3]
      · simp [e_tv, e_ev, e_sv, e_b1, e_b2, x_o1, x_o2, w_f3, w_f5, w_p5, q1, q2, q3]
    · simp [e_tv, e_ev, e_sv, e_b1, e_b2, x_o1, x_o2, w_f3, w_f5, w_p5, q1, q2]
  · simp [e_tv, e_ev, e_sv, e_b1, e_b2, x_o1, x_o2, w_f3, w_f5, w_p5, q1]
theorem w_64 {M : EM} : E_C 64 [162] M = if M 162 3 = 99 ∧ M 162 4 = 0 then some (1, w_M2 M) else some (0, M) := by
  have s0 : E_C 64 [162] M = e_tv E_C (E_V 64) e_t64_0 [162] M := r_ent (u := 64) (as := [162]) (M := M) (decide_eq_true c_rd5)
  rw [s0]
  unfold e_t64_0 w_M2
  by_cases q1 : M 162 3 = 99
  · by_cases q2 : M 162 4 = 0
    · simp [e_tv, e_ev, e_sv, e_b1, e_b2, x_o1, x_o2, w_f3, w_f4, w_p4, w_p2, q1, q2]
    · simp [e_tv, e_ev, e_sv, e_b1, e_b2, x_o1, x_o2, w_f3, w_f4, w_p4, w_p2, q1, q2]
  · simp [e_tv, e_ev, e_sv, e_b1, e_b2, x_o1, x_o2, w_f3, w_f4, w_p4, w_p2, q1]
theorem w_65 {M : EM} : E_C 65 [162] M = if M 162 5 ≠ 0 then some (1, w_M3 M) else some (0, M) := by
  have s0 : E_C 65 [162] M = e_tv E_C (E_V 65) e_t65_0 [162] M := r_ent (u := 65) (as := [162]) (M := M) (decide_eq_true c_rd5)
  rw [s0]
  unfold e_t65_0 w_M3
  by_cases q1 : M 162 5 = 0
  · simp [e_tv, e_ev, e_sv, e_b1, e_b2, x_o1, x_o2, w_f5, w_p5, w_p2, q1]
  · simp [e_tv, e_ev, e_sv, e_b1, e_b2, x_o1, x_o2, w_f5, w_p5, w_p2, q1]
theorem w_66 {M : EM} (h6 : -1 ≤ M 162 6 ∧ M 162 6 ≤ 130) : E_C 66 [162] M = if M 162 3 ≠ 98 ∧ ¬ (M 162 3 = 99 ∧ M 162 4 = 0) then some (1, w_M4 M) else some (0, M) := by
  have s0 : E_C 66 [162] M = e_tv E_C (E_V 66) e_t66_0 [162] M := r_ent (u := 66) (as := [162]) (M := M) (decide_eq_true c_rd5)
  have s44 : ∀ M', E_V 66 44 [162] M' = some (1, e_up (e_up M' 162 4 0) 162 2 1) := by
    intro M'
    rw [E_V_eq]
    show e_tv E_C (E_V 66) e_t66_44 [162] M' = _
    unfold e_t66_44
    simp [e_tv, e_ev, e_sv, e_b1, e_b2, x_o1, x_o2, w_p4, w_p2]
  have w2 : e_w (M 162 6 + 1) = M 162 6 + 1 := a_w_id (by omega) (by omega)
  rw [s0]
  unfold e_t66_0 w_M4
  by_cases q1 : M 162 3 = 98
  · simp [e_tv, e_ev, e_sv, e_b1, e_b2, x_o1, x_o2, w_f3, w_f4, w_f5, q1]
  · by_cases q2 : M 162 3 = 99
    · by_cases q3 : M 162 4 = 0
      · simp [e_tv, e_ev, e_sv, e_b1, e_b2, x_o1, x_o2, w_f3, w_f4, w_f5, q1, q2, q3]
      · by_cases q4 : M 162 5 = 0
        · simp [e_tv, e_ev, e_sv, e_b1, e_b2, x_o1, x_o2, w_f3, w_f4, w_f5, w_f6, w_p6, w2, s44, q1, q2, q3, q4]
        · simp [e_tv, e_ev, e_sv, e_b1, e_b2, x_o1, x_o2, w_f3, w_f4, w_f5, w_f6, w_p6, w2, s44, q1, q2, q3, q4]
    · by_cases q4 : M 162 5 = 0
      · simp [e_tv, e_ev, e_sv, e_b1, e_b2, x_o1, x_o2, w_f3, w_f4, w_f5, w_f6, w_p6, w2, s44, q1, q2, q4]
      · simp [e_tv, e_ev, e_sv, e_b1, e_b2, x_o1, x_o2, w_f3, w_f4, w_f5, w_f6, w_p6, w2, s44, q1, q2, q4]
theorem w_67 {M : EM} (h7 : 0 ≤ M 162 7 ∧ M 162 7 < 120) : E_C 67 [162] M = if M 162 5 = 0 ∧ ¬ (M 162 3 = 99 ∧ M 162 4 = 0) then some (1, w_M5 M) else some (0, M) := by
  have s0 : E_C 67 [162] M = e_tv E_C (E_V 67) e_t67_0 [162] M := r_ent (u := 67) (as := [162]) (M := M) (decide_eq_true c_rd5)
  have l0 := fun v M' => p_layd (a := 166) (i := M 162 7) (v := v) (n := 120) (by decide +kernel) h7 M'
  have l1 := fun v M' => p_layd (a := 165) (i := M 162 7 + 1) (v := v) (n := 121) (by decide +kernel) ⟨by omega, by omega⟩ M'
  have w2 : e_w (M 162 7 + 1) = M 162 7 + 1 := a_w_id (by omega) (by omega)
  rw [s0]
  unfold e_t67_0 w_M5
  by_cases q1 : M 162 5 = 0
  · by_cases q2 : M 162 3 = 99
    · by_cases q3 : M 162 4 = 0
      · simp [e_tv, e_ev, e_sv, e_b1, e_b2, x_o1, x_o2, w_f3, w_f4, w_f5, q1, q2, q3]
      · simp [e_tv, e_ev, e_sv, e_b1, e_b2, x_o1, x_o2, w_f3, w_f4, w_f5, w_f6, w_f7, w_f8, w_p7, w_p2, w_aC, w_aB, l0, l1, w2, c_up_n, c_up_s, q1, q2, q3]
    · simp [e_tv, e_ev, e_sv, e_b1, e_b2, x_o1, x_o2, w_f3, w_f4, w_f5, w_f6, w_f7, w_f8, w_p7, w_p2, w_aC, w_aB, l0, l1, w2, c_up_n, c_up_s, q1, q2]
  · simp [e_tv, e_ev, e_sv, e_b1, e_b2, x_o1, x_o2, w_f3, w_f4, w_f5, q1]
def w_M (M : EM) (c : Int) : EM :=
  if M 162 2 = 0 then w_M0 M c
  else if M 162 2 = 1 then (if 48 ≤ c ∧ c ≤ 57 then w_M1 M (c - 48) else e_up M 162 5 1)
  else if M 162 2 = 2 ∧ 48 ≤ c ∧ c ≤ 57 then w_M6 M c
  else if c = 47 then w_M2 M
  else if c = 93 then w_M3 M
  else if c = 32 then w_M4 M
  else w_M5 M
theorem w_goOn {c : Int} {M : EM} (hc : -2147483648 ≤ c ∧ c ≤ 2147483647) (h2 : 0 ≤ M 162 2 ∧ M 162 2 ≤ 3) (h7 : 0 ≤ M 162 7 ∧ M 162 7 < 120) (h8 : 0 ≤ M 162 8 ∧ M 162 8 < 120) (h6 : M 162 2 ≠ 0 → 1 ≤ M 162 6 ∧ M 162 6 ≤ 130) (hm : M 162 2 = 2 → 1 ≤ M 162 8 ∧ 0 ≤ M 167 (M 162 8 - 1).toNat ∧ M 167 (M 162 8 - 1).toNat ≤ 9) : (w_ok (M 162) c → E_C 60 [162, c] M = some (1, w_M M c)) ∧ (¬ w_ok (M 162) c → E_C 60 [162, c] M = some (0, M)) := by
  have s0 : E_C 60 [162, c] M = e_tv E_C (E_V 60) e_t60_0 [162, c, 0] M := r_ent (u := 60) (as := [162, c]) (M := M) (decide_eq_true c_rd5)
  rw [s0]
  unfold e_t60_0 w_ok w_M
  by_cases q0 : M 162 2 = 0
  · have k := w_61 (c := c) h7
    simp only [q0, if_true]
    by_cases q : c = 99 ∨ c = 114 ∨ c = 102 ∨ c = 98
    · rw [if_pos q] at k
      refine ⟨fun _ => ?_, fun e => absurd q e⟩
      simp [e_tv, e_ev, e_sv, e_b1, e_b2, x_o1, x_o2, w_f2, q0, k]
    · rw [if_neg q] at k
      refine ⟨fun e => absurd e q, fun _ => ?_⟩
      simp [e_tv, e_ev, e_sv, e_b1, e_b2, x_o1, x_o2, w_f2, q0, k]
  have h6 := h6 q0
  by_cases q1 : M 162 2 = 1
  · simp only [q1, if_true]
    rw [if_neg (by decide), if_neg (by decide)]
    by_cases dg : 48 ≤ c ∧ c ≤ 57
    · obtain ⟨d1, d2⟩ := dg
      have d1_n : ¬ c < 48 := by omega
      have d2_n : ¬ 57 < c := by omega
      have w1 : e_w (c - 48) = c - 48 := a_w_id (by omega) (by omega)
      have k := w_62 (d := c - 48) h8 h6
      rw [if_pos ⟨d1, d2⟩]
      refine ⟨fun _ => ?_, fun e => absurd (Or.inl ⟨d1, d2⟩) e⟩
      simp [e_tv, e_ev, e_sv, e_b1, e_b2, x_o1, x_o2, w_f2, q1, k, w1, d1, d1_n, d2, d2_n]
    · have k := w_63 (c := c) (M := M)
      rw [if_neg dg]
      by_cases q : c = 91 ∧ M 162 3 = 114 ∧ M 162 5 = 0
      · rw [if_pos q] at k
        refine ⟨fun _ => ?_, fun e => absurd (Or.inr q) e⟩
        have q' := q.1
        subst q'
        simp [e_tv, e_ev, e_sv, e_b1, e_b2, x_o1, x_o2, w_f2, q1, k]
      · rw [if_neg q] at k
        refine ⟨fun e => by omega, fun _ => ?_⟩
        rcases x_le 48 c with ⟨d1, d1_n⟩ | ⟨d1, d1_n⟩
        · have d2 : ¬ c ≤ 57 := fun h => dg ⟨d1, h⟩
          simp [e_tv, e_ev, e_sv, e_b1, e_b2, x_o1, x_o2, w_f2, q1, k, d1, d1_n, d2]
        · simp [e_tv, e_ev, e_sv, e_b1, e_b2, x_o1, x_o2, w_f2, q1, k, d1, d1_n]
  by_cases q2 : M 162 2 = 2 ∧ 48 ≤ c ∧ c ≤ 57
  · obtain ⟨q2, d1, d2⟩ := q2
    obtain ⟨m1, m2, m3⟩ := hm q2
    have d1_n : ¬ c < 48 := by omega
    have d2_n : ¬ 57 < c := by omega
    rw [if_neg q0, if_neg q0, if_neg q1, if_neg q1, if_pos ⟨q2, d1, d2⟩]
    obtain ⟨z, hz⟩ : ∃ z : Nat, M 162 8 - 1 = (z : Int) := ⟨(M 162 8 - 1).toNat, by omega⟩
    have w0 : e_w (M 162 8 - 1) = (z : Int) := (a_w_id (by omega) (by omega)).trans hz
    rw [hz, Int.toNat_natCast] at m2 m3
    have l0 := fun v M' => w_layN (a := 167) (i := (z : Int)) (n := 120) (by decide +kernel) (j := z) rfl (by omega) v M'
    have t1 : E_C 146 [167, (z : Int)] M = some (M 167 z, M) := w_atN (a := 167) (i := (z : Int)) (n := 120) (by decide +kernel) (j := z) rfl (by omega) M
    have w1 : e_w (10 * M 167 z) = 10 * M 167 z := a_w_id (by omega) (by omega)
    have w2 : e_w (10 * M 167 z + c) = 10 * M 167 z + c := a_w_id (by omega) (by omega)
    have w3 : e_w (10 * M 167 z + c - 48) = 10 * M 167 z + c - 48 := a_w_id (by omega) (by omega)
    unfold w_M6
    rw [hz, Int.toNat_natCast]
    refine ⟨fun _ => ?_, fun e => absurd (Or.inl ⟨q2, d1, d2⟩) e⟩
    simp [e_tv, e_ev, e_sv, e_b1, e_b2, x_o1, x_o2, w_f2, w_f8, w_aD, w_p2, q2, d1, d1_n, d2, d2_n, w0, w1, w2, w3, l0, t1]
  rw [if_neg q0, if_neg q0, if_neg q1, if_neg q1, if_neg q2]
  by_cases q3 : c = 47
  · have k := w_64 (M := M)
    subst q3
    rw [if_pos rfl]
    by_cases q : M 162 3 = 99 ∧ M 162 4 = 0
    · rw [if_pos q] at k
      refine ⟨fun _ => ?_, fun e => absurd (Or.inr (Or.inl ⟨rfl, q⟩)) e⟩
      simp [e_tv, e_ev, e_sv, e_b1, e_b2, x_o1, x_o2, w_f2, q0, q1, k]
    · rw [if_neg q] at k
      refine ⟨fun e => by omega, fun _ => ?_⟩
      simp [e_tv, e_ev, e_sv, e_b1, e_b2, x_o1, x_o2, w_f2, q0, q1, k]
  rw [if_neg q3]
  by_cases q4 : c = 93
  · have k := w_65 (M := M)
    subst q4
    rw [if_pos rfl]
    by_cases q : M 162 5 ≠ 0
    · rw [if_pos q] at k
      refine ⟨fun _ => ?_, fun e => absurd (Or.inr (Or.inr (Or.inl ⟨rfl, q⟩))) e⟩
      simp [e_tv, e_ev, e_sv, e_b1, e_b2, x_o1, x_o2, w_f2, q0, q1, k]
    · rw [if_neg q] at k
      refine ⟨fun e => by omega, fun _ => ?_⟩
      simp [e_tv, e_ev, e_sv, e_b1, e_b2, x_o1, x_o2, w_f2, q0, q1, k]
  rw [if_neg q4]
  by_cases q5 : c = 32
  · have k := w_66 (M := M) ⟨by omega, h6.2⟩
    subst q5
    rw [if_pos rfl]
    by_cases q : M 162 3 ≠ 98 ∧ ¬ (M 162 3 = 99 ∧ M 162 4 = 0)
    · rw [if_pos q] at k
      refine ⟨fun _ => ?_, fun e => absurd (Or.inr (Or.inr (Or.inr (Or.inl ⟨rfl, q⟩)))) e⟩
      simp [e_tv, e_ev, e_sv, e_b1, e_b2, x_o1, x_o2, w_f2, q0, q1, k]
    · rw [if_neg q] at k
      refine ⟨fun e => by omega, fun _ => ?_⟩
      simp [e_tv, e_ev, e_sv, e_b1, e_b2, x_o1, x_o2, w_f2, q0, q1, k]
  rw [if_neg q5]
  have dd : ¬ (M 162 2 = 2 ∧ 48 ≤ c ∧ c ≤ 57) := q2
  by_cases q6 : c = 59
  · have k := w_67 h7
    subst q6
    by_cases q : M 162 5 = 0 ∧ ¬ (M 162 3 = 99 ∧ M 162 4 = 0)
    · rw [if_pos q] at k
      refine ⟨fun _ => ?_, fun e => absurd (Or.inr (Or.inr (Or.inr (Or.inr ⟨rfl, q⟩)))) e⟩
      simp [e_tv, e_ev, e_sv, e_b1, e_b2, x_o1, x_o2, w_f2, q0, q1, k]
    · rw [if_neg q] at k
      refine ⟨fun e => by omega, fun _ => ?_⟩
      simp [e_tv, e_ev, e_sv, e_b1, e_b2, x_o1, x_o2, w_f2, q0, q1, k]
  refine ⟨fun e => by omega, fun _ => ?_⟩
  rcases x_le 48 c with ⟨d1, d1_n⟩ | ⟨d1, d1_n⟩
  · rcases x_le c 57 with ⟨d2, d2_n⟩ | ⟨d2, d2_n⟩
    · have q7 : ¬ (M 162 2 = 2) := fun e => q2 ⟨e, d1, d2⟩
      simp [e_tv, e_ev, e_sv, e_b1, e_b2, x_o1, x_o2, w_f2, q0, q1, q3, q4, q5, q6, q7, d1, d1_n, d2, d2_n]
    · simp [e_tv, e_ev, e_sv, e_b1, e_b2, x_o1, x_o2, w_f2, q0, q1, q3, q4, q5, q6, d1, d1_n, d2, d2_n]
  · simp [e_tv, e_ev, e_sv, e_b1, e_b2, x_o1, x_o2, w_f2, q0, q1, q3, q4, q5, q6, d1, d1_n]

