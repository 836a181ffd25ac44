theorem l_closs {p c al : Int} {M : EM} (hM : a_M M) (hp : -2147483648 ≤ p ∧ p ≤ 2147483647) (hc : -2147483648 ≤ c ∧ c ≤ 2147483647) : l_OUT a_w160 M (E_C 132 [8, p, c, al] M) := by
  have h1 : E_C 132 [8, p, c, al] M = e_tv E_C (E_V 132) e_t132_0 [8, p, c, al, 0, 0, 0, 0, 0, 0] M := by
    unfold E_C
    rw [if_pos (show e_rok 132 [8, p, c, al] = true from decide_eq_true c_this), E_V_eq]
    rfl
  rw [h1]
  unfold e_t132_0
  obtain ⟨r, r1, r2, r3⟩ := c_isPart hM hp
  by_cases q0 : r = 0
  · subst q0
    refine ⟨e_TH, c_thr M, ?_, Or.inr ⟨rfl, rfl⟩⟩
    simp [e_tv, e_ev, e_op, e_b1, e_b2, r1, c_thr]
  · rcases x_le 0 c with ⟨q1, q1_n⟩ | ⟨q1, q1_n⟩
    · rcases x_le 4 c with ⟨q2, q2_n⟩ | ⟨q2, q2_n⟩
      · refine ⟨e_TH, c_thr M, ?_, Or.inr ⟨rfl, rfl⟩⟩
        simp [e_tv, e_ev, e_op, e_b1, e_b2, r1, q0, q1, q1_n, q2, q2_n, c_thr]
      · generalize ho : e_bit (fun x y => x <<< (y &&& 31)) 1 c = own
        have hor : -2147483648 ≤ own ∧ own ≤ 2147483647 := by rw [← ho]; exact a_bit _ _ _
        by_cases q3 : al = 0
        · obtain ⟨b1, M1, g1, g2, g3⟩ := c_bw (x := e_w (e_w (2 * own) - 1)) hM hp (a_w _)
          obtain ⟨b2, M2, k1, k2, k3⟩ := c_bw (x := e_w (own - 1)) g2 hp (a_w _)
          refine ⟨e_W (b1 - b2), M2, ?_, Or.inl ⟨a_W' _, k2, a_fr_tr g3 k3⟩⟩
          simp [e_tv, e_ev, e_sv, e_op, e_b1, e_b2, r1, q0, q1, q1_n, q2, q2_n, q3, ho, g1, k1]
        · obtain ⟨r', M', f1, f2, f3, f4⟩ := c_loss_loop (c := c) (al := al) (own := own) hp 16 0 0 0 0 0 M hM (by decide) (by decide) (by decide) (by decide)
          refine ⟨r', M', ?_, Or.inl ⟨l_T64 f2, f3, f4⟩⟩
          simp [e_tv, e_ev, e_sv, e_op, e_b1, e_b2, r1, q0, q1, q1_n, q2, q2_n, q3, ho, f1]
    · refine ⟨e_TH, c_thr M, ?_, Or.inr ⟨rfl, rfl⟩⟩
      simp [e_tv, e_ev, e_op, e_b1, e_b2, r1, q0, q1, q1_n, c_thr]
theorem l_st213 {v : Int} {M : EM} : e_st 101 [213, 0, v] M = some (e_up M 213 0 v) := by
  have hz : e_sz M 213 = 1 := by
    unfold e_sz
    rw [if_neg (by decide)]
    decide +kernel
  have h : (8 : Int) ≤ 213 ∧ e_in2 M 101 213 0 := by
    refine ⟨by decide, by decide, by decide +kernel, by decide +kernel, by decide, ?_⟩
    show 0 < e_sz M 213
    rw [hz]
    decide
  show (if (8 : Int) ≤ 213 ∧ e_in2 M 101 213 0 then some (e_up M 213 0 v) else none) = _
  rw [if_pos h]
theorem l_ent {u : Nat} {as : List Int} {M : EM} (hr : e_rok u as = true) : E_C u as M = e_tv E_C (E_V u) (e_tr u 0) (e_pad u as) M := r_ent hr
theorem l_push {p c : Int} {M : EM} (hJ : r_J M) (hp : -2147483648 ≤ p ∧ p ≤ 2147483647) (hc : -2147483648 ≤ c ∧ c ≤ 2147483647) : ∃ r M1, E_C 271 [8, p, c, 213] M = some (r, M1) ∧ l_st M M1 := by
  obtain ⟨r, M', k, h⟩ := l_cpush hJ.1 hp hc
  have j16 : ∀ M1, E_V 271 16 [8, p, c, 213, 0] M1 = some (0, M1) := by
    intro M1
    rw [E_V_eq]
    show e_tv E_C (E_V 271) e_t271_16 [8, p, c, 213, 0] M1 = _
    unfold e_t271_16
    simp [e_tv, e_ev, e_sv, e_b1, e_b2, x_o1, x_o2]
  rcases h with ⟨h1, h2, h3⟩ | ⟨h1, h2⟩
  · have n := l_TH r h1
    have s1 := l_cl hJ h2 h3 (by decide +kernel)
    have s2 := l_J213 s1.1 h1
    refine ⟨0, e_up M' 213 0 r, ?_, l_st_s0 (l_s0_st s1) s2⟩
    rw [l_ent (show e_rok 271 [8, p, c, 213] = true from rfl)]
    show e_tv E_C (E_V 271) e_t271_0 [8, p, c, 213, 0] M = _
    unfold e_t271_0
    simp [e_tv, e_ev, e_sv, e_b1, e_b2, x_o1, x_o2, k, n.1, n.2, l_st213, j16]
  · subst h2
    refine ⟨1, c_thr M, ?_, l_thr hJ⟩
    rw [l_ent (show e_rok 271 [8, p, c, 213] = true from rfl)]
    show e_tv E_C (E_V 271) e_t271_0 [8, p, c, 213, 0] M = _
    unfold e_t271_0
    simp [e_tv, e_ev, e_sv, e_b1, e_b2, x_o1, x_o2, k, h1]
theorem l_loss {p c al : Int} {M : EM} (hJ : r_J M) (hp : -2147483648 ≤ p ∧ p ≤ 2147483647) (hc : -2147483648 ≤ c ∧ c ≤ 2147483647) : ∃ r M1, E_C 272 [8, p, c, al, 213] M = some (r, M1) ∧ l_st M M1 := by
  obtain ⟨r, M', k, h⟩ := l_closs (al := al) hJ.1 hp hc
  have j16 : ∀ M1, E_V 272 18 [8, p, c, al, 213, 0] M1 = some (0, M1) := by
    intro M1
    rw [E_V_eq]
    show e_tv E_C (E_V 272) e_t272_18 [8, p, c, al, 213, 0] M1 = _
    unfold e_t272_18
    simp [e_tv, e_ev, e_sv, e_b1, e_b2, x_o1, x_o2]
  rcases h with ⟨h1, h2, h3⟩ | ⟨h1, h2⟩
  · have n := l_TH r h1
    have s1 := l_cl hJ h2 h3 (by decide +kernel)
    have s2 := l_J213 s1.1 h1
    refine ⟨0, e_up M' 213 0 r, ?_, l_st_s0 (l_s0_st s1) s2⟩
    rw [l_ent (show e_rok 272 [8, p, c, al, 213] = true from rfl)]
    show e_tv E_C (E_V 272) e_t272_0 [8, p, c, al, 213, 0] M = _
    unfold e_t272_0
    simp [e_tv, e_ev, e_sv, e_b1, e_b2, x_o1, x_o2, k, n.1, n.2, l_st213, j16]
  · subst h2
    refine ⟨1, c_thr M, ?_, l_thr hJ⟩
    rw [l_ent (show e_rok 272 [8, p, c, al, 213] = true from rfl)]
    show e_tv E_C (E_V 272) e_t272_0 [8, p, c, al, 213, 0] M = _
    unfold e_t272_0
    simp [e_tv, e_ev, e_sv, e_b1, e_b2, x_o1, x_o2, k, h1]
theorem l_element {d i : Int} {M : EM} (hJ : r_J M) (hd : -2147483648 ≤ d ∧ d ≤ 2147483647) (hi : -2147483648 ≤ i ∧ i ≤ 2147483647) : ∃ r M1, E_C 273 [8, d, i, 213] M = some (r, M1) ∧ l_st M M1 := by
  obtain ⟨r, M', k, h⟩ := c_element hJ.1 hd hi
  have j16 : ∀ M1, E_V 273 20 [8, d, i, 213, 0] M1 = some (0, M1) := by
    intro M1
    rw [E_V_eq]
    show e_tv E_C (E_V 273) e_t273_20 [8, d, i, 213, 0] M1 = _
    unfold e_t273_20
    simp [e_tv, e_ev, e_sv, e_b1, e_b2, x_o1, x_o2]
  have e10 : ¬ (e_TH + 1 = e_TH) := by unfold e_TH; decide
  rcases h with ⟨h1, h2, h3⟩ | ⟨h1, h2⟩
  · have h1' := l_T64 h1
    have n := l_TH r h1'
    have s1 := l_cl hJ h2 h3 (by decide +kernel)
    have s2 := l_J213 s1.1 h1'
    refine ⟨0, e_up M' 213 0 r, ?_, l_st_s0 (l_s0_st s1) s2⟩
    rw [l_ent (show e_rok 273 [8, d, i, 213] = true from rfl)]
    show e_tv E_C (E_V 273) e_t273_0 [8, d, i, 213, 0] M = _
    unfold e_t273_0
    simp [e_tv, e_ev, e_sv, e_b1, e_b2, x_o1, x_o2, k, n.1, n.2, l_st213, j16]
  · subst h2
    rcases h1 with h1 | h1
    · refine ⟨1, c_thr M, ?_, l_thr hJ⟩
      rw [l_ent (show e_rok 273 [8, d, i, 213] = true from rfl)]
      show e_tv E_C (E_V 273) e_t273_0 [8, d, i, 213, 0] M = _
      unfold e_t273_0
      simp [e_tv, e_ev, e_sv, e_b1, e_b2, x_o1, x_o2, k, h1]
    · refine ⟨2, c_thr M, ?_, l_thr hJ⟩
      rw [l_ent (show e_rok 273 [8, d, i, 213] = true from rfl)]
      show e_tv E_C (E_V 273) e_t273_0 [8, d, i, 213, 0] M = _
      unfold e_t273_0
      simp [e_tv, e_ev, e_sv, e_b1, e_b2, x_o1, x_o2, k, h1, e10]
