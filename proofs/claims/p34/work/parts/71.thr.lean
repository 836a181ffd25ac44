/-! the three that may throw -/
def c_thr (M : EM) : EM := e_up M 5 0 (M 5 0 + 1)
/-- an answer between two, or a throw (counted), at most these cells written -/
def c_OUT (W : AW) (rho : AV) (M : EM) (o : EO) : Prop := ∃ r M', o = some (r, M') ∧ ((a_g rho r ∧ a_M M' ∧ a_fr W M M') ∨ ((r = e_TH ∨ r = e_TH + 1) ∧ M' = c_thr M))
theorem c_this : e_isO 11 8 := by decide +kernel
theorem c_same {M M' : EM} (h : a_fr [] M M') : M' = M := by
  funext id k
  exact h id k (fun w hw => by cases hw)
theorem c_isPart {p : Int} {M : EM} (hM : a_M M) (hp : -2147483648 ≤ p ∧ p ≤ 2147483647) : ∃ r, E_C 149 [8, p] M = some (r, M) ∧ 0 ≤ r ∧ r ≤ 1 := by
  obtain ⟨r, M', h1, h2, h3, h4⟩ := a_entry a_c149 (as := [8, p]) ⟨List.mem_cons_self, a_gi hp.1 hp.2, trivial⟩ hM
  have := c_same h4
  subst this
  have hr : a_rho 149 = a_i 0 1 := by rfl
  rw [hr] at h2
  exact ⟨r, h1, h2.1, h2.2.1⟩
theorem c_bench {M : EM} : e_gf 709 [8] M = some 170 := by
  rw [c_gr (by decide +kernel) (by decide +kernel)]
  exact congrArg some (by decide +kernel)
theorem c_sub_l {A B : AW} {M M' : EM} (h : a_fr A M M') : a_fr (A ++ B) M M' := fun id k hw => h id k (fun w hw1 => hw w (List.mem_append.mpr (Or.inl hw1)))
theorem c_sub_r {A B : AW} {M M' : EM} (h : a_fr B M M') : a_fr (A ++ B) M M' := fun id k hw => h id k (fun w hw1 => hw w (List.mem_append.mpr (Or.inr hw1)))
theorem c_push {p c : Int} {M : EM} (hM : a_M M) (hp : -2147483648 ≤ p ∧ p ≤ 2147483647) (hc : -2147483648 ≤ c ∧ c ≤ 2147483647) : c_OUT (a_w1 ++ a_w16) a_T64 M (E_C 109 [8, p, c] M) := by
  have h1 : E_C 109 [8, p, c] M = e_tv E_C (E_V 109) e_t109_0 [8, p, c] M := by
    unfold E_C
    rw [if_pos (show e_rok 109 [8, p, c] = true from decide_eq_true c_this), E_V_eq]
    rfl
  rw [h1]
  unfold e_t109_0
  obtain ⟨r, r1, r2, r3⟩ := c_isPart hM hp
  by_cases q0 : r = 0
  · subst q0
    refine ⟨e_TH, c_thr M, ?_, Or.inr ⟨Or.inl rfl, rfl⟩⟩
    simp [e_tv, e_ev, e_op, e_b1, e_b2, r1, c_thr]
  · by_cases q1 : 0 ≤ c
    · by_cases q2 : 999 < c
      · refine ⟨e_TH, c_thr M, ?_, Or.inr ⟨Or.inl rfl, rfl⟩⟩
        simp [e_tv, e_ev, e_op, e_b1, e_b2, r1, q0, q1, q2, c_thr]
      · obtain ⟨s, M2, s1, -, s3, s4⟩ := a_entry a_c1 (as := [170, p]) (M := M) ⟨List.mem_cons_self, a_gi hp.1 hp.2, trivial⟩ hM
        obtain ⟨t, M3, t1, t2, t3, t4⟩ := a_entry a_c16 (as := [170, c]) (M := M2) ⟨List.mem_cons_self, a_gi hc.1 hc.2, trivial⟩ s3
        have hr : a_rho 16 = a_i (-2147483648) 2147483647 := by rfl
        rw [hr] at t2
        have t5 : (-2147483648 : Int) ≤ t := t2.1
        have t6 : t ≤ 2147483647 := t2.2.1
        refine ⟨t, M3, ?_, Or.inl ⟨a_T64_ok ⟨by omega, by omega⟩, t3, a_fr_tr (c_sub_l s4) (c_sub_r t4)⟩⟩
        simp [e_tv, e_ev, e_sv, e_op, e_b1, e_b2, r1, q0, q1, q2, c_bench, s1, t1]
    · refine ⟨e_TH, c_thr M, ?_, Or.inr ⟨Or.inl rfl, rfl⟩⟩
      simp [e_tv, e_ev, e_op, e_b1, e_b2, r1, q0, q1, c_thr]
theorem c_shelfAt {d : Int} {M : EM} (hM : a_M M) (hd : -2147483648 ≤ d ∧ d ≤ 2147483647) : ∃ r, E_C 154 [8, d] M = some (r, M) ∧ (r = -1 ∨ r ∈ a_SH) := by
  obtain ⟨r, M', h1, h2, h3, h4⟩ := a_entry a_c154 (as := [8, d]) ⟨List.mem_cons_self, a_gi hd.1 hd.2, trivial⟩ hM
  have := c_same h4
  subst this
  have hr : a_rho 154 = a_r (-1 :: a_SH) := by rfl
  rw [hr] at h2
  exact ⟨r, h1, List.mem_cons.mp h2⟩
theorem c_M32 {M : EM} {id k : Nat} (hM : a_M M) (h5 : id ≠ 5) (ho : id ≠ e_OUT) : -2147483648 ≤ M id k ∧ M id k ≤ 2147483647 := by
  obtain ⟨m1, m2, -⟩ := hM id k h5
  unfold a_lo at m1; unfold a_hi at m2
  rw [if_neg ho] at m1 m2
  exact ⟨m1, m2⟩
theorem c_element {d i : Int} {M : EM} (hM : a_M M) (hd : -2147483648 ≤ d ∧ d ≤ 2147483647) (hi : -2147483648 ≤ i ∧ i ≤ 2147483647) : c_OUT [] a_T64 M (E_C 142 [8, d, i] M) := by
  have h1 : E_C 142 [8, d, i] M = e_tv E_C (E_V 142) e_t142_0 [8, d, i, 0] M := by
    unfold E_C
    rw [if_pos (show e_rok 142 [8, d, i] = true from decide_eq_true c_this), E_V_eq]
    rfl
  rw [h1]
  unfold e_t142_0
  obtain ⟨s, s1, s2⟩ := c_shelfAt hM hd
  by_cases q0 : s = -1
  · subst q0
    refine ⟨e_TH, c_thr M, ?_, Or.inr ⟨Or.inl rfl, rfl⟩⟩
    simp [e_tv, e_ev, e_sv, e_op, e_b1, e_b2, s1, c_thr]
  · have hs := s2.resolve_left q0
    obtain ⟨k1, k2, k3, k4⟩ := c_shelf hs
    have f1 : ∀ M, e_gf 513 [s] M = some (M s.toNat 1) := fun M => c_gf k1 (by decide +kernel)
    have f5 : ∀ M, e_gf 517 [s] M = some (M s.toNat 5) := fun M => c_gf k1 (by decide +kernel)
    have f6 : ∀ M, e_gf 518 [s] M = some (e_gr s.toNat 6) := fun M => c_gr k1 (by decide +kernel)
    by_cases q1 : M s.toNat 1 = 0
    · refine ⟨e_TH + 1, c_thr M, ?_, Or.inr ⟨Or.inr rfl, rfl⟩⟩
      simp [e_tv, e_ev, e_sv, e_op, e_b1, e_b2, s1, q0, f1, q1, c_thr]
    · by_cases q2 : 0 ≤ i
      · by_cases q3 : M s.toNat 5 ≤ i
        · refine ⟨e_TH + 1, c_thr M, ?_, Or.inr ⟨Or.inr rfl, rfl⟩⟩
          simp [e_tv, e_ev, e_sv, e_op, e_b1, e_b2, s1, q0, f1, f5, q1, q2, q3, c_thr]
        · have h5 : (e_gr s.toNat 6).toNat ≠ 5 := fun e => by rw [e] at k4; exact absurd k4 (by decide +kernel)
          have ho : (e_gr s.toNat 6).toNat ≠ e_OUT := fun e => by rw [e] at k4; exact absurd k4 (by decide +kernel)
          have hat := c_at (e_gr s.toNat 6) i M (Or.inr ⟨k2, k3, by rw [k4]⟩)
          generalize hv : (if e_gr s.toNat 6 ≠ -1 ∧ 0 ≤ i ∧ i < ((e_sh (e_gr s.toNat 6).toNat).2 : Int) then M (e_gr s.toNat 6).toNat i.toNat else 0) = v at hat
          have hvr : -9223372036854775808 ≤ v ∧ v ≤ 9223372036854775807 := by
            rw [← hv]
            have := c_M32 (k := i.toNat) hM h5 ho
            split <;> omega
          refine ⟨v, M, ?_, Or.inl ⟨a_T64_ok hvr, hM, a_fr_rf⟩⟩
          simp [e_tv, e_ev, e_sv, e_op, e_b1, e_b2, s1, q0, f1, f5, f6, q1, q2, q3, hat]
      · refine ⟨e_TH + 1, c_thr M, ?_, Or.inr ⟨Or.inr rfl, rfl⟩⟩
        simp [e_tv, e_ev, e_sv, e_op, e_b1, e_b2, s1, q0, f1, q1, q2, c_thr]
