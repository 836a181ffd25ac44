/-! where line 0 begins: SPREAD keeps it; so do all calls -/
theorem gz_146 {a i : Int} {N : EM} (h : 8 ≤ a ∧ a.toNat < e_N ∧ (e_sh a.toNat).1 = 100) : ∃ v, E_C 146 [a, i] N = some (v, N) ∧ ((∀ j, N a.toNat j ≤ 2147483647) → v ≤ 2147483647) := by
  refine ⟨_, c_at a i N (Or.inr ⟨by omega, h.2.1, h.2.2⟩), fun p => ?_⟩
  split
  · exact p _
  · decide
theorem gz_101 {p x3 x4 x5 : Int} (h5 : x5 ≤ 2147483647) : ∀ (d : Nat) (x6 : Int) (N : EM) (r : Int × EM), N 170 5 = x6 → 0 ≤ x6 → (x5 - x6).toNat = d → (∀ j, N 14 j ≤ 2147483647) → E_V 1 101 [170, p, 10, x3, x4, x5, x6] N = some r → r.2 171 0 = N 171 0 ∧ ∀ j, r.2 14 j = N 14 j := by
  intro d
  induction d with
  | zero =>
    intro x6 N r n5 h0 hd pre h
    have q : ¬ x6 < x5 := by omega
    have e : E_V 1 101 [170, p, 10, x3, x4, x5, x6] N = some (0, N) := by
      rw [E_V_eq]
      show e_tv E_C (E_V 1) e_t1_101 [170, p, 10, x3, x4, x5, x6] N = _
      unfold e_t1_101
      simp [e_tv, e_ev, e_sv, e_b1, e_b2, x_o1, x_o2, q]
    rw [e] at h
    cases h
    exact ⟨rfl, fun _ => rfl⟩
  | succ d ih =>
    intro x6 N r n5 h0 hd pre h
    have q : x6 < x5 := by omega
    have w : e_w (x6 + 1) = x6 + 1 := a_w_id (by omega) (by omega)
    obtain ⟨v, hv, -⟩ := gz_146 (a := 15) (i := e_w (e_w (x4 * 8) + x6)) (N := N) (by decide +kernel)
    cases h4 : E_C 4 [170, v] N with
    | none =>
      have e : E_V 1 101 [170, p, 10, x3, x4, x5, x6] N = none := by
        rw [E_V_eq]
        show e_tv E_C (E_V 1) e_t1_101 [170, p, 10, x3, x4, x5, x6] N = _
        unfold e_t1_101
        simp [e_tv, e_ev, e_sv, e_b1, e_b2, x_o1, x_o2, w_P5, q, hv, h4]
      rw [e] at h
      cases h
    | some s =>
      have e : E_V 1 101 [170, p, 10, x3, x4, x5, x6] N = E_V 1 101 [170, p, 10, x3, x4, x5, x6 + 1] s.2 := by
        rw [E_V_eq]
        show e_tv E_C (E_V 1) e_t1_101 [170, p, 10, x3, x4, x5, x6] N = _
        unfold e_t1_101
        simp [e_tv, e_ev, e_sv, e_b1, e_b2, x_o1, x_o2, w_P5, q, w, hv, h4]
      rw [e] at h
      obtain ⟨a1, a2, a3⟩ := gz_4 h4 pre
      rw [n5, w] at a2 a3
      obtain ⟨b1, b2⟩ := ih (x6 + 1) s.2 r a2 (by omega) (by omega) (fun j => by rw [a1 j]; exact pre j) h
      exact ⟨b1.trans (a3 (by omega)), fun j => (b2 j).trans (a1 j)⟩
theorem gz_10 {p : Int} {M : EM} {r : Int × EM} (h : E_V 1 0 [170, p, 0, 0, 0, 0, 0] M = some r) : gz_P [] M r.2 := by
  intro pre
  obtain ⟨Z, hZ⟩ : ∃ Z, bx_cl M = Z := ⟨_, rfl⟩
  have cl : E_C 3 [170] M = some (0, Z) := by rw [← hZ]; exact bx_clear M
  have z5 : Z 170 5 = 0 := by
    rw [← hZ]
    unfold bx_cl bx_fl
    rw [if_neg (by omega), c_up_s]
  have z171 : Z 171 0 = M 171 0 := by
    rw [← hZ]
    unfold bx_cl bx_fl
    rw [if_neg (by omega), c_up_n (by omega), c_up_n (by omega), c_up_n (by omega)]
  have z14 : ∀ j, Z 14 j = M 14 j := fun j => by
    rw [← hZ]
    unfold bx_cl bx_fl
    rw [if_neg (by omega), c_up_n (by omega), c_up_n (by omega), c_up_n (by omega)]
  -- what stands behind the choice of the inner PART
  have go1 : ∀ x3 y : Int, ∀ (s : Int × EM), E_C 4 [170, y] (e_up Z 170 7 0) = some s → s.2 171 0 = M 171 0 ∧ ∀ j, s.2 14 j = M 14 j := fun x3 y s hs => by
    obtain ⟨a1, a2, a3⟩ := gz_4 hs (fun j => by rw [c_up_n (by omega), z14 j]; exact pre j)
    have u5 : (e_up Z 170 7 0) 170 5 = 0 := (c_up_n (by omega)).trans z5
    rw [u5] at a3
    exact ⟨(a3 (by decide)).trans ((c_up_n (by omega)).trans z171), fun j => (a1 j).trans ((c_up_n (by omega)).trans (z14 j))⟩
  have go2 : ∀ x3 y m : Int, ∀ (s : Int × EM), m ≤ 2147483647 → E_V 1 101 [170, p, 10, x3, y, m, 0] (e_up Z 170 7 1) = some s → s.2 171 0 = M 171 0 ∧ ∀ j, s.2 14 j = M 14 j := fun x3 y m s hm hs => by
    obtain ⟨b1, b2⟩ := gz_101 hm _ 0 (e_up Z 170 7 1) s ((c_up_n (by omega)).trans z5) (by decide) rfl (fun j => by rw [c_up_n (by omega), z14 j]; exact pre j) hs
    exact ⟨b1.trans ((c_up_n (by omega)).trans z171), fun j => (b2 j).trans ((c_up_n (by omega)).trans (z14 j))⟩
  suffices hh : r.2 171 0 = M 171 0 ∧ ∀ j, r.2 14 j = M 14 j from ⟨hh.1, hh.2, fun k hk => absurd hk List.not_mem_nil⟩
  obtain ⟨kp, tp, -⟩ := gz_146 (a := 11) (i := p) (N := Z) (by decide +kernel)
  by_cases c3 : kp = 3
  · subst c3
    obtain ⟨y, t15, -⟩ := gz_146 (a := 15) (i := e_w (p * 8)) (N := Z) (by decide +kernel)
    obtain ⟨ky, ty, -⟩ := gz_146 (a := 11) (i := y) (N := Z) (by decide +kernel)
    by_cases c : ky = 2
    · subst c
      obtain ⟨m, t14, hm⟩ := gz_146 (a := 14) (i := y) (N := e_up Z 170 7 1) (by decide +kernel)
      have e : E_V 1 0 [170, p, 0, 0, 0, 0, 0] M = E_V 1 101 [170, p, 10, 1, y, m, 0] (e_up Z 170 7 1) := by
        rw [E_V_eq]
        show e_tv E_C (E_V 1) e_t1_0 [170, p, 0, 0, 0, 0, 0] M = _
        unfold e_t1_0
        simp [e_tv, e_ev, e_sv, e_b1, e_b2, x_o1, x_o2, bx_G3, bx_F7, bx_P7, w_H0, w_P1, w_P4, w_P5, cl, tp, t15, ty, t14, c_up_s]
      rw [e] at h
      exact go2 _ _ _ _ (hm (fun j => by show (e_up Z 170 7 1) 14 j ≤ _; rw [c_up_n (by omega), z14 j]; exact pre j)) h
    · cases h4 : E_C 4 [170, y] (e_up Z 170 7 0) with
      | none =>
        have e : E_V 1 0 [170, p, 0, 0, 0, 0, 0] M = none := by
          rw [E_V_eq]
          show e_tv E_C (E_V 1) e_t1_0 [170, p, 0, 0, 0, 0, 0] M = _
          unfold e_t1_0
          simp [e_tv, e_ev, e_sv, e_b1, e_b2, x_o1, x_o2, bx_G3, bx_F7, bx_P7, w_H0, w_P1, w_P5, cl, tp, t15, ty, c, h4, c_up_s]
        rw [e] at h
        cases h
      | some s =>
        have e : E_V 1 0 [170, p, 0, 0, 0, 0, 0] M = some (0, s.2) := by
          rw [E_V_eq]
          show e_tv E_C (E_V 1) e_t1_0 [170, p, 0, 0, 0, 0, 0] M = _
          unfold e_t1_0
          simp [e_tv, e_ev, e_sv, e_b1, e_b2, x_o1, x_o2, bx_G3, bx_F7, bx_P7, w_H0, w_P1, w_P5, cl, tp, t15, ty, c, h4, c_up_s]
        rw [e] at h
        cases h
        exact go1 0 y s h4
  · obtain ⟨y, hy⟩ : ∃ y, y = p := ⟨_, rfl⟩
    by_cases c : kp = 2
    · subst c
      obtain ⟨m, t14, hm⟩ := gz_146 (a := 14) (i := p) (N := e_up Z 170 7 1) (by decide +kernel)
      have e : E_V 1 0 [170, p, 0, 0, 0, 0, 0] M = E_V 1 101 [170, p, 10, 0, p, m, 0] (e_up Z 170 7 1) := by
        rw [E_V_eq]
        show e_tv E_C (E_V 1) e_t1_0 [170, p, 0, 0, 0, 0, 0] M = _
        unfold e_t1_0
        simp [e_tv, e_ev, e_sv, e_b1, e_b2, x_o1, x_o2, bx_G3, bx_F7, bx_P7, w_H0, w_P1, w_P4, cl, tp, t14, c_up_s]
      rw [e] at h
      exact go2 _ _ _ _ (hm (fun j => by show (e_up Z 170 7 1) 14 j ≤ _; rw [c_up_n (by omega), z14 j]; exact pre j)) h
    · cases h4 : E_C 4 [170, p] (e_up Z 170 7 0) with
      | none =>
        have e : E_V 1 0 [170, p, 0, 0, 0, 0, 0] M = none := by
          rw [E_V_eq]
          show e_tv E_C (E_V 1) e_t1_0 [170, p, 0, 0, 0, 0, 0] M = _
          unfold e_t1_0
          simp [e_tv, e_ev, e_sv, e_b1, e_b2, x_o1, x_o2, bx_G3, bx_F7, bx_P7, w_H0, w_P1, cl, tp, c3, c, h4, c_up_s]
        rw [e] at h
        cases h
      | some s =>
        have e : E_V 1 0 [170, p, 0, 0, 0, 0, 0] M = some (0, s.2) := by
          rw [E_V_eq]
          show e_tv E_C (E_V 1) e_t1_0 [170, p, 0, 0, 0, 0, 0] M = _
          unfold e_t1_0
          simp [e_tv, e_ev, e_sv, e_b1, e_b2, x_o1, x_o2, bx_G3, bx_F7, bx_P7, w_H0, w_P1, cl, tp, c3, c, h4, c_up_s]
        rw [e] at h
        cases h
        exact go1 0 p s h4
theorem gz_1 {as : List Int} {M : EM} {r : Int × EM} (h : E_C 1 as M = some r) : gz_P [] M r.2 := by
  unfold E_C at h
  split at h
  · rename_i hr
    have h0 := gz_rc1 hr
    match as, h0 with
    | [], h0 => cases h0
    | [a], h0 =>
      have h0 : a = 170 := h0
      subst h0
      exact gz_10 (p := 0) h
    | a :: p :: t, h0 =>
      have h0 : a = 170 := h0
      subst h0
      exact gz_10 (p := p) h
  · cases h
def gz_A : List Nat := [5, 6, 7, 8, 9, 10, 11, 12, 13, 14, 15, 16, 17, 18, 19, 20, 21, 22, 23, 24, 25, 26, 29, 30, 31, 32, 37, 38, 41, 42, 43, 44, 45, 46, 74, 75, 77, 78, 81, 82, 84, 85, 86, 105, 106, 109, 110, 111, 112, 113, 115, 116, 123, 124, 131, 132, 133, 134, 135, 139, 146, 147, 149, 150, 151, 152, 154, 155, 156, 158, 159, 160, 164, 165, 166, 266, 270, 271, 272, 273, 142, 1000]
theorem gz_A_ok : gz_ok gz_A [] = true := by decide +kernel
/-- calls that ask of the bench leave alone where line 0 begins -/
theorem gz_c {u : Nat} {as : List Int} {M M' : EM} {r : Int} (hu : fz_S gz_A u = true) (hR : gz_R u = 99) (J : r_J M) (e : E_C u as M = some (r, M')) (h : M 171 0 = 0) : M' 171 0 = 0 := by
  have p := gz_call gz_A_ok (fun _ as M r h => gz_1 h) hu (Or.inl hR) e (fun j => ?_)
  · exact p.1.trans h
  · exact (c_M32 J.1 (by decide) (by decide +kernel)).2
