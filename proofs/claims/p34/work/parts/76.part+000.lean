theorem c_sh5 {s : Int} {M M' : EM} (hs : s ∈ a_SH) (h : a_fr a_w5 M M') : M' s.toNat 5 = M s.toNat 5 := by
  have h2 : ∀ x ∈ a_SH, ∀ w ∈ a_w5, ¬ (w.1 = x.toNat ∧ w.2.1 ≤ 5 ∧ 5 ≤ w.2.2) := by decide +kernel
  exact h _ _ (h2 s hs)
theorem c_sh3 {s : Int} {M M' : EM} (hs : s ∈ a_SH) (h : a_fr a_w3 M M') : M' s.toNat 5 = M s.toNat 5 := by
  have h2 : ∀ x ∈ a_SH, ∀ w ∈ a_w3, ¬ (w.1 = x.toNat ∧ w.2.1 ≤ 5 ∧ 5 ≤ w.2.2) := by decide +kernel
  exact h _ _ (h2 s hs)
theorem c_spread_loop {s : Int} (hs : s ∈ a_SH) : ∀ (m : Nat) (i : Int) (M : EM), a_M M → (M s.toNat 5 - i).toNat ≤ m → 0 ≤ i → i ≤ M s.toNat 5 → M 170 0 = i → ∃ M', E_V 2 6 [170, s, i] M = some (0, M') ∧ a_M M' ∧ a_fr a_w5 M M' ∧ M' 170 0 = M s.toNat 5 := by
  obtain ⟨s1, s2, s3, s4⟩ := c_shelf hs
  have f5 : ∀ M, e_gf 517 [s] M = some (M s.toNat 5) := fun M => c_gf s1 (by decide +kernel)
  have f6 : ∀ M, e_gf 518 [s] M = some (e_gr s.toNat 6) := fun M => c_gr s1 (by decide +kernel)
  obtain ⟨-, e2, e3, -, -⟩ := c_el hs
  intro m
  induction m with
  | zero =>
    intro i M hM hm h0 h1 h2
    refine ⟨M, ?_, hM, a_fr_rf, by omega⟩
    have hlt : ¬ (i < M s.toNat 5) := by omega
    rw [E_V_eq]
    show e_tv E_C (E_V 2) e_t2_6 [170, s, i] M = _
    unfold e_t2_6
    simp [e_tv, e_ev, e_sv, e_op, e_b2, f5, hlt]
  | succ m ih =>
    intro i M hM hm h0 h1 h2
    have hz := c_size hs hM
    by_cases hlt : i < M s.toNat 5
    · obtain ⟨v, v1, v2⟩ := c_at32 (i := i) hM (a := e_gr s.toNat 6) ⟨s2, s3, by rw [s4]⟩ e3 e2
      obtain ⟨M1, l1, l2, l3, l4⟩ := c_addCell (x := v) (y := i) hM v2 ⟨by omega, by omega⟩
      have h5 := c_sh5 hs l3
      have hw : e_w (i + 1) = i + 1 := a_w_id (by omega) (by omega)
      obtain ⟨M2, k1, k2, k3, k4⟩ := ih (i + 1) M1 l2 (by omega) (by omega) (by omega) (by rw [l4, h2, hw])
      refine ⟨M2, ?_, k2, a_fr_tr l3 k3, by rw [k4, h5]⟩
      rw [E_V_eq]
      show e_tv E_C (E_V 2) e_t2_6 [170, s, i] M = _
      unfold e_t2_6
      simp [e_tv, e_ev, e_sv, e_op, e_b2, f5, f6, v1, l1, hlt, hw, k1]
    · refine ⟨M, ?_, hM, a_fr_rf, by omega⟩
      rw [E_V_eq]
      show e_tv E_C (E_V 2) e_t2_6 [170, s, i] M = _
      unfold e_t2_6
      simp [e_tv, e_ev, e_sv, e_op, e_b2, f5, hlt]
def a_w2 : AW := a_w3 ++ a_w5
theorem c_spread {s : Int} {M : EM} (hs : s ∈ a_SH) (hM : a_M M) : ∃ M', E_C 2 [170, s] M = some (0, M') ∧ a_M M' ∧ a_fr a_w2 M M' ∧ M' 170 0 = M s.toNat 5 := by
  have h1 : E_C 2 [170, s] M = e_tv E_C (E_V 2) e_t2_0 [170, s, 0] M := by
    unfold E_C
    rw [if_pos (show e_rok 2 [170, s] = true from decide_eq_true c_isB), E_V_eq]
    rfl
  obtain ⟨r, M1, l1, l2, l3, l4⟩ := c_clear hM
  have h3 := c_sh3 hs l3
  have hz := c_size hs hM
  obtain ⟨M2, k1, k2, k3, k4⟩ := c_spread_loop hs _ 0 M1 l2 (Nat.le_refl _) (by decide) (by omega) l4
  refine ⟨M2, ?_, k2, a_fr_tr (c_sub_l l3) (c_sub_r k3), by rw [k4, h3]⟩
  rw [h1]
  unfold e_t2_0
  simp [e_tv, e_ev, e_sv, l1, k1]
def a_w27 : AW := (170, 6, 6) :: (a_w270b ++ (a_w28 ++ (a_w22 ++ a_w11)))
theorem c_find_loop {all : Int} (ha : 0 ≤ all ∧ all ≤ 1000) : ∀ (m : Nat) (b r i : Int) (M : EM), a_M M → (all + 1 - i).toNat ≤ m → 0 ≤ i → i ≤ 1010 → (-2147483648 ≤ b ∧ b ≤ 2147483647) → (-2147483648 ≤ r ∧ r ≤ 2147483647) → a_OUT a_w27 a_T32 M (E_V 27 20 [170, b, r, all, i] M) := by
  have g1 : ∀ M, e_gf 1 [170] M = some (M 170 1) := fun M => c_gf c_isB (by decide +kernel)
  have g18 : ∀ M, e_gf 18 [170] M = some 181 := fun M => c_g 18 181 M (by decide +kernel)
  have p1 : ∀ v M, e_pf 1 [170, v] M = some (e_up M 170 1 v) := fun v M => c_pf c_isB (by decide +kernel)
  have p6 : ∀ v M, e_pf 6 [170, v] M = some (e_up M 170 6 v) := fun v M => c_pf c_isB (by decide +kernel)
  have hb : ∀ {M}, a_M M → -2147483648 ≤ M 170 1 ∧ M 170 1 ≤ 2147483647 := fun h => c_M32 h (by decide) (by decide +kernel)
  have hend : ∀ (b r i : Int) (M : EM), a_M M → ¬ (i ≤ all) → (-2147483648 ≤ b ∧ b ≤ 2147483647) → (-2147483648 ≤ r ∧ r ≤ 2147483647) → a_OUT a_w27 a_T32 M (E_V 27 20 [170, b, r, all, i] M) := by
    intro b r i M hM hlt hb hr
    obtain ⟨a1, b1⟩ := c_bup (W := a_w27) (M := M) (k := 1) (v := b) (by decide +kernel) hb hM
    refine ⟨r, _, ?_, a_T32_ok hr, a1, b1⟩
    rw [E_V_eq]
    show e_tv E_C (E_V 27) e_t27_20 [170, b, r, all, i] M = _
    unfold e_t27_20
    simp [e_tv, e_ev, e_sv, e_op, e_b2, p1, hlt]
  intro m
  induction m with
  | zero => intro b r i M hM hm h0 h4 hb hr; exact hend b r i M hM (by omega) hb hr
  | succ m ih =>
    intro b r i M hM hm h0 h4 hbb hr
    by_cases hlt : i ≤ all
    · have h73 : ∀ (b r : Int) (M : EM), E_V 27 73 [170, b, r, all, i] M = E_V 27 20 [170, b, r, all, i + 2] M := by
        intro b r M
        have hw : e_w (i + 2) = i + 2 := a_w_id (by omega) (by omega)
        rw [E_V_eq]
        show e_tv E_C (E_V 27) e_t27_73 [170, b, r, all, i] M = _
        unfold e_t27_73
        simp [e_tv, e_ev, e_sv, hw]
      obtain ⟨a1, b1⟩ := c_bup (W := a_w27) (M := M) (k := 6) (v := 0) (by decide +kernel) (by decide) hM
      obtain ⟨r1, M1, l1, -, l2, l3⟩ := a_entry a_c270b (as := [181, 0]) ⟨List.mem_cons_self, a_gi (by decide) (by decide), trivial⟩ a1
      obtain ⟨r2, M2, m1, -, m2, m3⟩ := a_entry a_c28 (as := [170, i]) ⟨List.mem_cons_self, a_gi (by omega) (by omega), trivial⟩ l2
      obtain ⟨r3, M3, n1, -, n2, n3⟩ := a_entry a_c28 (as := [170, e_w (all - i)]) ⟨List.mem_cons_self, a_gi (a_w _).1 (a_w _).2, trivial⟩ m2
      obtain ⟨r4, M4, o1, -, o2, o3⟩ := a_entry a_c22 (as := [170]) ⟨List.mem_cons_self, trivial⟩ n2
      have hf : a_fr a_w27 M M4 := a_fr_tr b1 (a_fr_tr (a_sub_fr (by decide +kernel) l3) (a_fr_tr (a_sub_fr (by decide +kernel) m3) (a_fr_tr (a_sub_fr (by decide +kernel) n3) (a_sub_fr (by decide +kernel) o3))))
      refine a_OUT_tr hf ?_
      by_cases hc : b < M4 170 1
      · have he : E_V 27 20 [170, b, r, all, i] M = E_V 27 20 [170, M4 170 1, i, all, i + 2] M4 := by
          rw [E_V_eq]
          show e_tv E_C (E_V 27) e_t27_20 [170, b, r, all, i] M = _
          unfold e_t27_20
          simp [e_tv, e_ev, e_sv, e_op, e_b2, g1, g18, p6, l1, m1, n1, o1, hc, hlt, h73]
        rw [he]
        exact ih _ _ _ M4 o2 (by omega) (by omega) (by omega) (hb o2) ⟨by omega, by omega⟩
      · have he : E_V 27 20 [170, b, r, all, i] M = E_V 27 20 [170, b, r, all, i + 2] M4 := by
          rw [E_V_eq]
          show e_tv E_C (E_V 27) e_t27_20 [170, b, r, all, i] M = _
          unfold e_t27_20
          simp [e_tv, e_ev, e_sv, e_op, e_b2, g1, g18, p6, l1, m1, n1, o1, hc, hlt, h73]
        rw [he]
        exact ih _ _ _ M4 o2 (by omega) (by omega) (by omega) hbb hr
    · exact hend b r i M hM hlt hbb hr
