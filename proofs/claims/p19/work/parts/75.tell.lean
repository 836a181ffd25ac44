section
theorem c_at32 {a i : Int} {M : EM} (hM : a_M M) (ha : 0 < a ∧ a.toNat < e_N ∧ (e_sh a.toNat).1 = 100) (h5 : a.toNat ≠ 5) (ho : a.toNat ≠ e_OUT) : ∃ v, E_C 146 [a, i] M = some (v, M) ∧ -2147483648 ≤ v ∧ v ≤ 2147483647 := by
  refine ⟨_, c_at a i M (Or.inr ha), ?_⟩
  split
  · exact c_M32 hM h5 ho
  · exact ⟨by decide, by decide⟩
theorem c_b3 : e_isO 3 9 := by decide +kernel
theorem c_b1 : e_isO 1 18 := by decide +kernel
theorem c_g (k : Nat) (v : Int) (M : EM) (h : e_fty k = 2 ∧ k / 64 = 0 ∧ e_gr 170 k = v) : e_gf k [170] M = some v := by
  obtain ⟨h1, h2, h3⟩ := h
  have h4 : k % 64 = k := by omega
  rw [c_gr (by rw [h2]; exact c_isB) h1, h4]
  exact congrArg some h3
theorem c_add_loop {x y : Int} : ∀ (m : Nat) (i : Int) (M : EM), a_M M → (4 - i).toNat ≤ m → 0 ≤ i → i ≤ 4 → ∃ M', E_V 5 51 [170, x, y, i] M = some (0, M') ∧ a_M M' ∧ a_fr a_w5 M M' ∧ M' 170 0 = e_w (M 170 0 + 1) := by
  have g12 : ∀ M, e_gf 12 [170] M = some 175 := fun M => c_g 12 175 M (by decide +kernel)
  have g3 : ∀ M, e_gf 3 [170] M = some 9 := fun M => c_g 3 9 M (by decide +kernel)
  have g0 : ∀ M, e_gf 0 [170] M = some (M 170 0) := fun M => c_gf c_isB (by decide +kernel)
  have p0 : ∀ v M, e_pf 0 [170, v] M = some (e_up M 170 0 v) := fun v M => c_pf c_isB (by decide +kernel)
  have g193 : ∀ M, e_gf 193 [9] M = some 18 := fun M => (c_gr c_b3 (by decide +kernel)).trans (congrArg some (by decide +kernel))
  have g66 : ∀ M, e_gf 66 [18] M = some 21 := fun M => (c_gr c_b1 (by decide +kernel)).trans (congrArg some (by decide +kernel))
  have hend : ∀ (i : Int) (M : EM), a_M M → ¬ (i < 4) → ∃ M', E_V 5 51 [170, x, y, i] M = some (0, M') ∧ a_M M' ∧ a_fr a_w5 M M' ∧ M' 170 0 = e_w (M 170 0 + 1) := by
    intro i M hM hlt
    obtain ⟨a1, b1⟩ := c_bup (W := a_w5) (M := M) (k := 0) (v := e_w (M 170 0 + 1)) (by decide +kernel) (a_w _) hM
    refine ⟨_, ?_, a1, b1, c_up_s⟩
    rw [E_V_eq]
    show e_tv E_C (E_V 5) e_t5_51 [170, x, y, i] M = _
    unfold e_t5_51
    simp [e_tv, e_ev, e_sv, e_op, e_b2, g0, p0, hlt]
  intro m
  induction m with
  | zero => intro i M hM hm h0 h4; exact hend i M hM (by omega)
  | succ m ih =>
    intro i M hM hm h0 h4
    by_cases hlt : i < 4
    · obtain ⟨v, v1, v2⟩ := c_at32 (i := e_w (e_w (x * 4) + i)) hM (a := 21) (by decide +kernel) (by decide) (by decide +kernel)
      obtain ⟨r, M1, l1, l2, l3, l4⟩ := c_lay (a := 175) (i := e_w (e_w (M 170 0 * 4) + i)) (by decide) hM (a_w _) v2
      obtain ⟨M2, k1, k2, k3, k4⟩ := ih (i + 1) M1 l2 (by omega) (by omega) (by omega)
      refine ⟨M2, ?_, k2, a_fr_tr l3 k3, by rw [k4, l4]⟩
      have hw : e_w (i + 1) = i + 1 := a_w_id (by omega) (by omega)
      rw [E_V_eq]
      show e_tv E_C (E_V 5) e_t5_51 [170, x, y, i] M = _
      unfold e_t5_51
      simp [e_tv, e_ev, e_sv, e_op, e_b2, g0, g3, g12, g193, g66, v1, l1, hlt, hw, k1]
    · exact hend i M hM hlt
theorem c_addCell {x y : Int} {M : EM} (hM : a_M M) (hx : -2147483648 ≤ x ∧ x ≤ 2147483647) (hy : -2147483648 ≤ y ∧ y ≤ 2147483647) : ∃ M', E_C 5 [170, x, y] M = some (0, M') ∧ a_M M' ∧ a_fr a_w5 M M' ∧ M' 170 0 = e_w (M 170 0 + 1) := by
  have h1 : E_C 5 [170, x, y] M = e_tv E_C (E_V 5) e_t5_0 [170, x, y, 0] M := by
    unfold E_C
    rw [if_pos (show e_rok 5 [170, x, y] = true from decide_eq_true c_isB), E_V_eq]
    rfl
  have g0 : ∀ M, e_gf 0 [170] M = some (M 170 0) := fun M => c_gf c_isB (by decide +kernel)
  have g3 : ∀ M, e_gf 3 [170] M = some 9 := fun M => c_g 3 9 M (by decide +kernel)
  have g10 : ∀ M, e_gf 10 [170] M = some 173 := fun M => c_g 10 173 M (by decide +kernel)
  have g11 : ∀ M, e_gf 11 [170] M = some 174 := fun M => c_g 11 174 M (by decide +kernel)
  have g13 : ∀ M, e_gf 13 [170] M = some 176 := fun M => c_g 13 176 M (by decide +kernel)
  have g193 : ∀ M, e_gf 193 [9] M = some 18 := fun M => (c_gr c_b3 (by decide +kernel)).trans (congrArg some (by decide +kernel))
  have g67 : ∀ M, e_gf 67 [18] M = some 22 := fun M => (c_gr c_b1 (by decide +kernel)).trans (congrArg some (by decide +kernel))
  have hb : ∀ {M}, a_M M → -2147483648 ≤ M 170 0 ∧ M 170 0 ≤ 2147483647 := fun h => c_M32 h (by decide) (by decide +kernel)
  obtain ⟨r1, M1, l1, l2, l3, l4⟩ := c_lay (a := 174) (i := M 170 0) (v := x) (by decide) hM (hb hM) hx
  obtain ⟨r2, M2, m1, m2, m3, m4⟩ := c_lay (a := 173) (i := M1 170 0) (v := y) (by decide) l2 (hb l2) hy
  obtain ⟨v, v1, v2⟩ := c_at32 (i := x) m2 (a := 22) (by decide +kernel) (by decide) (by decide +kernel)
  obtain ⟨r3, M3, n1, n2, n3, n4⟩ := c_lay (a := 176) (i := M2 170 0) (v := v) (by decide) m2 (hb m2) v2
  obtain ⟨M4, k1, k2, k3, k4⟩ := c_add_loop (x := x) (y := y) 4 0 M3 n2 (by decide) (by decide) (by decide)
  refine ⟨M4, ?_, k2, a_fr_tr l3 (a_fr_tr m3 (a_fr_tr n3 k3)), by rw [k4, n4, m4, l4]⟩
  rw [h1]
  unfold e_t5_0
  simp [e_tv, e_ev, e_sv, g0, g3, g10, g11, g13, g193, g67, l1, m1, v1, n1, k1]
end
section
theorem c_sh5 {s : Int} {M M' : EM} (hs : s ∈ a_SH) (h : a_fr a_w5 M M') : M' s.toNat 5 = M s.toNat 5 := by
  have h2 : ∀ x ∈ a_SH, ∀ w ∈ a_w5, ¬ (w.1 = x.toNat ∧ w.2.1 ≤ 5 ∧ 5 ≤ w.2.2) := by decide +kernel
  exact h _ _ (h2 s hs)
theorem c_sh3 {s : Int} {M M' : EM} (hs : s ∈ a_SH) (h : a_fr a_w3 M M') : M' s.toNat 5 = M s.toNat 5 := by
  have h2 : ∀ x ∈ a_SH, ∀ w ∈ a_w3, ¬ (w.1 = x.toNat ∧ w.2.1 ≤ 5 ∧ 5 ≤ w.2.2) := by decide +kernel
  exact h _ _ (h2 s hs)
theorem c_spread_loop {s : Int} (hs : s ∈ a_SH) : ∀ (m : Nat) (i : Int) (M : EM), a_M M → (M s.toNat 5 - i).toNat ≤ m → 0 ≤ i → i ≤ M s.toNat 5 → M 170 0 = i → ∃ M', E_V 2 6 [170, s, i] M = some (0, M') ∧ a_M M' ∧ a_fr a_w5 M M' ∧ M' 170 0 = M s.toNat 5 := by
  obtain ⟨s1, s2, s3, s4⟩ := c_shelf hs
  have f5 : ∀ M, e_gf 517 [s] M = some (M s.toNat 5) := fun M => c_gf s1 (by decide +kernel)
  have f6 : ∀ M, e_gf 518 [s] M = some (e_gr s.toNat 6) := fun M => c_gr s1 (by decide +kernel)
  obtain ⟨-, e2, e3, -, -⟩ := c_el hs
  intro m
  induction m with
  | zero =>
    intro i M hM hm h0 h1 h2
    refine ⟨M, ?_, hM, a_fr_rf, by omega⟩
    have hlt : ¬ (i < M s.toNat 5) := by omega
    rw [E_V_eq]
    show e_tv E_C (E_V 2) e_t2_6 [170, s, i] M = _
    unfold e_t2_6
    simp [e_tv, e_ev, e_sv, e_op, e_b2, f5, hlt]
  | succ m ih =>
    intro i M hM hm h0 h1 h2
    have hz := c_size hs hM
    by_cases hlt : i < M s.toNat 5
    · obtain ⟨v, v1, v2⟩ := c_at32 (i := i) hM (a := e_gr s.toNat 6) ⟨s2, s3, by rw [s4]⟩ e3 e2
      obtain ⟨M1, l1, l2, l3, l4⟩ := c_addCell (x := v) (y := i) hM v2 ⟨by omega, by omega⟩
      have h5 := c_sh5 hs l3
      have hw : e_w (i + 1) = i + 1 := a_w_id (by omega) (by omega)
      obtain ⟨M2, k1, k2, k3, k4⟩ := ih (i + 1) M1 l2 (by omega) (by omega) (by omega) (by rw [l4, h2, hw])
      refine ⟨M2, ?_, k2, a_fr_tr l3 k3, by rw [k4, h5]⟩
      rw [E_V_eq]
      show e_tv E_C (E_V 2) e_t2_6 [170, s, i] M = _
      unfold e_t2_6
      simp [e_tv, e_ev, e_sv, e_op, e_b2, f5, f6, v1, l1, hlt, hw, k1]
    · refine ⟨M, ?_, hM, a_fr_rf, by omega⟩
      rw [E_V_eq]
      show e_tv E_C (E_V 2) e_t2_6 [170, s, i] M = _
      unfold e_t2_6
      simp [e_tv, e_ev, e_sv, e_op, e_b2, f5, hlt]
def a_w2 : AW := a_w3 ++ a_w5
theorem c_spread {s : Int} {M : EM} (hs : s ∈ a_SH) (hM : a_M M) : ∃ M', E_C 2 [170, s] M = some (0, M') ∧ a_M M' ∧ a_fr a_w2 M M' ∧ M' 170 0 = M s.toNat 5 := by
  have h1 : E_C 2 [170, s] M = e_tv E_C (E_V 2) e_t2_0 [170, s, 0] M := by
    unfold E_C
    rw [if_pos (show e_rok 2 [170, s] = true from decide_eq_true c_isB), E_V_eq]
    rfl
  obtain ⟨r, M1, l1, l2, l3, l4⟩ := c_clear hM
  have h3 := c_sh3 hs l3
  have hz := c_size hs hM
  obtain ⟨M2, k1, k2, k3, k4⟩ := c_spread_loop hs _ 0 M1 l2 (Nat.le_refl _) (by decide) (by omega) l4
  refine ⟨M2, ?_, k2, a_fr_tr (c_sub_l l3) (c_sub_r k3), by rw [k4, h3]⟩
  rw [h1]
  unfold e_t2_0
  simp [e_tv, e_ev, e_sv, l1, k1]
def a_w27 : AW := (170, 6, 6) :: (a_w270b ++ (a_w28 ++ (a_w22 ++ a_w11)))
theorem c_find_loop {all : Int} (ha : 0 ≤ all ∧ all ≤ 1000) : ∀ (m : Nat) (b r i : Int) (M : EM), a_M M → (all + 1 - i).toNat ≤ m → 0 ≤ i → i ≤ 1010 → (-2147483648 ≤ b ∧ b ≤ 2147483647) → (-2147483648 ≤ r ∧ r ≤ 2147483647) → a_OUT a_w27 a_T32 M (E_V 27 20 [170, b, r, all, i] M) := by
  have g1 : ∀ M, e_gf 1 [170] M = some (M 170 1) := fun M => c_gf c_isB (by decide +kernel)
  have g18 : ∀ M, e_gf 18 [170] M = some 181 := fun M => c_g 18 181 M (by decide +kernel)
  have p1 : ∀ v M, e_pf 1 [170, v] M = some (e_up M 170 1 v) := fun v M => c_pf c_isB (by decide +kernel)
  have p6 : ∀ v M, e_pf 6 [170, v] M = some (e_up M 170 6 v) := fun v M => c_pf c_isB (by decide +kernel)
  have hb : ∀ {M}, a_M M → -2147483648 ≤ M 170 1 ∧ M 170 1 ≤ 2147483647 := fun h => c_M32 h (by decide) (by decide +kernel)
  have hend : ∀ (b r i : Int) (M : EM), a_M M → ¬ (i ≤ all) → (-2147483648 ≤ b ∧ b ≤ 2147483647) → (-2147483648 ≤ r ∧ r ≤ 2147483647) → a_OUT a_w27 a_T32 M (E_V 27 20 [170, b, r, all, i] M) := by
    intro b r i M hM hlt hb hr
    obtain ⟨a1, b1⟩ := c_bup (W := a_w27) (M := M) (k := 1) (v := b) (by decide +kernel) hb hM
    refine ⟨r, _, ?_, a_T32_ok hr, a1, b1⟩
    rw [E_V_eq]
    show e_tv E_C (E_V 27) e_t27_20 [170, b, r, all, i] M = _
    unfold e_t27_20
    simp [e_tv, e_ev, e_sv, e_op, e_b2, p1, hlt]
  intro m
  induction m with
  | zero => intro b r i M hM hm h0 h4 hb hr; exact hend b r i M hM (by omega) hb hr
  | succ m ih =>
    intro b r i M hM hm h0 h4 hbb hr
    by_cases hlt : i ≤ all
    · have h73 : ∀ (b r : Int) (M : EM), E_V 27 73 [170, b, r, all, i] M = E_V 27 20 [170, b, r, all, i + 2] M := by
        intro b r M
        have hw : e_w (i + 2) = i + 2 := a_w_id (by omega) (by omega)
        rw [E_V_eq]
        show e_tv E_C (E_V 27) e_t27_73 [170, b, r, all, i] M = _
        unfold e_t27_73
        simp [e_tv, e_ev, e_sv, hw]
      obtain ⟨a1, b1⟩ := c_bup (W := a_w27) (M := M) (k := 6) (v := 0) (by decide +kernel) (by decide) hM
      obtain ⟨r1, M1, l1, -, l2, l3⟩ := a_entry a_c270b (as := [181, 0]) ⟨List.mem_cons_self, a_gi (by decide) (by decide), trivial⟩ a1
      obtain ⟨r2, M2, m1, -, m2, m3⟩ := a_entry a_c28 (as := [170, i]) ⟨List.mem_cons_self, a_gi (by omega) (by omega), trivial⟩ l2
      obtain ⟨r3, M3, n1, -, n2, n3⟩ := a_entry a_c28 (as := [170, e_w (all - i)]) ⟨List.mem_cons_self, a_gi (a_w _).1 (a_w _).2, trivial⟩ m2
      obtain ⟨r4, M4, o1, -, o2, o3⟩ := a_entry a_c22 (as := [170]) ⟨List.mem_cons_self, trivial⟩ n2
      have hf : a_fr a_w27 M M4 := a_fr_tr b1 (a_fr_tr (a_sub_fr (by decide +kernel) l3) (a_fr_tr (a_sub_fr (by decide +kernel) m3) (a_fr_tr (a_sub_fr (by decide +kernel) n3) (a_sub_fr (by decide +kernel) o3))))
      refine a_OUT_tr hf ?_
      by_cases hc : b < M4 170 1
      · have he : E_V 27 20 [170, b, r, all, i] M = E_V 27 20 [170, M4 170 1, i, all, i + 2] M4 := by
          rw [E_V_eq]
          show e_tv E_C (E_V 27) e_t27_20 [170, b, r, all, i] M = _
          unfold e_t27_20
          simp [e_tv, e_ev, e_sv, e_op, e_b2, g1, g18, p6, l1, m1, n1, o1, hc, hlt, h73]
        rw [he]
        exact ih _ _ _ M4 o2 (by omega) (by omega) (by omega) (hb o2) ⟨by omega, by omega⟩
      · have he : E_V 27 20 [170, b, r, all, i] M = E_V 27 20 [170, b, r, all, i + 2] M4 := by
          rw [E_V_eq]
          show e_tv E_C (E_V 27) e_t27_20 [170, b, r, all, i] M = _
          unfold e_t27_20
          simp [e_tv, e_ev, e_sv, e_op, e_b2, g1, g18, p6, l1, m1, n1, o1, hc, hlt, h73]
        rw [he]
        exact ih _ _ _ M4 o2 (by omega) (by omega) (by omega) hbb hr
    · exact hend b r i M hM hlt hbb hr
theorem c_shl {n : Int} (h : 2 ≤ n ∧ n ≤ 8) : 0 ≤ e_w (e_bit (fun x y => x <<< (y &&& 31)) 1 n - 1) ∧ e_w (e_bit (fun x y => x <<< (y &&& 31)) 1 n - 1) ≤ 1000 := by
  have h1 : ∀ k : Fin 9, 2 ≤ k.val → 0 ≤ e_w (e_bit (fun x y => x <<< (y &&& 31)) 1 (k.val : Int) - 1) ∧ e_w (e_bit (fun x y => x <<< (y &&& 31)) 1 (k.val : Int) - 1) ≤ 1000 := by decide +kernel
  have h2 := h1 ⟨n.toNat, by omega⟩ (show 2 ≤ n.toNat by omega)
  have h3 : ((⟨n.toNat, by omega⟩ : Fin 9).val : Int) = n := Int.toNat_of_nonneg (by omega)
  rw [h3] at h2
  exact h2
theorem c_find {M : EM} (hM : a_M M) (hn : 2 ≤ M 170 0 ∧ M 170 0 ≤ 8) : a_OUT a_w27 a_T32 M (E_C 27 [170] M) := by
  have h1 : E_C 27 [170] M = e_tv E_C (E_V 27) e_t27_0 [170, 0, 0, 0, 0] M := by
    unfold E_C
    rw [if_pos (show e_rok 27 [170] = true from decide_eq_true c_isB), E_V_eq]
    rfl
  have g0 : ∀ M, e_gf 0 [170] M = some (M 170 0) := fun M => c_gf c_isB (by decide +kernel)
  obtain ⟨r1, M1, l1, -, l2, l3⟩ := a_entry a_c11 (as := [170]) ⟨List.mem_cons_self, trivial⟩ hM
  have h0 : M1 170 0 = M 170 0 := l3 170 0 (by decide +kernel)
  refine a_OUT_tr (a_sub_fr (by decide +kernel) l3) ?_
  have hs := c_shl hn
  rw [← h0] at hs
  have he : E_C 27 [170] M = E_V 27 20 [170, -1, 0, e_w (e_bit (fun x y => x <<< (y &&& 31)) 1 (M1 170 0) - 1), 2] M1 := by
    rw [h1]
    unfold e_t27_0
    simp [e_tv, e_ev, e_sv, e_op, e_b2, g0, l1]
  rw [he]
  exact c_find_loop hs _ _ _ _ M1 l2 (Nat.le_refl _) (by decide) (by decide) (by decide) (by decide)
end
section
theorem c_refusal {s d : Int} {M : EM} (hs : s = -1 ∨ s ∈ a_SH) (hM : a_M M) (hd : -2147483648 ≤ d ∧ d ≤ 2147483647) : ∃ r, E_C 156 [s, d] M = some (r, M) ∧ -2147483648 ≤ r ∧ r ≤ 2147483647 := by
  obtain ⟨r, M', h1, h2, h3, h4⟩ := a_entry a_c156 (as := [s, d]) ⟨List.mem_cons.mpr hs, a_gi hd.1 hd.2, trivial⟩ hM
  have := c_same h4
  subst this
  have hr : a_rho 156 = a_i (-12) 0 := by rfl
  rw [hr] at h2
  have a1 : -12 ≤ r := h2.1
  have a2 : r ≤ 0 := h2.2.1
  exact ⟨r, h1, by omega, by omega⟩
theorem c_tells {s : Int} {M : EM} (hs : s ∈ a_SH) (hM : a_M M) : ∃ r, E_C 163 [8, s] M = some (r, M) ∧ (r ≠ 0 → 2 ≤ M s.toNat 5 ∧ M s.toNat 5 ≤ 8) := by
  obtain ⟨s1, s2, s3, s4⟩ := c_shelf hs
  have f5 : ∀ M, e_gf 517 [s] M = some (M s.toNat 5) := fun M => c_gf s1 (by decide +kernel)
  by_cases hc : 2 ≤ M s.toNat 5 ∧ M s.toNat 5 ≤ 8
  · obtain ⟨r, M', h1, h2, h3, h4⟩ := a_entry a_c163 (as := [8, s]) ⟨List.mem_cons_self, hs, trivial⟩ hM
    have := c_same h4
    subst this
    exact ⟨r, h1, fun _ => hc⟩
  · refine ⟨0, ?_, fun h => absurd rfl h⟩
    have h1 : E_C 163 [8, s] M = e_tv E_C (E_V 163) e_t163_0 [8, s, 0, 0] M := by
      unfold E_C
      rw [if_pos (show e_rok 163 [8, s] = true from decide_eq_true c_this), E_V_eq]
      rfl
    rw [h1]
    unfold e_t163_0
    by_cases q1 : 2 ≤ M s.toNat 5
    · have q2 : 8 < M s.toNat 5 := by omega
      simp [e_tv, e_ev, e_op, e_b2, f5, q1, q2]
    · simp [e_tv, e_ev, e_op, e_b2, f5, q1]
def a_w127 : AW := a_w2 ++ a_w27
theorem c_parting {d w : Int} {M : EM} (hM : a_M M) (hd : -2147483648 ≤ d ∧ d ≤ 2147483647) : a_OUT a_w127 a_T32 M (E_C 127 [8, d, w] M) := by
  have h1 : E_C 127 [8, d, w] M = e_tv E_C (E_V 127) e_t127_0 [8, d, w, 0, 0, 0] M := by
    unfold E_C
    rw [if_pos (show e_rok 127 [8, d, w] = true from decide_eq_true c_this), E_V_eq]
    rfl
  rw [h1]
  unfold e_t127_0
  obtain ⟨s, s1, s2⟩ := c_shelfAt hM hd
  by_cases q0 : w < 0
  · have q0' : ¬ (0 ≤ w) := by omega
    exact ⟨-1, M, by simp [e_tv, e_ev, e_sv, e_op, e_b1, e_b2, s1, q0, q0'], a_T32_ok (by decide), hM, a_fr_rf⟩
  · have q0' : 0 ≤ w := by omega
    by_cases q1 : 1 < w
    · exact ⟨-1, M, by simp [e_tv, e_ev, e_sv, e_op, e_b1, e_b2, s1, q0, q0', q1], a_T32_ok (by decide), hM, a_fr_rf⟩
    · obtain ⟨r, r1, r2⟩ := c_refusal (d := 0) s2 hM (by decide)
      by_cases q2 : r = 0
      · subst q2
        by_cases q3 : s = -1
        · subst q3
          exact ⟨0, M, by simp [e_tv, e_ev, e_sv, e_op, e_b1, e_b2, s1, q0, q0', q1, r1], a_T32_ok r2, hM, a_fr_rf⟩
        · have hs := s2.resolve_left q3
          obtain ⟨t, t1, t2⟩ := c_tells hs hM
          by_cases q4 : t = 0
          · subst q4
            exact ⟨-13, M, by simp [e_tv, e_ev, e_sv, e_op, e_b1, e_b2, s1, q0, q0', q1, r1, q3, t1], a_T32_ok (by decide), hM, a_fr_rf⟩
          · have hn := t2 q4
            obtain ⟨M1, l1, l2, l3, l4⟩ := c_spread hs hM
            obtain ⟨v, M2, m1, m2, m3, m4⟩ := c_find l2 (by rw [l4]; exact hn)
            have hf : a_fr a_w127 M M2 := a_fr_tr (c_sub_l l3) (c_sub_r m4)
            by_cases q5 : w = 0
            · subst q5
              have g1 : ∀ M, e_gf 1 [170] M = some (M 170 1) := fun M => c_gf c_isB (by decide +kernel)
              exact ⟨M2 170 1, M2, by simp [e_tv, e_ev, e_sv, e_op, e_b1, e_b2, s1, r1, q3, t1, q4, c_bench, l1, m1, g1], a_T32_ok (c_M32 m3 (by decide) (by decide +kernel)), m3, hf⟩
            · exact ⟨v, M2, by simp [e_tv, e_ev, e_sv, e_op, e_b1, e_b2, s1, q0, q0', q1, r1, q3, t1, q4, c_bench, l1, m1, q5], m2, m3, hf⟩
      · exact ⟨r, M, by simp [e_tv, e_ev, e_sv, e_op, e_b1, e_b2, s1, q0, q0', q1, r1, q2], a_T32_ok r2, hM, a_fr_rf⟩
end
section
/-! THE REFERENCE (object 192; 193 its row s, 195 the kept sorts, 196 kinds of elements, 197 sizes, 198 elements) -/
theorem r_ref : e_isO 12 192 := by decide +kernel
theorem r_g (k : Nat) (v : Int) (M : EM) (h : e_fty k = 2 ∧ k / 64 = 12 ∧ e_gr 192 (k % 64) = v) : e_gf k [192] M = some v := by
  obtain ⟨h1, h2, h3⟩ := h
  rw [c_gr (by rw [h2]; exact r_ref) h1]
  exact congrArg some h3
theorem r_st {a i v : Int} {n : Nat} {M : EM} (h8 : 8 ≤ a) (ha : a.toNat < e_N) (hs : e_sh a.toNat = (100, n)) (h0 : 0 ≤ i) (hi : i < n) : e_st 100 [a, i, v] M = some (e_up M a.toNat i.toNat v) := by
  refine if_pos ⟨h8, by omega, ha, by rw [hs], h0, ?_⟩
  unfold e_sz
  rw [if_neg (by omega), hs]
  show i.toNat < n
  omega
theorem r_ld {a i : Int} {n : Nat} {M : EM} (h8 : 8 ≤ a) (ha : a.toNat < e_N) (hs : e_sh a.toNat = (100, n)) (h0 : 0 ≤ i) (hi : i < n) : e_op 60 [a, i] M = some (M a.toNat i.toNat) := by
  have hin : e_in2 M 100 a i := by
    refine ⟨by omega, ha, by rw [hs], h0, ?_⟩
    unfold e_sz
    rw [if_neg (by omega), hs]
    show i.toNat < n
    omega
  simp only [e_op, if_pos]
  rw [if_pos hin]
theorem r_isIn (x lo hi : Int) (M : EM) : E_C 168 [x, lo, hi] M = some (if lo ≤ x ∧ x ≤ hi then 1 else 0, M) := by
  have h1 : E_C 168 [x, lo, hi] M = e_tv E_C (E_V 168) e_t168_0 [x, 0, lo, 0, hi, 0] M := by
    unfold E_C
    rw [if_pos (show e_rok 168 [x, lo, hi] = true from rfl), E_V_eq]
    rfl
  rw [h1]
  unfold e_t168_0
  by_cases q0 : lo ≤ x
  · by_cases q1 : x ≤ hi
    · simp [e_tv, e_ev, e_op, e_b2, q0, q1]
    · simp [e_tv, e_ev, e_op, e_b2, q0, q1]
  · simp [e_tv, e_ev, e_op, e_b2, q0]
theorem r_isShelf (d : Int) (M : EM) : E_C 173 [d] M = some (if 0 ≤ d ∧ d ≤ 7 then 1 else 0, M) := by
  have h1 : E_C 173 [d] M = e_tv E_C (E_V 173) e_t173_0 [d] M := by
    unfold E_C
    rw [if_pos (show e_rok 173 [d] = true from rfl), E_V_eq]
    rfl
  rw [h1]
  unfold e_t173_0
  simp [e_tv, e_ev, e_op, e_b1, r_isIn]
theorem r_up {M : EM} {a k : Nat} {v : Int} (h5 : a ≠ 5) (ho : a ≠ e_OUT) (hm : a_mi a = []) (hv : -2147483648 ≤ v ∧ v ≤ 2147483647) (hM : a_M M) : a_M (e_up M a k v) := by
  intro b j hb
  by_cases hc : b = a ∧ j = k
  · obtain ⟨rfl, rfl⟩ := hc
    rw [c_up_s]
    refine ⟨?_, ?_, fun s hs => ?_⟩
    · unfold a_lo; rw [if_neg ho]; exact hv.1
    · unfold a_hi; rw [if_neg ho]; exact hv.2
    · rw [hm] at hs; cases hs
  · rw [c_up_n hc]; exact hM b j hb
theorem r_row_loop {d k n : Int} (hd : 0 ≤ d ∧ d ≤ 7) : ∀ (m : Nat) (i : Int) (M : EM), a_M M → (120 - i).toNat ≤ m → 0 ≤ i → i ≤ 120 → ∃ M', E_V 259 58 [192, d, k, n, i] M = some (0, M') ∧ a_M M' ∧ a_fr [(198, 0, 959)] M M' := by
  have g5 : ∀ M, e_gf 773 [192] M = some 198 := fun M => r_g 773 198 M (by decide +kernel)
  intro m
  induction m with
  | zero =>
    intro i M hM hm h0 h1
    refine ⟨M, ?_, hM, a_fr_rf⟩
    have hlt : ¬ (i < 120) := by omega
    rw [E_V_eq]
    show e_tv E_C (E_V 259) e_t259_58 [192, d, k, n, i] M = _
    unfold e_t259_58
    simp [e_tv, e_ev, e_sv, e_op, e_b2, hlt]
  | succ m ih =>
    intro i M hM hm h0 h1
    by_cases hlt : i < 120
    · have w1 : e_w (120 * d) = 120 * d := a_w_id (by omega) (by omega)
      have w2 : e_w (120 * d + i) = 120 * d + i := a_w_id (by omega) (by omega)
      have w3 : e_w (i + 1) = i + 1 := a_w_id (by omega) (by omega)
      have st : e_st 100 [198, 120 * d + i, 0] M = some (e_up M 198 (120 * d + i).toNat 0) := r_st (n := 960) (by decide) (by decide +kernel) (by decide +kernel) (by omega) (by omega)
      obtain ⟨M', k1, k2, k3⟩ := ih (i + 1) _ (r_up (M := M) (a := 198) (k := (120 * d + i).toNat) (v := 0) (by decide) (by decide +kernel) (by decide +kernel) (by decide) hM) (by omega) (by omega) (by omega)
      refine ⟨M', ?_, k2, a_fr_tr (fun b j hw => ?_) k3⟩
      · rw [E_V_eq]
        show e_tv E_C (E_V 259) e_t259_58 [192, d, k, n, i] M = _
        unfold e_t259_58
        simp [e_tv, e_ev, e_sv, e_op, e_b2, g5, w1, w2, w3, hlt, st, k1]
      · refine c_up_n (fun hc => hw _ List.mem_cons_self ⟨hc.1.symm, Nat.zero_le _, ?_⟩)
        have := hc.2
        show j ≤ 959
        omega
    · refine ⟨M, ?_, hM, a_fr_rf⟩
      rw [E_V_eq]
      show e_tv E_C (E_V 259) e_t259_58 [192, d, k, n, i] M = _
      unfold e_t259_58
      simp [e_tv, e_ev, e_sv, e_op, e_b2, hlt]
def r_w259 : AW := [(195, 0, 7), (196, 0, 7), (197, 0, 7), (198, 0, 959)]
theorem r_row {d k n : Int} {M : EM} (hM : a_M M) (hn : n ≤ 2147483647) : ∃ M', E_C 259 [192, d, k, n] M = some (if 0 ≤ d ∧ d ≤ 7 ∧ 0 ≤ k ∧ k ≤ 2 ∧ n ≤ 120 then (if n < 0 then -14 else 0) else -1, M') ∧ a_M M' ∧ a_fr r_w259 M M' ∧ (∀ j, M' 197 j = M 197 j ∨ (0 ≤ M' 197 j ∧ M' 197 j ≤ 120)) := by
  have h1 : E_C 259 [192, d, k, n] M = e_tv E_C (E_V 259) e_t259_0 [192, d, k, n, 0] M := by
    unfold E_C
    rw [if_pos (show e_rok 259 [192, d, k, n] = true from decide_eq_true r_ref), E_V_eq]
    rfl
  have g2 : ∀ M, e_gf 770 [192] M = some 195 := fun M => r_g 770 195 M (by decide +kernel)
  have g3 : ∀ M, e_gf 771 [192] M = some 196 := fun M => r_g 771 196 M (by decide +kernel)
  have g4 : ∀ M, e_gf 772 [192] M = some 197 := fun M => r_g 772 197 M (by decide +kernel)
  rw [h1]
  unfold e_t259_0
  by_cases q0 : 0 ≤ d ∧ d ≤ 7
  · by_cases q1 : 0 ≤ k ∧ k ≤ 2
    · by_cases q2 : 120 < n
      · refine ⟨M, ?_, hM, a_fr_rf, fun j => Or.inl rfl⟩
        have q2' : ¬ (n ≤ 120) := by omega
        simp [e_tv, e_ev, e_sv, e_op, e_b1, e_b2, r_isShelf, r_isIn, q0, q1, q2, q2']
      · have q2' : n ≤ 120 := by omega
        by_cases q3 : n < 0
        · refine ⟨M, ?_, hM, a_fr_rf, fun j => Or.inl rfl⟩
          simp [e_tv, e_ev, e_sv, e_op, e_b1, e_b2, r_isShelf, r_isIn, q0, q1, q2', q3]
        · have s1 : ∀ M, e_st 100 [195, d, 2] M = some (e_up M 195 d.toNat 2) := fun M => r_st (n := 8) (by decide) (by decide +kernel) (by decide +kernel) (by omega) (by omega)
          have s2 : ∀ M, e_st 100 [196, d, k] M = some (e_up M 196 d.toNat k) := fun M => r_st (n := 8) (by decide) (by decide +kernel) (by decide +kernel) (by omega) (by omega)
          have s3 : ∀ M, e_st 100 [197, d, n] M = some (e_up M 197 d.toNat n) := fun M => r_st (n := 8) (by decide) (by decide +kernel) (by decide +kernel) (by omega) (by omega)
          have a1 := r_up (M := M) (a := 195) (k := d.toNat) (v := 2) (by decide) (by decide +kernel) (by decide +kernel) (by decide) hM
          have a2 := r_up (a := 196) (k := d.toNat) (v := k) (by decide) (by decide +kernel) (by decide +kernel) ⟨by omega, by omega⟩ a1
          have a3 := r_up (a := 197) (k := d.toNat) (v := n) (by decide) (by decide +kernel) (by decide +kernel) ⟨by omega, by omega⟩ a2
          obtain ⟨M', k1, k2, k3⟩ := r_row_loop (k := k) (n := n) q0 120 0 _ a3 (by decide) (by decide) (by decide)
          refine ⟨M', ?_, k2, a_fr_tr (fun b j hw => ?_) (a_sub_fr (by decide +kernel) k3), fun j => ?_⟩
          · simp [e_tv, e_ev, e_sv, e_op, e_b1, e_b2, r_isShelf, r_isIn, g2, g3, g4, s1, s2, s3, q0, q1, q2', q3, k1]
          · have hb : ∀ w ∈ r_w259, ¬ (w.1 = b ∧ w.2.1 ≤ j ∧ j ≤ w.2.2) := hw
            have hj : d.toNat ≤ 7 := by omega
            rw [c_up_n (fun hc => hb (197, 0, 7) (by decide) ⟨hc.1.symm, Nat.zero_le _, by rw [hc.2]; exact hj⟩), c_up_n (fun hc => hb (196, 0, 7) (by decide) ⟨hc.1.symm, Nat.zero_le _, by rw [hc.2]; exact hj⟩), c_up_n (fun hc => hb (195, 0, 7) (by decide) ⟨hc.1.symm, Nat.zero_le _, by rw [hc.2]; exact hj⟩)]
          · have h7 := k3 197 j (by intro w hw hc; cases List.mem_singleton.mp hw; exact absurd hc.1 (by decide))
            rw [h7]
            by_cases hj : j = d.toNat
            · rw [hj, c_up_s]; exact Or.inr ⟨by omega, by omega⟩
            · rw [c_up_n (fun hc => hj hc.2), c_up_n (fun hc => absurd hc.1 (by decide)), c_up_n (fun hc => absurd hc.1 (by decide))]; exact Or.inl rfl
    · refine ⟨M, ?_, hM, a_fr_rf, fun j => Or.inl rfl⟩
      have q1' : ¬ (0 ≤ d ∧ d ≤ 7 ∧ 0 ≤ k ∧ k ≤ 2 ∧ n ≤ 120) := by omega
      simp only [if_neg q1']
      simp [e_tv, e_ev, e_sv, e_op, e_b1, e_b2, r_isShelf, r_isIn, q0, q1]
  · refine ⟨M, ?_, hM, a_fr_rf, fun j => Or.inl rfl⟩
    have q1' : ¬ (0 ≤ d ∧ d ≤ 7 ∧ 0 ≤ k ∧ k ≤ 2 ∧ n ≤ 120) := by omega
    simp only [if_neg q1']
    simp [e_tv, e_ev, e_sv, e_op, e_b1, e_b2, r_isShelf, r_isIn, q0]
end
section
/-! the class's row answers as the reference's -/
theorem c_shelfAt_eq {d : Int} {M : EM} (hM : a_M M) (hd : -2147483648 ≤ d ∧ d ≤ 2147483647) : ∃ s, E_C 154 [8, d] M = some (s, M) ∧ (s = -1 ∨ s ∈ a_SH) ∧ (s = -1 ↔ ¬ (0 ≤ d ∧ d ≤ 7)) := by
  obtain ⟨s, s1, s2⟩ := c_shelfAt hM hd
  refine ⟨s, s1, s2, ?_⟩
  have h1 : E_C 154 [8, d] M = e_tv E_C (E_V 154) e_t154_0 [8, d] M := by
    unfold E_C
    rw [if_pos (show e_rok 154 [8, d] = true from decide_eq_true c_this), E_V_eq]
    rfl
  have g3 : ∀ M, e_gf 707 [8] M = some 145 := fun M => (c_gr c_this (by decide +kernel)).trans (congrArg some (by decide +kernel))
  have hz : e_sz M 145 = 8 := rfl
  have hlen : e_op 63 [145] M = some 8 := by
    simp only [e_op, if_pos]
    rw [if_pos (by decide +kernel)]
    rw [show (145 : Int).toNat = 145 from rfl, hz]
    rfl
  rw [h1] at s1
  unfold e_t154_0 at s1
  by_cases q0 : 0 ≤ d ∧ d ≤ 7
  · obtain ⟨q1, q2⟩ := q0
    have hld : e_op 62 [145, d] M = some (e_gr 145 d.toNat) := by
      simp only [e_op]
      rw [if_neg (by decide), if_neg (by decide)]
      simp only [if_pos]
      rw [if_pos ⟨by decide, by decide +kernel, by decide +kernel, q1, by rw [show (145 : Int).toNat = 145 from rfl, hz]; omega⟩]
      rfl
    have hlt : d < 8 := by omega
    have q1' : ¬ (d < 0) := by omega
    simp [e_tv, e_ev, e_b1, e_b2, g3, hlen, hld, x_o1, x_o2, q1, q1', hlt] at s1
    have h2 : ∀ k : Fin 8, e_gr 145 k.val ≠ -1 := by decide +kernel
    have h3 := h2 ⟨d.toNat, by omega⟩
    exact ⟨fun h => absurd (s1.trans h) h3, fun h => absurd ⟨q1, q2⟩ h⟩
  · refine ⟨fun _ => q0, fun _ => ?_⟩
    by_cases q1 : 0 ≤ d
    · have hlt : ¬ (d < 8) := by omega
      have q1' : ¬ (d < 0) := by omega
      simp [e_tv, e_ev, e_b1, e_b2, g3, hlen, x_o1, x_o2, q1, q1', hlt] at s1
      exact s1.symm
    · have q1' : d < 0 := by omega
      simp [e_tv, e_ev, e_b1, e_b2, g3, hlen, x_o1, x_o2, q1, q1'] at s1
      exact s1.symm
theorem c_row {d k n : Int} {M : EM} (hM : a_M M) (hd : -2147483648 ≤ d ∧ d ≤ 2147483647) (hk : -2147483648 ≤ k ∧ k ≤ 2147483647) (hn : -2147483648 ≤ n ∧ n ≤ 2147483647) : ∃ M', E_C 140 [8, d, k, n] M = some (if 0 ≤ d ∧ d ≤ 7 ∧ 0 ≤ k ∧ k ≤ 2 ∧ n ≤ 120 then (if n < 0 then -14 else 0) else -1, M') ∧ a_M M' ∧ a_fr a_w140 M M' := by
  obtain ⟨r, M', t1, -, t3, t4⟩ := a_entry a_c140 (as := [8, d, k, n]) ⟨List.mem_cons_self, a_gi hd.1 hd.2, a_gi hk.1 hk.2, a_gi hn.1 hn.2, trivial⟩ hM
  refine ⟨M', ?_, t3, t4⟩
  rw [t1]
  suffices h : r = (if 0 ≤ d ∧ d ≤ 7 ∧ 0 ≤ k ∧ k ≤ 2 ∧ n ≤ 120 then (if n < 0 then -14 else 0) else -1) by rw [h]
  have h1 : E_C 140 [8, d, k, n] M = e_tv E_C (E_V 140) e_t140_0 [8, d, k, n, 0] M := by
    unfold E_C
    rw [if_pos (show e_rok 140 [8, d, k, n] = true from decide_eq_true c_this), E_V_eq]
    rfl
  rw [h1] at t1
  unfold e_t140_0 at t1
  obtain ⟨s, s1, s2, s3⟩ := c_shelfAt_eq hM hd
  by_cases q0 : s = -1
  · have hc : ¬ (0 ≤ d ∧ d ≤ 7 ∧ 0 ≤ k ∧ k ≤ 2 ∧ n ≤ 120) := fun h => s3.mp q0 ⟨h.1, h.2.1⟩
    rw [if_neg hc]
    simp [e_tv, e_ev, e_sv, e_op, e_b1, e_b2, s1, q0] at t1
    exact t1.1.symm
  · have hdd : 0 ≤ d ∧ d ≤ 7 := Decidable.not_not.mp (fun h => q0 (s3.mpr h))
    by_cases q1 : 0 ≤ k
    · have q1' : ¬ (k < 0) := by omega
      by_cases q2 : k ≤ 2
      · have q2' : ¬ (2 < k) := by omega
        by_cases q3 : 120 < n
        · rw [if_neg (by omega)]
          simp [e_tv, e_ev, e_sv, e_op, e_b1, e_b2, s1, q0, q1, q1', q2, q2', q3] at t1
          exact t1.1.symm
        · have q3' : n ≤ 120 := by omega
          rw [if_pos ⟨hdd.1, hdd.2, q1, q2, q3'⟩]
          by_cases q4 : n < 0
          · rw [if_pos q4]
            have q4' : ¬ (0 ≤ n) := by omega
            simp [e_tv, e_ev, e_sv, e_op, e_b1, e_b2, s1, q0, q1, q1', q2, q2', q3, q3', q4, q4'] at t1
            exact t1.1.symm
          · rw [if_neg q4]
            have q4' : 0 ≤ n := by omega
            cases hq : E_C 87 [s, k, n] M with
            | none => simp [e_tv, e_ev, e_sv, e_op, e_b1, e_b2, s1, q0, q1, q1', q2, q2', q3, q3', q4, q4', hq] at t1
            | some z =>
              simp [e_tv, e_ev, e_sv, e_op, e_b1, e_b2, s1, q0, q1, q1', q2, q2', q3, q3', q4, q4', hq] at t1
              exact t1.1.symm
      · have q2' : 2 < k := by omega
        rw [if_neg (by omega)]
        simp [e_tv, e_ev, e_sv, e_op, e_b1, e_b2, s1, q0, q1, q1', q2, q2'] at t1
        exact t1.1.symm
    · have q1' : k < 0 := by omega
      rw [if_neg (by omega)]
      simp [e_tv, e_ev, e_sv, e_op, e_b1, e_b2, s1, q0, q1, q1'] at t1
      exact t1.1.symm
end
section
/-! small methods of the reference: each comes to an end -/
/-- what is known of the reference's rows -/
def r_I (M : EM) : Prop := ∀ j, j < 8 → 0 ≤ M 197 j ∧ M 197 j ≤ 120
theorem r_isD (d : Int) (M : EM) (h : 0 ≤ d ∧ d ≤ 7) : e_op 60 [195, d] M = some (M 195 d.toNat) ∧ e_op 60 [196, d] M = some (M 196 d.toNat) ∧ e_op 60 [197, d] M = some (M 197 d.toNat) ∧ e_op 60 [199, d] M = some (M 199 d.toNat) ∧ e_op 60 [200, d] M = some (M 200 d.toNat) ∧ e_op 60 [201, d] M = some (M 201 d.toNat) := by
  refine ⟨?_, ?_, ?_, ?_, ?_, ?_⟩ <;> exact r_ld (n := 8) (by decide) (by decide +kernel) (by decide +kernel) (by omega) (by omega)
theorem r_wrongRow (d w : Int) (M : EM) : ∃ r, E_C 189 [192, d, w] M = some (r, M) ∧ (-12 ≤ r ∧ r ≤ 0) ∧ (r = 0 → 0 ≤ d ∧ d ≤ 7) := by
  have h1 : E_C 189 [192, d, w] M = e_tv E_C (E_V 189) e_t189_0 [192, d, w] M := by
    unfold E_C
    rw [if_pos (show e_rok 189 [192, d, w] = true from decide_eq_true r_ref), E_V_eq]
    rfl
  have g2 : ∀ M, e_gf 770 [192] M = some 195 := fun M => r_g 770 195 M (by decide +kernel)
  have g3 : ∀ M, e_gf 771 [192] M = some 196 := fun M => r_g 771 196 M (by decide +kernel)
  rw [h1]
  unfold e_t189_0
  by_cases q0 : 0 ≤ d ∧ d ≤ 7
  · obtain ⟨l1, l2, -, -, -, -⟩ := r_isD d M q0
    by_cases q1 : M 195 d.toNat = 0
    · exact ⟨-11, by simp [e_tv, e_ev, e_b1, e_b2, x_o1, x_o2, r_isShelf, g2, g3, l1, l2, q0, q1], by decide, fun h => q0⟩
    · by_cases q2 : M 195 d.toNat = 2
      · by_cases q3 : 0 ≤ w
        · have q3' : ¬ (w < 0) := by omega
          by_cases q4 : M 196 d.toNat = w
          · exact ⟨0, by simp [e_tv, e_ev, e_b1, e_b2, x_o1, x_o2, r_isShelf, g2, g3, l1, l2, q0, q2, q3, q3', q4], by decide, fun h => q0⟩
          · exact ⟨-12, by simp [e_tv, e_ev, e_b1, e_b2, x_o1, x_o2, r_isShelf, g2, g3, l1, l2, q0, q2, q3, q3', q4], by decide, fun h => q0⟩
        · have q3' : w < 0 := by omega
          exact ⟨0, by simp [e_tv, e_ev, e_b1, e_b2, x_o1, x_o2, r_isShelf, g2, g3, l1, l2, q0, q2, q3, q3'], by decide, fun h => q0⟩
      · exact ⟨-12, by simp [e_tv, e_ev, e_b1, e_b2, x_o1, x_o2, r_isShelf, g2, g3, l1, l2, q0, q1, q2], by decide, fun h => q0⟩
  · exact ⟨-1, by simp [e_tv, e_ev, e_b1, e_b2, x_o1, x_o2, r_isShelf, g2, g3, q0], by decide, fun h => absurd h (by decide)⟩
theorem r_wrongKept (d : Int) (M : EM) : ∃ r, E_C 263 [192, d] M = some (r, M) ∧ (-12 ≤ r ∧ r ≤ 0) ∧ (r = 0 → 0 ≤ d ∧ d ≤ 7) := by
  have h1 : E_C 263 [192, d] M = e_tv E_C (E_V 263) e_t263_0 [192, d] M := by
    unfold E_C
    rw [if_pos (show e_rok 263 [192, d] = true from decide_eq_true r_ref), E_V_eq]
    rfl
  have g2 : ∀ M, e_gf 770 [192] M = some 195 := fun M => r_g 770 195 M (by decide +kernel)
  rw [h1]
  unfold e_t263_0
  by_cases q0 : 0 ≤ d ∧ d ≤ 7
  · obtain ⟨l1, -, -, -, -, -⟩ := r_isD d M q0
    by_cases q1 : M 195 d.toNat = 0
    · exact ⟨-11, by simp [e_tv, e_ev, e_b1, e_b2, x_o1, x_o2, r_isShelf, g2, l1, q0, q1], by decide, fun h => q0⟩
    · by_cases q2 : M 195 d.toNat = 1
      · exact ⟨0, by simp [e_tv, e_ev, e_b1, e_b2, x_o1, x_o2, r_isShelf, g2, l1, q0, q2], by decide, fun h => q0⟩
      · exact ⟨-12, by simp [e_tv, e_ev, e_b1, e_b2, x_o1, x_o2, r_isShelf, g2, l1, q0, q1, q2], by decide, fun h => q0⟩
  · exact ⟨-1, by simp [e_tv, e_ev, e_b1, e_b2, x_o1, x_o2, r_isShelf, g2, q0], by decide, fun h => absurd h (by decide)⟩
theorem r_weight (d : Int) (M : EM) : ∃ r, E_C 264 [192, d] M = some (r, M) := by
  have h1 : E_C 264 [192, d] M = e_tv E_C (E_V 264) e_t264_0 [192, d, 0] M := by
    unfold E_C
    rw [if_pos (show e_rok 264 [192, d] = true from decide_eq_true r_ref), E_V_eq]
    rfl
  have g7 : ∀ M, e_gf 775 [192] M = some 200 := fun M => r_g 775 200 M (by decide +kernel)
  rw [h1]
  unfold e_t264_0
  obtain ⟨r, r1, -, r3⟩ := r_wrongKept d M
  by_cases q0 : r = 0
  · obtain ⟨-, -, -, -, l, -⟩ := r_isD d M (r3 q0)
    exact ⟨_, by simp [e_tv, e_ev, e_sv, e_b1, e_b2, x_o1, x_o2, r1, q0, g7, l]; rfl⟩
  · exact ⟨r, by simp [e_tv, e_ev, e_sv, e_b1, e_b2, x_o1, x_o2, r1, q0]⟩
theorem r_toss (d : Int) (M : EM) : ∃ r, E_C 265 [192, d] M = some (r, M) := by
  have h1 : E_C 265 [192, d] M = e_tv E_C (E_V 265) e_t265_0 [192, d, 0] M := by
    unfold E_C
    rw [if_pos (show e_rok 265 [192, d] = true from decide_eq_true r_ref), E_V_eq]
    rfl
  have g6 : ∀ M, e_gf 774 [192] M = some 199 := fun M => r_g 774 199 M (by decide +kernel)
  have g8 : ∀ M, e_gf 776 [192] M = some 201 := fun M => r_g 776 201 M (by decide +kernel)
  rw [h1]
  unfold e_t265_0
  obtain ⟨r, r1, -, r3⟩ := r_wrongKept d M
  by_cases q0 : r = 0
  · obtain ⟨-, -, -, l1, -, l2⟩ := r_isD d M (r3 q0)
    by_cases q2 : M 201 d.toNat = 0
    · by_cases q1 : M 199 d.toNat = 3
      · exact ⟨_, by simp [e_tv, e_ev, e_sv, e_b1, e_b2, x_o1, x_o2, r1, q0, g6, g8, l1, l2, q1, q2]; rfl⟩
      · by_cases q3 : M 199 d.toNat = 2
        · exact ⟨_, by simp [e_tv, e_ev, e_sv, e_b1, e_b2, x_o1, x_o2, r1, q0, g6, g8, l1, l2, q3, q2]; rfl⟩
        · exact ⟨_, by simp [e_tv, e_ev, e_sv, e_b1, e_b2, x_o1, x_o2, r1, q0, g6, g8, l1, l2, q1, q3, q2]; rfl⟩
    · by_cases q1 : M 199 d.toNat = 3
      · exact ⟨_, by simp [e_tv, e_ev, e_sv, e_b1, e_b2, x_o1, x_o2, r1, q0, g6, g8, l1, l2, q1, q2]; rfl⟩
      · by_cases q3 : M 199 d.toNat = 2
        · exact ⟨_, by simp [e_tv, e_ev, e_sv, e_b1, e_b2, x_o1, x_o2, r1, q0, g6, g8, l1, l2, q3, q2]; rfl⟩
        · exact ⟨_, by simp [e_tv, e_ev, e_sv, e_b1, e_b2, x_o1, x_o2, r1, q0, g6, g8, l1, l2, q1, q3, q2]; rfl⟩
  · exact ⟨r, by simp [e_tv, e_ev, e_sv, e_b1, e_b2, x_o1, x_o2, r1, q0]⟩
end
section
theorem r_put {d i v : Int} {M : EM} (hM : a_M M) (hI : r_I M) (hv : -2147483648 ≤ v ∧ v ≤ 2147483647) : ∃ r M', E_C 260 [192, d, i, v] M = some (r, M') ∧ a_M M' ∧ a_fr [(198, 0, 959)] M M' := by
  have h1 : E_C 260 [192, d, i, v] M = e_tv E_C (E_V 260) e_t260_0 [192, d, i, v, 0] M := by
    unfold E_C
    rw [if_pos (show e_rok 260 [192, d, i, v] = true from decide_eq_true r_ref), E_V_eq]
    rfl
  have g3 : ∀ M, e_gf 771 [192] M = some 196 := fun M => r_g 771 196 M (by decide +kernel)
  have g4 : ∀ M, e_gf 772 [192] M = some 197 := fun M => r_g 772 197 M (by decide +kernel)
  have g5 : ∀ M, e_gf 773 [192] M = some 198 := fun M => r_g 773 198 M (by decide +kernel)
  have b1 : ∀ a, e_b1 1 a = some a := fun _ => rfl
  have b22 : ∀ a, e_b1 22 a = some a := fun _ => rfl
  have b46 : ∀ a, e_b1 46 a = some (if a = 0 then 1 else 0) := fun _ => rfl
  have b47 : ∀ a, e_b1 47 a = some (if a ≠ 0 then 1 else 0) := fun _ => rfl
  obtain ⟨x1, b24, y1⟩ : ∃ x, e_b1 24 v = some x ∧ (-2147483648 ≤ x ∧ x ≤ 2147483647) := ⟨_, rfl, by omega, by omega⟩
  obtain ⟨x2, b25, y2⟩ : ∃ x, e_b1 25 v = some x ∧ (-2147483648 ≤ x ∧ x ≤ 2147483647) := ⟨_, rfl, by omega, by omega⟩
  rw [h1]
  unfold e_t260_0
  obtain ⟨r, r1, -, r3⟩ := r_wrongRow d (-1) M
  by_cases q0 : r = 0
  · have hd := r3 q0
    obtain ⟨-, l2, l3, -, -, -⟩ := r_isD d M hd
    have hz := hI d.toNat (by omega)
    have w0 : e_w (M 197 d.toNat - 1) = M 197 d.toNat - 1 := a_w_id (by omega) (by omega)
    by_cases q1 : 0 ≤ i ∧ i ≤ M 197 d.toNat - 1
    · have w1 : e_w (120 * d) = 120 * d := a_w_id (by omega) (by omega)
      have w2 : e_w (120 * d + i) = 120 * d + i := a_w_id (by omega) (by omega)
      have st : ∀ v M, e_st 100 [198, 120 * d + i, v] M = some (e_up M 198 (120 * d + i).toNat v) := fun v M => r_st (n := 960) (by decide) (by decide +kernel) (by decide +kernel) (by omega) (by omega)
      have hup : ∀ {x : Int}, (-2147483648 ≤ x ∧ x ≤ 2147483647) → a_M (e_up M 198 (120 * d + i).toNat x) ∧ a_fr [(198, 0, 959)] M (e_up M 198 (120 * d + i).toNat x) := by
        intro x hx
        refine ⟨r_up (by decide) (by decide +kernel) (by decide +kernel) hx hM, fun b j hw => c_up_n (fun hc => hw _ List.mem_cons_self ⟨hc.1.symm, Nat.zero_le _, ?_⟩)⟩
        have := hc.2
        show j ≤ 959
        omega
      by_cases q2 : M 196 d.toNat = 0
      · have hb := hup (x := x1) y1
        exact ⟨0, e_up M 198 (120 * d + i).toNat x1, by simp [e_tv, e_ev, e_sv, b1, b22, b46, b47, b24, b25, e_b2, x_o1, x_o2, r_isIn, r1, q0, g3, g4, g5, l2, l3, w0, w1, w2, q1, q2, st], hb.1, hb.2⟩
      · by_cases q3 : M 196 d.toNat = 1
        · have hb := hup (x := x2) y2
          exact ⟨0, e_up M 198 (120 * d + i).toNat x2, by simp [e_tv, e_ev, e_sv, b1, b22, b46, b47, b24, b25, e_b2, x_o1, x_o2, r_isIn, r1, q0, g3, g4, g5, l2, l3, w0, w1, w2, q1, q3, st], hb.1, hb.2⟩
        · have hb := hup (x := v) hv
          exact ⟨0, e_up M 198 (120 * d + i).toNat v, by simp [e_tv, e_ev, e_sv, b1, b22, b46, b47, b24, b25, e_b2, x_o1, x_o2, r_isIn, r1, q0, g3, g4, g5, l2, l3, w0, w1, w2, q1, q2, q3, st], hb.1, hb.2⟩
    · exact ⟨-13, M, by simp [e_tv, e_ev, e_sv, b1, b22, b46, b47, b24, b25, e_b2, x_o1, x_o2, r_isIn, r1, q0, g3, g4, g5, l2, l3, w0, q1], hM, a_fr_rf⟩
  · exact ⟨r, M, by simp [e_tv, e_ev, e_sv, b1, b22, b46, b47, b24, b25, e_b2, x_o1, x_o2, r1, q0], hM, a_fr_rf⟩
end
section
theorem r_element {d i : Int} {M : EM} (hM : a_M M) (hI : r_I M) : ∃ r M', E_C 261 [192, d, i] M = some (r, M') ∧ (-2147483648 ≤ r ∧ r ≤ 2147483647) ∧ a_M M' ∧ a_fr [(192, 10, 10)] M M' := by
  have h1 : E_C 261 [192, d, i] M = e_tv E_C (E_V 261) e_t261_0 [192, d, i] M := by
    unfold E_C
    rw [if_pos (show e_rok 261 [192, d, i] = true from decide_eq_true r_ref), E_V_eq]
    rfl
  have g2 : ∀ M, e_gf 770 [192] M = some 195 := fun M => r_g 770 195 M (by decide +kernel)
  have g4 : ∀ M, e_gf 772 [192] M = some 197 := fun M => r_g 772 197 M (by decide +kernel)
  have g5 : ∀ M, e_gf 773 [192] M = some 198 := fun M => r_g 773 198 M (by decide +kernel)
  have g10 : ∀ M, e_gf 778 [192] M = some (M 192 10) := fun M => c_gf r_ref (by decide +kernel)
  have p10 : ∀ v M, e_pf 778 [192, v] M = some (e_up M 192 10 v) := fun v M => c_pf r_ref (by decide +kernel)
  have b1 : ∀ a, e_b1 1 a = some a := fun _ => rfl
  have b22 : ∀ a, e_b1 22 a = some a := fun _ => rfl
  have b46 : ∀ a, e_b1 46 a = some (if a = 0 then 1 else 0) := fun _ => rfl
  have hup : ∀ {x : Int}, (-2147483648 ≤ x ∧ x ≤ 2147483647) → a_M (e_up M 192 10 x) ∧ a_fr [(192, 10, 10)] M (e_up M 192 10 x) := by
    intro x hx
    refine ⟨r_up (by decide) (by decide +kernel) (by decide +kernel) hx hM, fun b j hw => c_up_n (fun hc => hw _ List.mem_cons_self ⟨hc.1.symm, ?_, ?_⟩)⟩
    · rw [hc.2]; exact Nat.le_refl _
    · rw [hc.2]; exact Nat.le_refl _
  rw [h1]
  unfold e_t261_0
  have u1 : ∀ v, e_up M 192 10 v 192 10 = v := fun v => c_up_s
  by_cases q0 : 0 ≤ d ∧ d ≤ 7
  · obtain ⟨l1, -, l3, -, -, -⟩ := r_isD d M q0
    have hz := hI d.toNat (by omega)
    have w0 : e_w (M 197 d.toNat - 1) = M 197 d.toNat - 1 := a_w_id (by omega) (by omega)
    by_cases q1 : M 195 d.toNat = 2
    · by_cases q2 : 0 ≤ i ∧ i ≤ M 197 d.toNat - 1
      · have w1 : e_w (120 * d) = 120 * d := a_w_id (by omega) (by omega)
        have w2 : e_w (120 * d + i) = 120 * d + i := a_w_id (by omega) (by omega)
        have hb := hup (x := 0) (by decide)
        have ld : e_op 60 [198, 120 * d + i] (e_up M 192 10 0) = some (e_up M 192 10 0 198 (120 * d + i).toNat) := r_ld (n := 960) (by decide) (by decide +kernel) (by decide +kernel) (by omega) (by omega)
        have hr := c_M32 (id := 198) (k := (120 * d + i).toNat) hb.1 (by decide) (by decide +kernel)
        generalize hg : e_up M 192 10 0 198 (120 * d + i).toNat = x at ld hr
        exact ⟨x, e_up M 192 10 0, by simp [e_tv, e_ev, e_sv, b1, b22, b46, e_b2, x_o1, x_o2, r_isShelf, r_isIn, q0, g2, g4, g5, g10, p10, l1, l3, w0, w1, w2, q1, q2, u1, ld], hr, hb.1, hb.2⟩
      · have hb := hup (x := 2) (by decide)
        exact ⟨0, e_up M 192 10 2, by simp [e_tv, e_ev, e_sv, b1, b22, b46, e_b2, x_o1, x_o2, r_isShelf, r_isIn, q0, g2, g4, g5, g10, p10, l1, l3, w0, q1, q2, u1], by decide, hb.1, hb.2⟩
    · have hb := hup (x := 2) (by decide)
      exact ⟨0, e_up M 192 10 2, by simp [e_tv, e_ev, e_sv, b1, b22, b46, e_b2, x_o1, x_o2, r_isShelf, r_isIn, q0, g2, g4, g5, g10, p10, l1, l3, w0, q1, u1], by decide, hb.1, hb.2⟩
  · have hb := hup (x := 1) (by decide)
    exact ⟨0, e_up M 192 10 1, by simp [e_tv, e_ev, e_sv, b1, b22, b46, e_b2, x_o1, x_o2, r_isShelf, r_isIn, q0, g2, g4, g5, g10, p10, u1], by decide, hb.1, hb.2⟩
end
section
/-! image, restore of the reference: exactly -/
def r_cp (M : EM) (s t i : Nat) : EM := fun b j => if b = t ∧ i ≤ j ∧ j < 1330 then M s j else M b j
theorem r_cp_end (M : EM) (s t i : Nat) (h : 1330 ≤ i) : r_cp M s t i = M := by
  funext b j
  exact if_neg (fun hc => by have := hc.2.1; have := hc.2.2; omega)
theorem r_cp_step (M : EM) (s t i : Nat) (h : i < 1330) (hst : s ≠ t) : r_cp (e_up M t i (M s i)) s t (i + 1) = r_cp M s t i := by
  funext b j
  unfold r_cp
  by_cases hb : b = t
  · subst hb
    by_cases h1 : i + 1 ≤ j ∧ j < 1330
    · rw [if_pos ⟨rfl, h1⟩, if_pos ⟨rfl, by omega, h1.2⟩, c_up_n (fun hc => hst hc.1)]
    · rw [if_neg (fun hc => h1 hc.2)]
      by_cases h2 : j = i
      · subst h2
        rw [c_up_s, if_pos ⟨rfl, Nat.le_refl _, h⟩]
      · rw [c_up_n (fun hc => h2 hc.2), if_neg (fun hc => by have := hc.2.1; have := hc.2.2; omega)]
  · rw [if_neg (fun hc => hb hc.1), if_neg (fun hc => hb hc.1), c_up_n (fun hc => hb hc.1)]
theorem r_image_loop : ∀ (m : Nat) (i : Nat) (M : EM), 1330 - i ≤ m → i ≤ 1330 → E_V 255 2 [192, (i : Int)] M = some (M 193 1198, e_up (r_cp M 193 194 i) 192 9 1) := by
  have g0 : ∀ M, e_gf 768 [192] M = some 193 := fun M => r_g 768 193 M (by decide +kernel)
  have g1 : ∀ M, e_gf 769 [192] M = some 194 := fun M => r_g 769 194 M (by decide +kernel)
  have p9 : ∀ v M, e_pf 777 [192, v] M = some (e_up M 192 9 v) := fun v M => c_pf r_ref (by decide +kernel)
  have l0 : ∀ M, e_op 60 [193, 1198] M = some (M 193 1198) := fun M => r_ld (n := 1330) (by decide) (by decide +kernel) (by decide +kernel) (by decide) (by decide)
  have hend : ∀ (i : Nat) (M : EM), ¬ (i < 1330) → E_V 255 2 [192, (i : Int)] M = some (M 193 1198, e_up (r_cp M 193 194 i) 192 9 1) := by
    intro i M hlt
    have hlt' : ¬ ((i : Int) < 1330) := by omega
    have l1 : e_op 60 [193, 1198] (e_up M 192 9 1) = some (M 193 1198) := (l0 _).trans (congrArg some (c_up_n (by decide)))
    rw [r_cp_end M 193 194 i (by omega), E_V_eq]
    show e_tv E_C (E_V 255) e_t255_2 [192, (i : Int)] M = _
    unfold e_t255_2
    simp [e_tv, e_ev, e_sv, e_b2, x_o2, g0, p9, hlt', l1]
  intro m
  induction m with
  | zero => intro i M hm h1; exact hend i M (by omega)
  | succ m ih =>
    intro i M hm h1
    by_cases hlt : i < 1330
    · have hlt' : (i : Int) < 1330 := by omega
      have w1 : e_w ((i : Int) + 1) = ((i + 1 : Nat) : Int) := by rw [a_w_id (by omega) (by omega)]; omega
      have ld : e_op 60 [193, (i : Int)] M = some (M 193 i) := r_ld (n := 1330) (by decide) (by decide +kernel) (by decide +kernel) (by omega) (by omega)
      have st : e_st 100 [194, (i : Int), M 193 i] M = some (e_up M 194 i (M 193 i)) := r_st (n := 1330) (by decide) (by decide +kernel) (by decide +kernel) (by omega) (by omega)
      have hrec := ih (i + 1) (e_up M 194 i (M 193 i)) (by omega) (by omega)
      rw [r_cp_step M 193 194 i hlt (by decide), c_up_n (fun hc => absurd hc.1 (by decide))] at hrec
      rw [← hrec, E_V_eq]
      show e_tv E_C (E_V 255) e_t255_2 [192, (i : Int)] M = _
      unfold e_t255_2
      simp only [e_tv, e_ev, e_sv]
      simp [e_b2, x_o2, g0, g1, hlt', ld, st, w1]
    · exact hend i M hlt
end
section
theorem r_restore_loop : ∀ (m : Nat) (i : Nat) (M : EM), 1330 - i ≤ m → i ≤ 1330 → E_V 256 12 [192, (i : Int)] M = some (r_cp M 194 193 i 193 1198, r_cp M 194 193 i) := by
  have g0 : ∀ M, e_gf 768 [192] M = some 193 := fun M => r_g 768 193 M (by decide +kernel)
  have g1 : ∀ M, e_gf 769 [192] M = some 194 := fun M => r_g 769 194 M (by decide +kernel)
  have l0 : ∀ M, e_op 60 [193, 1198] M = some (M 193 1198) := fun M => r_ld (n := 1330) (by decide) (by decide +kernel) (by decide +kernel) (by decide) (by decide)
  have hend : ∀ (i : Nat) (M : EM), ¬ (i < 1330) → E_V 256 12 [192, (i : Int)] M = some (r_cp M 194 193 i 193 1198, r_cp M 194 193 i) := by
    intro i M hlt
    have hlt' : ¬ ((i : Int) < 1330) := by omega
    rw [r_cp_end M 194 193 i (by omega), E_V_eq]
    show e_tv E_C (E_V 256) e_t256_12 [192, (i : Int)] M = _
    unfold e_t256_12
    simp [e_tv, e_ev, e_sv, e_b2, x_o2, g0, hlt', l0]
  intro m
  induction m with
  | zero => intro i M hm h1; exact hend i M (by omega)
  | succ m ih =>
    intro i M hm h1
    by_cases hlt : i < 1330
    · have hlt' : (i : Int) < 1330 := by omega
      have w1 : e_w ((i : Int) + 1) = ((i + 1 : Nat) : Int) := by rw [a_w_id (by omega) (by omega)]; omega
      have ld : e_op 60 [194, (i : Int)] M = some (M 194 i) := r_ld (n := 1330) (by decide) (by decide +kernel) (by decide +kernel) (by omega) (by omega)
      have st : e_st 100 [193, (i : Int), M 194 i] M = some (e_up M 193 i (M 194 i)) := r_st (n := 1330) (by decide) (by decide +kernel) (by decide +kernel) (by omega) (by omega)
      have hrec := ih (i + 1) (e_up M 193 i (M 194 i)) (by omega) (by omega)
      rw [r_cp_step M 194 193 i hlt (by decide)] at hrec
      rw [← hrec, E_V_eq]
      show e_tv E_C (E_V 256) e_t256_12 [192, (i : Int)] M = _
      unfold e_t256_12
      simp only [e_tv, e_ev, e_sv]
      simp [e_b2, x_o2, g0, g1, hlt', ld, st, w1]
    · exact hend i M hlt
theorem r_image (M : EM) : E_C 255 [192] M = some (M 193 1198, e_up (r_cp M 193 194 0) 192 9 1) := by
  have h1 : E_C 255 [192] M = e_tv E_C (E_V 255) e_t255_0 [192, 0] M := by
    unfold E_C
    rw [if_pos (show e_rok 255 [192] = true from decide_eq_true r_ref), E_V_eq]
    rfl
  have h2 := r_image_loop 1330 0 M (by decide) (by decide)
  rw [h1]
  unfold e_t255_0
  simp only [e_tv, e_ev, e_sv]
  simpa using h2
theorem r_restore (M : EM) : E_C 256 [192] M = (if M 192 9 = 0 then some (-3, M) else some (r_cp M 194 193 0 193 1198, r_cp M 194 193 0)) := by
  have h1 : E_C 256 [192] M = e_tv E_C (E_V 256) e_t256_0 [192, 0] M := by
    unfold E_C
    rw [if_pos (show e_rok 256 [192] = true from decide_eq_true r_ref), E_V_eq]
    rfl
  have g9 : ∀ M, e_gf 777 [192] M = some (M 192 9) := fun M => c_gf r_ref (by decide +kernel)
  have b46 : ∀ a, e_b1 46 a = some (if a = 0 then 1 else 0) := fun _ => rfl
  have h2 := r_restore_loop 1330 0 M (by decide) (by decide)
  rw [h1]
  unfold e_t256_0
  by_cases q : M 192 9 = 0
  · rw [if_pos q]
    simp [e_tv, e_ev, e_op, e_b1, g9, q]
  · rw [if_neg q, ← h2]
    simp [e_tv, e_ev, e_sv, e_op, e_b1, g9, q]
end
