theorem r_fs_l {h s p rm : Int} (hh : 0 ≤ h ∧ h < 12) (hrm : 0 ≤ rm ∧ rm ≤ 30) (hs : 0 ≤ s ∧ s ≤ 20) (hp : 0 ≤ p ∧ p ≤ 99) (H : ∀ M, r_J M → r_rdy M (h - 1) → ∀ x2 x3 x4 x5 x6, ∃ M', E_V 243 28 [192, h - 1, x2, x3, x4, x5, x6] M = some (0, M') ∧ r_J M' ∧ a_fr r_wq M M' ∧ r_rdy M' (-1)) : ∀ (m : Nat) (l x3 x4 x5 x6 : Int) (M : EM), r_J M → r_G M 1199 = rm → r_G M (1174 + 2 * h) = s → r_G M (1174 + 2 * h + 1) = p → r_rdy M h → r_lev M h l → (rm + 1 - l).toNat ≤ m → 0 ≤ l → l ≤ rm + 1 → ∃ M', E_V 243 34 [192, h, l, x3, x4, x5, x6] M = some (0, M') ∧ r_J M' ∧ a_fr r_wq M M' ∧ r_rdy M' (-1) := by
  have w1 : e_w (2 * h) = 2 * h := a_w_id (by omega) (by omega)
  have w2 : e_w (1174 + 2 * h) = 1174 + 2 * h := a_w_id (by omega) (by omega)
  have w4 : e_w (h + -1) = h - 1 := a_w_id (by omega) (by omega)
  have hend : ∀ l x3 x4 x5 x6 M, r_J M → r_G M 1199 = rm → r_rdy M h → r_lev M h l → ¬ (l ≤ rm) → ∃ M', E_V 243 34 [192, h, l, x3, x4, x5, x6] M = some (0, M') ∧ r_J M' ∧ a_fr r_wq M M' ∧ r_rdy M' (-1) := by
    intro l x3 x4 x5 x6 M hJ g1 hr hv q
    have l1 : e_op 60 [193, 1199] M = some rm := (r_rd (by decide) (by decide)).trans (congrArg some g1)
    have hr' : r_rdy M (h - 1) := by
      refine ⟨hr.1, fun k j k0 k1 j0 j1 => ?_⟩
      by_cases hk : k = h
      · subst hk
        exact hv j j0 (by omega)
      · exact hr.2 k j (by omega) k1 j0 j1
    obtain ⟨M', k, t⟩ := H M hJ hr' l x3 x4 x5 x6
    refine ⟨M', ?_, t⟩
    rw [E_V_eq]
    show e_tv E_C (E_V 243) e_t243_34 [192, h, l, x3, x4, x5, x6] M = _
    unfold e_t243_34
    simp [e_tv, e_ev, e_sv, e_b1, e_b2, x_o1, x_o2, r_O0, l1, q, w4, k]
  intro m
  induction m with
  | zero => intro l x3 x4 x5 x6 M hJ g1 g2 g3 hr hv hm h0 h1; exact hend l x3 x4 x5 x6 M hJ g1 hr hv (by omega)
  | succ m ih =>
    intro l x3 x4 x5 x6 M hJ g1 g2 g3 hr hv hm h0 h1
    rcases x_le l rm with ⟨q, q_n⟩ | ⟨q, q_n⟩
    · have l1 : e_op 60 [193, 1199] M = some rm := (r_rd (by decide) (by decide)).trans (congrArg some g1)
      have l2 : e_op 60 [193, 1174 + 2 * h] M = some s := (r_rd (by omega) (by omega)).trans (congrArg some g2)
      have w5 : e_w (l + s) = l + s := a_w_id (by omega) (by omega)
      have w6 : e_w (l + s - rm) = l + s - rm := a_w_id (by omega) (by omega)
      have H2 : ∀ M, r_J M → r_G M 1199 = rm → r_G M (1174 + 2 * h) = s → r_G M (1174 + 2 * h + 1) = p → r_rdy M h → r_lev M h (l + 1) → ∀ x3 x4 x5 x6, ∃ M', E_V 243 34 [192, h, l + 1, x3, x4, x5, x6] M = some (0, M') ∧ r_J M' ∧ a_fr r_wq M M' ∧ r_rdy M' (-1) := fun M1 j1 j2 j3 j4 j5 j6 y3 y4 y5 y6 => ih (l + 1) y3 y4 y5 y6 M1 j1 j2 j3 j4 j5 j6 (by omega) (by omega) (by omega)
      rcases x_lt rm (l + s) with ⟨c, c_n⟩ | ⟨c, c_n⟩
      · obtain ⟨M', k, t⟩ := r_fs_x hh ⟨h0, q⟩ hrm.2 hs hp H2 _ (-1) (l + s - rm) x6 M hJ g1 g2 g3 hr hv (Nat.le_refl _) (by omega) (by omega) (by omega) (Or.inl ⟨rfl, by omega⟩)
        refine ⟨M', ?_, t⟩
        rw [E_V_eq]
        show e_tv E_C (E_V 243) e_t243_34 [192, h, l, x3, x4, x5, x6] M = _
        unfold e_t243_34
        simp [e_tv, e_ev, e_sv, e_b1, e_b2, x_o1, x_o2, r_O0, l1, l2, q, q_n, w1, w2, w5, w6, c, c_n, k]
      · obtain ⟨M', k, t⟩ := r_fs_x hh ⟨h0, q⟩ hrm.2 hs hp H2 _ (-1) 0 x6 M hJ g1 g2 g3 hr hv (Nat.le_refl _) (by omega) (by omega) (by omega) (Or.inl ⟨rfl, by omega⟩)
        refine ⟨M', ?_, t⟩
        rw [E_V_eq]
        show e_tv E_C (E_V 243) e_t243_34 [192, h, l, x3, x4, x5, x6] M = _
        unfold e_t243_34
        simp [e_tv, e_ev, e_sv, e_b1, e_b2, x_o1, x_o2, r_O0, l1, l2, q, q_n, w1, w2, w5, c, c_n, k]
    · exact hend l x3 x4 x5 x6 M hJ g1 hr hv q
theorem r_fs_h : ∀ (m : Nat) (h x2 x3 x4 x5 x6 : Int) (M : EM), r_J M → r_rdy M h → (h + 1).toNat ≤ m → -1 ≤ h → h < 12 → ∃ M', E_V 243 28 [192, h, x2, x3, x4, x5, x6] M = some (0, M') ∧ r_J M' ∧ a_fr r_wq M M' ∧ r_rdy M' (-1) := by
  have hend : ∀ h x2 x3 x4 x5 x6 M, r_J M → r_rdy M h → -1 ≤ h → ¬ (0 ≤ h) → ∃ M', E_V 243 28 [192, h, x2, x3, x4, x5, x6] M = some (0, M') ∧ r_J M' ∧ a_fr r_wq M M' ∧ r_rdy M' (-1) := by
    intro h x2 x3 x4 x5 x6 M hJ hr h1 q
    have he : h = -1 := by omega
    subst he
    refine ⟨M, ?_, hJ, a_fr_rf, hr⟩
    rw [E_V_eq]
    show e_tv E_C (E_V 243) e_t243_28 [192, -1, x2, x3, x4, x5, x6] M = _
    unfold e_t243_28
    simp [e_tv, e_ev, e_sv, e_b1, e_b2, x_o1, x_o2]
  intro m
  induction m with
  | zero => intro h x2 x3 x4 x5 x6 M hJ hr hm h0 h1; exact hend h x2 x3 x4 x5 x6 M hJ hr h0 (by omega)
  | succ m ih =>
    intro h x2 x3 x4 x5 x6 M hJ hr hm h0 h1
    rcases x_le 0 h with ⟨q, q_n⟩ | ⟨q, q_n⟩
    · have hz := r_Zof hJ
      obtain ⟨z1, z2, z3, -⟩ := hz
      obtain ⟨y1, y2, y3, y4⟩ := z3 h q h1
      obtain ⟨M', k, t⟩ := r_fs_l (h := h) ⟨q, h1⟩ ⟨z1, z2⟩ ⟨y1, y2⟩ ⟨y3, y4⟩ (fun M1 j1 j2 u2 u3 u4 u5 u6 => ih (h - 1) u2 u3 u4 u5 u6 M1 j1 j2 (by omega) (by omega) (by omega)) _ 0 x3 x4 x5 x6 M hJ rfl rfl rfl hr (fun j j0 j1 => by omega) (Nat.le_refl _) (by decide) (by omega)
      refine ⟨M', ?_, t⟩
      rw [E_V_eq]
      show e_tv E_C (E_V 243) e_t243_28 [192, h, x2, x3, x4, x5, x6] M = _
      unfold e_t243_28
      simp [e_tv, e_ev, e_sv, e_b1, e_b2, x_o1, x_o2, q, q_n, k]
    · exact hend h x2 x3 x4 x5 x6 M hJ hr h0 q
theorem r_fs_0 : ∀ (m : Nat) (x1 x2 x3 x4 x5 x6 : Int) (M : EM), r_J M → (∀ l, 0 ≤ l → l < x1 → r_takH M 12 l) → (31 - x1).toNat ≤ m → 0 ≤ x1 → x1 ≤ 31 → ∃ M', E_V 243 2 [192, x1, x2, x3, x4, x5, x6] M = some (0, M') ∧ r_J M' ∧ a_fr r_wq M M' ∧ r_rdy M' (-1) := by
  have hend : ∀ x1 x2 x3 x4 x5 x6 M, r_J M → (∀ l, 0 ≤ l → l < x1 → r_takH M 12 l) → ¬ (x1 ≤ 30) → ∃ M', E_V 243 2 [192, x1, x2, x3, x4, x5, x6] M = some (0, M') ∧ r_J M' ∧ a_fr r_wq M M' ∧ r_rdy M' (-1) := by
    intro x1 x2 x3 x4 x5 x6 M hJ hr q
    obtain ⟨M', k, t⟩ := r_fs_h 12 11 x2 x3 x4 x5 x6 M hJ ⟨fun l l0 l1 => hr l l0 (by omega), fun k l k0 k1 => by omega⟩ (by decide) (by decide) (by decide)
    refine ⟨M', ?_, t⟩
    rw [E_V_eq]
    show e_tv E_C (E_V 243) e_t243_2 [192, x1, x2, x3, x4, x5, x6] M = _
    unfold e_t243_2
    simp [e_tv, e_ev, e_sv, e_b1, e_b2, x_o1, x_o2, q, k]
  intro m
  induction m with
  | zero => intro x1 x2 x3 x4 x5 x6 M hJ hr hm h0 h1; exact hend x1 x2 x3 x4 x5 x6 M hJ hr (by omega)
  | succ m ih =>
    intro x1 x2 x3 x4 x5 x6 M hJ hr hm h0 h1
    rcases x_le x1 30 with ⟨q, q_n⟩ | ⟨q, q_n⟩
    · have w1 : e_w (372 + x1) = 372 + x1 := a_w_id (by omega) (by omega)
      have w2 : e_w (x1 + 1) = x1 + 1 := a_w_id (by omega) (by omega)
      have st := r_st10 (i := 372 + x1) (v := 0) (M := M) (by omega) (by omega)
      obtain ⟨u1, u2⟩ := r_u10 (M := M) (k := (372 + x1).toNat) (v := 0) (by omega) (by decide) hJ
      obtain ⟨M', k, t1, t2, t3⟩ := ih (x1 + 1) x2 x3 x4 x5 x6 _ u1 (fun l l0 l1 => by
        unfold r_takH
        by_cases hl : l = x1
        · subst hl
          rw [show 31 * 12 + l = 372 + l by omega, c_up_s]
          exact ⟨by decide, by decide⟩
        · rw [c_up_n (fun hc => by omega)]
          exact hr l l0 (by omega)) (by omega) (by omega) (by omega)
      refine ⟨M', ?_, t1, a_fr_tr u2 t2, t3⟩
      rw [E_V_eq]
      show e_tv E_C (E_V 243) e_t243_2 [192, x1, x2, x3, x4, x5, x6] M = _
      unfold e_t243_2
      simp [e_tv, e_ev, e_sv, e_b1, e_b2, x_o1, x_o2, r_O37, q, q_n, w1, w2, st, k]
    · exact hend x1 x2 x3 x4 x5 x6 M hJ hr q
