section
/-! the store by the reference: what is taken and sold -/
def r_sv (M : EM) : Prop := r_J M
/-- rows of the store from HOUR h on: what is taken there at most, and what is sold leaves no more than ROOM -/
def r_soldH (M : EM) (h l : Int) : Prop := 0 ≤ l + r_G M (1174 + 2 * h) - M 211 (31 * h + l).toNat ∧ l + r_G M (1174 + 2 * h) - M 211 (31 * h + l).toNat ≤ r_G M 1199
def r_takH (M : EM) (h l : Int) : Prop := 0 ≤ M 210 (31 * h + l).toNat ∧ M 210 (31 * h + l).toNat ≤ 5000 * (12 - h)
/-- HOURS after h are ready -/
def r_rdy (M : EM) (h : Int) : Prop := (∀ l, 0 ≤ l → l ≤ 30 → r_takH M 12 l) ∧ (∀ k l, h < k → k < 12 → 0 ≤ l → l ≤ r_G M 1199 → r_takH M k l ∧ r_soldH M k l)
theorem r_Zof {M : EM} (hJ : r_J M) : r_Z (r_G M) := hJ.2.2.1.2.2.2
theorem r_u10 {M : EM} {k : Nat} {v : Int} (hk : k ≤ 402) (hv : -2147483648 ≤ v ∧ v ≤ 2147483647) (hJ : r_J M) : r_J (e_up M 210 k v) ∧ a_fr r_wq M (e_up M 210 k v) := r_qarr (n := 402) (by decide) hk hv hJ
theorem r_u11 {M : EM} {k : Nat} {v : Int} (hk : k ≤ 402) (hv : -2147483648 ≤ v ∧ v ≤ 2147483647) (hJ : r_J M) : r_J (e_up M 211 k v) ∧ a_fr r_wq M (e_up M 211 k v) := r_qarr (n := 402) (by decide) hk hv hJ
theorem r_ld10 {i : Int} {M : EM} (h0 : 0 ≤ i) (hi : i ≤ 402) : e_op 60 [210, i] M = some (M 210 i.toNat) := r_rdA (a := 210) (n := 402) (by decide) (by decide) (by decide +kernel) h0 hi
theorem r_ld11 {i : Int} {M : EM} (h0 : 0 ≤ i) (hi : i ≤ 402) : e_op 60 [211, i] M = some (M 211 i.toNat) := r_rdA (a := 211) (n := 402) (by decide) (by decide) (by decide +kernel) h0 hi
theorem r_st10 {i v : Int} {M : EM} (h0 : 0 ≤ i) (hi : i ≤ 402) : e_st 100 [210, i, v] M = some (e_up M 210 i.toNat v) := r_stA (a := 210) (n := 402) (by decide) (by decide) (by decide +kernel) h0 hi
theorem r_st11 {i v : Int} {M : EM} (h0 : 0 ≤ i) (hi : i ≤ 402) : e_st 100 [211, i, v] M = some (e_up M 211 i.toNat v) := r_stA (a := 211) (n := 402) (by decide) (by decide) (by decide +kernel) h0 hi
/-- at HOUR h levels below l are ready too -/
def r_lev (M : EM) (h l : Int) : Prop := ∀ j, 0 ≤ j → j < l → r_takH M h j ∧ r_soldH M h j
theorem r_tak_ne {M : EM} {h l h' l' v : Int} (hh : 0 ≤ h ∧ h ≤ 12) (hl : 0 ≤ l ∧ l ≤ 30) (hh' : 0 ≤ h' ∧ h' ≤ 12) (hl' : 0 ≤ l' ∧ l' ≤ 30) (hne : h ≠ h' ∨ l ≠ l') : (e_up M 210 (31 * h' + l').toNat v) 210 (31 * h + l).toNat = M 210 (31 * h + l).toNat := c_up_n (fun hc => by omega)
theorem r_sol_ne {M : EM} {h l h' l' v : Int} (hh : 0 ≤ h ∧ h ≤ 12) (hl : 0 ≤ l ∧ l ≤ 30) (hh' : 0 ≤ h' ∧ h' ≤ 12) (hl' : 0 ≤ l' ∧ l' ≤ 30) (hne : h ≠ h' ∨ l ≠ l') : (e_up M 211 (31 * h' + l').toNat v) 211 (31 * h + l).toNat = M 211 (31 * h + l).toNat := c_up_n (fun hc => by omega)
theorem r_up_Gne {M : EM} {a k : Nat} {v : Int} (ha : a ≠ 193) : r_G (e_up M a k v) = r_G M := funext fun i => c_up_n (fun hc => ha hc.1.symm)
/-- a level's own search: x5 from what must be sold on -/
theorem r_fs_x {h l s p rm : Int} (hh : 0 ≤ h ∧ h < 12) (hl : 0 ≤ l ∧ l ≤ rm) (hrm : rm ≤ 30) (hs : 0 ≤ s ∧ s ≤ 20) (hp : 0 ≤ p ∧ p ≤ 99) (H : ∀ M, r_J M → r_G M 1199 = rm → r_G M (1174 + 2 * h) = s → r_G M (1174 + 2 * h + 1) = p → r_rdy M h → r_lev M h (l + 1) → ∀ x3 x4 x5 x6, ∃ M', E_V 243 34 [192, h, l + 1, x3, x4, x5, x6] M = some (0, M') ∧ r_J M' ∧ a_fr r_wq M M' ∧ r_rdy M' (-1)) : ∀ (m : Nat) (x4 x5 x6 : Int) (M : EM), r_J M → r_G M 1199 = rm → r_G M (1174 + 2 * h) = s → r_G M (1174 + 2 * h + 1) = p → r_rdy M h → r_lev M h l → (l + s + 1 - x5).toNat ≤ m → 0 ≤ x5 → l + s - rm ≤ x5 → x5 ≤ l + s + 1 → (x4 = -1 ∧ x5 ≤ l + s ∨ (0 ≤ x4 ∧ x4 ≤ 5000 * (12 - h) ∧ r_soldH M h l)) → ∃ M', E_V 243 92 [192, h, l, l + s, x4, x5, x6] M = some (0, M') ∧ r_J M' ∧ a_fr r_wq M M' ∧ r_rdy M' (-1) := by
  have w1 : e_w (2 * h) = 2 * h := a_w_id (by omega) (by omega)
  have w2 : e_w (1174 + 2 * h) = 1174 + 2 * h := a_w_id (by omega) (by omega)
  have w3 : e_w (1174 + 2 * h + 1) = 1174 + 2 * h + 1 := a_w_id (by omega) (by omega)
  have w4 : e_w (h + 1) = h + 1 := a_w_id (by omega) (by omega)
  have w5 : e_w (31 * (h + 1)) = 31 * (h + 1) := a_w_id (by omega) (by omega)
  have w6 : e_w (31 * (h + 1) + (l + s)) = 31 * (h + 1) + (l + s) := a_w_id (by omega) (by omega)
  have w7 : e_w (31 * h) = 31 * h := a_w_id (by omega) (by omega)
  have w8 : e_w (31 * h + l) = 31 * h + l := a_w_id (by omega) (by omega)
  have w9 : e_w (l + 1) = l + 1 := a_w_id (by omega) (by omega)
  have hend : ∀ x4 x5 x6 M, r_J M → r_G M 1199 = rm → r_G M (1174 + 2 * h) = s → r_G M (1174 + 2 * h + 1) = p → r_rdy M h → r_lev M h l → ¬ (x5 ≤ l + s) → (0 ≤ x4 ∧ x4 ≤ 5000 * (12 - h) ∧ r_soldH M h l) → ∃ M', E_V 243 92 [192, h, l, l + s, x4, x5, x6] M = some (0, M') ∧ r_J M' ∧ a_fr r_wq M M' ∧ r_rdy M' (-1) := by
    intro x4 x5 x6 M hJ g1 g2 g3 hr hv q h4
    obtain ⟨h4a, h4b, h4c⟩ := h4
    obtain ⟨u1, u2⟩ := r_u10 (M := M) (k := (31 * h + l).toNat) (v := x4) (by omega) ⟨by omega, by omega⟩ hJ
    have eG : r_G (e_up M 210 (31 * h + l).toNat x4) = r_G M := r_up_Gne (by decide)
    have e11 : ∀ j, (e_up M 210 (31 * h + l).toNat x4) 211 j = M 211 j := fun j => c_up_n (fun hc => absurd hc.1 (by decide))
    have hr' : r_rdy (e_up M 210 (31 * h + l).toNat x4) h := by
      refine ⟨fun j j0 j1 => ?_, fun k j k0 k1 j0 j1 => ?_⟩
      · unfold r_takH
        rw [r_tak_ne (by omega) ⟨j0, j1⟩ (by omega) (by omega) (Or.inl (by omega))]
        exact hr.1 j j0 j1
      · rw [eG] at j1
        unfold r_takH r_soldH
        rw [r_tak_ne (by omega) ⟨j0, by omega⟩ (by omega) (by omega) (Or.inl (by omega)), eG, e11]
        exact hr.2 k j k0 k1 j0 j1
    have hv' : r_lev (e_up M 210 (31 * h + l).toNat x4) h (l + 1) := by
      intro j j0 j1
      unfold r_takH r_soldH
      rw [eG, e11]
      by_cases hj : j = l
      · subst hj
        rw [c_up_s]
        exact ⟨⟨h4a, h4b⟩, h4c⟩
      · rw [r_tak_ne (by omega) ⟨j0, by omega⟩ (by omega) (by omega) (Or.inr hj)]
        exact hv j j0 (by omega)
    obtain ⟨M', k, t1, t2, t3⟩ := H _ u1 (by rw [eG]; exact g1) (by rw [eG]; exact g2) (by rw [eG]; exact g3) hr' hv' (l + s) x4 x5 x6
    refine ⟨M', ?_, t1, a_fr_tr u2 t2, t3⟩
    have st := r_st10 (i := 31 * h + l) (v := x4) (M := M) (by omega) (by omega)
    rw [E_V_eq]
    show e_tv E_C (E_V 243) e_t243_92 [192, h, l, l + s, x4, x5, x6] M = _
    unfold e_t243_92
    simp [e_tv, e_ev, e_sv, e_b1, e_b2, x_o1, x_o2, r_O37, q, w7, w8, w9, st, k]
  intro m
  induction m with
  | zero =>
    intro x4 x5 x6 M hJ g1 g2 g3 hr hv hm h0 h1 h2 h4
    rcases h4 with h4 | h4
    · omega
    · exact hend x4 x5 x6 M hJ g1 g2 g3 hr hv (by omega) h4
  | succ m ih =>
    intro x4 x5 x6 M hJ g1 g2 g3 hr hv hm h0 h1 h2 h4
    rcases x_le x5 (l + s) with ⟨q, q_n⟩ | ⟨q, q_n⟩
    · have wa : e_w (31 * (h + 1) + (l + s) - x5) = 31 * (h + 1) + (l + s) - x5 := a_w_id (by omega) (by omega)
      have wb : e_w (x5 + 1) = x5 + 1 := a_w_id (by omega) (by omega)
      have l3 : e_op 60 [193, 1174 + 2 * h + 1] M = some p := (r_rd (by omega) (by omega)).trans (congrArg some g3)
      have l4 := r_ld10 (i := 31 * (h + 1) + (l + s) - x5) (M := M) (by omega) (by omega)
      have hx : 0 ≤ x5 * p ∧ x5 * p ≤ 50 * 99 := ⟨Int.mul_nonneg h0 hp.1, Int.mul_le_mul (by omega) hp.2 hp.1 (by decide)⟩
      have hz : r_Z (r_G M) := r_Zof hJ
      have htk : 0 ≤ M 210 (31 * (h + 1) + (l + s) - x5).toNat ∧ M 210 (31 * (h + 1) + (l + s) - x5).toNat ≤ 5000 * (12 - (h + 1)) := by
        have e : 31 * (h + 1) + (l + s) - x5 = 31 * (h + 1) + (l + s - x5) := by omega
        rw [e]
        by_cases h12 : h + 1 = 12
        · rw [h12]; exact hr.1 _ (by omega) (by omega)
        · exact (hr.2 (h + 1) (l + s - x5) (by omega) (by omega) (by omega) (by rw [g1]; omega)).1
      have wc : e_w (x5 * p) = x5 * p := a_w_id (by omega) (by omega)
      have wd : e_w (x5 * p + M 210 (31 * (h + 1) + (l + s) - x5).toNat) = x5 * p + M 210 (31 * (h + 1) + (l + s) - x5).toNat := a_w_id (by omega) (by omega)
      generalize hy : x5 * p + M 210 (31 * (h + 1) + (l + s) - x5).toNat = y at wd
      have hyr : 0 ≤ y ∧ y ≤ 5000 * (12 - h) := by omega
      rcases x_le y x4 with ⟨c, c_n⟩ | ⟨c, c_n⟩
      · have h4' : 0 ≤ x4 ∧ x4 ≤ 5000 * (12 - h) ∧ r_soldH M h l := by
          rcases h4 with h4 | h4
          · omega
          · exact h4
        obtain ⟨M', k, t⟩ := ih x4 (x5 + 1) y M hJ g1 g2 g3 hr hv (by omega) (by omega) (by omega) (by omega) (Or.inr h4')
        refine ⟨M', ?_, t⟩
        have k161 : E_V 243 161 [192, h, l, l + s, x4, x5, y] M = some (0, M') := by
          rw [E_V_eq]
          show e_tv E_C (E_V 243) e_t243_161 [192, h, l, l + s, x4, x5, y] M = _
          unfold e_t243_161
          simp [e_tv, e_ev, e_sv, e_b1, e_b2, x_o1, x_o2, wb, k]
        rw [E_V_eq]
        show e_tv E_C (E_V 243) e_t243_92 [192, h, l, l + s, x4, x5, x6] M = _
        unfold e_t243_92
        simp [e_tv, e_ev, e_sv, e_b1, e_b2, x_o1, x_o2, r_O0, r_O37, q, q_n, w1, w2, w3, w4, w5, w6, wa, l3, l4, wc, hy, wd, c, c_n, k161]
      · have st := r_st11 (i := 31 * h + l) (v := x5) (M := M) (by omega) (by omega)
        obtain ⟨u1, u2⟩ := r_u11 (M := M) (k := (31 * h + l).toNat) (v := x5) (by omega) ⟨by omega, by omega⟩ hJ
        have eG : r_G (e_up M 211 (31 * h + l).toNat x5) = r_G M := r_up_Gne (by decide)
        have e10 : ∀ j, (e_up M 211 (31 * h + l).toNat x5) 210 j = M 210 j := fun j => c_up_n (fun hc => absurd hc.1 (by decide))
        have hr' : r_rdy (e_up M 211 (31 * h + l).toNat x5) h := by
          refine ⟨fun j j0 j1 => ?_, fun k j k0 k1 j0 j1 => ?_⟩
          · unfold r_takH
            rw [e10]
            exact hr.1 j j0 j1
          · rw [eG] at j1
            unfold r_takH r_soldH
            rw [r_sol_ne (by omega) ⟨j0, by omega⟩ (by omega) (by omega) (Or.inl (by omega)), eG, e10]
            exact hr.2 k j k0 k1 j0 j1
        have hv' : r_lev (e_up M 211 (31 * h + l).toNat x5) h l := by
          intro j j0 j1
          unfold r_takH r_soldH
          rw [eG, e10, r_sol_ne (by omega) ⟨j0, by omega⟩ (by omega) (by omega) (Or.inr (by omega))]
          exact hv j j0 j1
        have hs' : r_soldH (e_up M 211 (31 * h + l).toNat x5) h l := by
          unfold r_soldH
          rw [eG, c_up_s, g1, g2]
          omega
        obtain ⟨M', k, t1, t2, t3⟩ := ih y (x5 + 1) y _ u1 (by rw [eG]; exact g1) (by rw [eG]; exact g2) (by rw [eG]; exact g3) hr' hv' (by omega) (by omega) (by omega) (by omega) (Or.inr ⟨hyr.1, hyr.2, hs'⟩)
        refine ⟨M', ?_, t1, a_fr_tr u2 t2, t3⟩
        have k161 : E_V 243 161 [192, h, l, l + s, y, x5, y] (e_up M 211 (31 * h + l).toNat x5) = some (0, M') := by
          rw [E_V_eq]
          show e_tv E_C (E_V 243) e_t243_161 [192, h, l, l + s, y, x5, y] (e_up M 211 (31 * h + l).toNat x5) = _
          unfold e_t243_161
          simp [e_tv, e_ev, e_sv, e_b1, e_b2, x_o1, x_o2, wb, k]
        rw [E_V_eq]
        show e_tv E_C (E_V 243) e_t243_92 [192, h, l, l + s, x4, x5, x6] M = _
        unfold e_t243_92
        simp [e_tv, e_ev, e_sv, e_b1, e_b2, x_o1, x_o2, r_O0, r_O37, r_O38, q, q_n, w1, w2, w3, w4, w5, w6, w7, w8, wa, l3, l4, wc, hy, wd, c, c_n, st, k161]
    · have h4' : 0 ≤ x4 ∧ x4 ≤ 5000 * (12 - h) ∧ r_soldH M h l := by
        rcases h4 with h4 | h4
        · omega
        · exact h4
      exact hend x4 x5 x6 M hJ g1 g2 g3 hr hv q h4'
theorem r_fs_l {h s p rm : Int} (hh : 0 ≤ h ∧ h < 12) (hrm : 0 ≤ rm ∧ rm ≤ 30) (hs : 0 ≤ s ∧ s ≤ 20) (hp : 0 ≤ p ∧ p ≤ 99) (H : ∀ M, r_J M → r_rdy M (h - 1) → ∀ x2 x3 x4 x5 x6, ∃ M', E_V 243 28 [192, h - 1, x2, x3, x4, x5, x6] M = some (0, M') ∧ r_J M' ∧ a_fr r_wq M M' ∧ r_rdy M' (-1)) : ∀ (m : Nat) (l x3 x4 x5 x6 : Int) (M : EM), r_J M → r_G M 1199 = rm → r_G M (1174 + 2 * h) = s → r_G M (1174 + 2 * h + 1) = p → r_rdy M h → r_lev M h l → (rm + 1 - l).toNat ≤ m → 0 ≤ l → l ≤ rm + 1 → ∃ M', E_V 243 34 [192, h, l, x3, x4, x5, x6] M = some (0, M') ∧ r_J M' ∧ a_fr r_wq M M' ∧ r_rdy M' (-1) := by
  have w1 : e_w (2 * h) = 2 * h := a_w_id (by omega) (by omega)
  have w2 : e_w (1174 + 2 * h) = 1174 + 2 * h := a_w_id (by omega) (by omega)
  have w4 : e_w (h + -1) = h - 1 := a_w_id (by omega) (by omega)
  have hend : ∀ l x3 x4 x5 x6 M, r_J M → r_G M 1199 = rm → r_rdy M h → r_lev M h l → ¬ (l ≤ rm) → ∃ M', E_V 243 34 [192, h, l, x3, x4, x5, x6] M = some (0, M') ∧ r_J M' ∧ a_fr r_wq M M' ∧ r_rdy M' (-1) := by
    intro l x3 x4 x5 x6 M hJ g1 hr hv q
    have l1 : e_op 60 [193, 1199] M = some rm := (r_rd (by decide) (by decide)).trans (congrArg some g1)
    have hr' : r_rdy M (h - 1) := by
      refine ⟨hr.1, fun k j k0 k1 j0 j1 => ?_⟩
      by_cases hk : k = h
      · subst hk
        exact hv j j0 (by omega)
      · exact hr.2 k j (by omega) k1 j0 j1
    obtain ⟨M', k, t⟩ := H M hJ hr' l x3 x4 x5 x6
    refine ⟨M', ?_, t⟩
    rw [E_V_eq]
    show e_tv E_C (E_V 243) e_t243_34 [192, h, l, x3, x4, x5, x6] M = _
    unfold e_t243_34
    simp [e_tv, e_ev, e_sv, e_b1, e_b2, x_o1, x_o2, r_O0, l1, q, w4, k]
  intro m
  induction m with
  | zero => intro l x3 x4 x5 x6 M hJ g1 g2 g3 hr hv hm h0 h1; exact hend l x3 x4 x5 x6 M hJ g1 hr hv (by omega)
  | succ m ih =>
    intro l x3 x4 x5 x6 M hJ g1 g2 g3 hr hv hm h0 h1
    rcases x_le l rm with ⟨q, q_n⟩ | ⟨q, q_n⟩
    · have l1 : e_op 60 [193, 1199] M = some rm := (r_rd (by decide) (by decide)).trans (congrArg some g1)
      have l2 : e_op 60 [193, 1174 + 2 * h] M = some s := (r_rd (by omega) (by omega)).trans (congrArg some g2)
      have w5 : e_w (l + s) = l + s := a_w_id (by omega) (by omega)
      have w6 : e_w (l + s - rm) = l + s - rm := a_w_id (by omega) (by omega)
      have H2 : ∀ M, r_J M → r_G M 1199 = rm → r_G M (1174 + 2 * h) = s → r_G M (1174 + 2 * h + 1) = p → r_rdy M h → r_lev M h (l + 1) → ∀ x3 x4 x5 x6, ∃ M', E_V 243 34 [192, h, l + 1, x3, x4, x5, x6] M = some (0, M') ∧ r_J M' ∧ a_fr r_wq M M' ∧ r_rdy M' (-1) := fun M1 j1 j2 j3 j4 j5 j6 y3 y4 y5 y6 => ih (l + 1) y3 y4 y5 y6 M1 j1 j2 j3 j4 j5 j6 (by omega) (by omega) (by omega)
      rcases x_lt rm (l + s) with ⟨c, c_n⟩ | ⟨c, c_n⟩
      · obtain ⟨M', k, t⟩ := r_fs_x hh ⟨h0, q⟩ hrm.2 hs hp H2 _ (-1) (l + s - rm) x6 M hJ g1 g2 g3 hr hv (Nat.le_refl _) (by omega) (by omega) (by omega) (Or.inl ⟨rfl, by omega⟩)
        refine ⟨M', ?_, t⟩
        rw [E_V_eq]
        show e_tv E_C (E_V 243) e_t243_34 [192, h, l, x3, x4, x5, x6] M = _
        unfold e_t243_34
        simp [e_tv, e_ev, e_sv, e_b1, e_b2, x_o1, x_o2, r_O0, l1, l2, q, q_n, w1, w2, w5, w6, c, c_n, k]
      · obtain ⟨M', k, t⟩ := r_fs_x hh ⟨h0, q⟩ hrm.2 hs hp H2 _ (-1) 0 x6 M hJ g1 g2 g3 hr hv (Nat.le_refl _) (by omega) (by omega) (by omega) (Or.inl ⟨rfl, by omega⟩)
        refine ⟨M', ?_, t⟩
        rw [E_V_eq]
        show e_tv E_C (E_V 243) e_t243_34 [192, h, l, x3, x4, x5, x6] M = _
        unfold e_t243_34
        simp [e_tv, e_ev, e_sv, e_b1, e_b2, x_o1, x_o2, r_O0, l1, l2, q, q_n, w1, w2, w5, c, c_n, k]
    · exact hend l x3 x4 x5 x6 M hJ g1 hr hv q
theorem r_fs_h : ∀ (m : Nat) (h x2 x3 x4 x5 x6 : Int) (M : EM), r_J M → r_rdy M h → (h + 1).toNat ≤ m → -1 ≤ h → h < 12 → ∃ M', E_V 243 28 [192, h, x2, x3, x4, x5, x6] M = some (0, M') ∧ r_J M' ∧ a_fr r_wq M M' ∧ r_rdy M' (-1) := by
  have hend : ∀ h x2 x3 x4 x5 x6 M, r_J M → r_rdy M h → -1 ≤ h → ¬ (0 ≤ h) → ∃ M', E_V 243 28 [192, h, x2, x3, x4, x5, x6] M = some (0, M') ∧ r_J M' ∧ a_fr r_wq M M' ∧ r_rdy M' (-1) := by
    intro h x2 x3 x4 x5 x6 M hJ hr h1 q
    have he : h = -1 := by omega
    subst he
    refine ⟨M, ?_, hJ, a_fr_rf, hr⟩
    rw [E_V_eq]
    show e_tv E_C (E_V 243) e_t243_28 [192, -1, x2, x3, x4, x5, x6] M = _
    unfold e_t243_28
    simp [e_tv, e_ev, e_sv, e_b1, e_b2, x_o1, x_o2]
  intro m
  induction m with
  | zero => intro h x2 x3 x4 x5 x6 M hJ hr hm h0 h1; exact hend h x2 x3 x4 x5 x6 M hJ hr h0 (by omega)
  | succ m ih =>
    intro h x2 x3 x4 x5 x6 M hJ hr hm h0 h1
    rcases x_le 0 h with ⟨q, q_n⟩ | ⟨q, q_n⟩
    · have hz := r_Zof hJ
      obtain ⟨z1, z2, z3, -⟩ := hz
      obtain ⟨y1, y2, y3, y4⟩ := z3 h q h1
      obtain ⟨M', k, t⟩ := r_fs_l (h := h) ⟨q, h1⟩ ⟨z1, z2⟩ ⟨y1, y2⟩ ⟨y3, y4⟩ (fun M1 j1 j2 u2 u3 u4 u5 u6 => ih (h - 1) u2 u3 u4 u5 u6 M1 j1 j2 (by omega) (by omega) (by omega)) _ 0 x3 x4 x5 x6 M hJ rfl rfl rfl hr (fun j j0 j1 => by omega) (Nat.le_refl _) (by decide) (by omega)
      refine ⟨M', ?_, t⟩
      rw [E_V_eq]
      show e_tv E_C (E_V 243) e_t243_28 [192, h, x2, x3, x4, x5, x6] M = _
      unfold e_t243_28
      simp [e_tv, e_ev, e_sv, e_b1, e_b2, x_o1, x_o2, q, q_n, k]
    · exact hend h x2 x3 x4 x5 x6 M hJ hr h0 q
theorem r_fs_0 : ∀ (m : Nat) (x1 x2 x3 x4 x5 x6 : Int) (M : EM), r_J M → (∀ l, 0 ≤ l → l < x1 → r_takH M 12 l) → (31 - x1).toNat ≤ m → 0 ≤ x1 → x1 ≤ 31 → ∃ M', E_V 243 2 [192, x1, x2, x3, x4, x5, x6] M = some (0, M') ∧ r_J M' ∧ a_fr r_wq M M' ∧ r_rdy M' (-1) := by
  have hend : ∀ x1 x2 x3 x4 x5 x6 M, r_J M → (∀ l, 0 ≤ l → l < x1 → r_takH M 12 l) → ¬ (x1 ≤ 30) → ∃ M', E_V 243 2 [192, x1, x2, x3, x4, x5, x6] M = some (0, M') ∧ r_J M' ∧ a_fr r_wq M M' ∧ r_rdy M' (-1) := by
    intro x1 x2 x3 x4 x5 x6 M hJ hr q
    obtain ⟨M', k, t⟩ := r_fs_h 12 11 x2 x3 x4 x5 x6 M hJ ⟨fun l l0 l1 => hr l l0 (by omega), fun k l k0 k1 => by omega⟩ (by decide) (by decide) (by decide)
    refine ⟨M', ?_, t⟩
    rw [E_V_eq]
    show e_tv E_C (E_V 243) e_t243_2 [192, x1, x2, x3, x4, x5, x6] M = _
    unfold e_t243_2
    simp [e_tv, e_ev, e_sv, e_b1, e_b2, x_o1, x_o2, q, k]
  intro m
  induction m with
  | zero => intro x1 x2 x3 x4 x5 x6 M hJ hr hm h0 h1; exact hend x1 x2 x3 x4 x5 x6 M hJ hr (by omega)
  | succ m ih =>
    intro x1 x2 x3 x4 x5 x6 M hJ hr hm h0 h1
    rcases x_le x1 30 with ⟨q, q_n⟩ | ⟨q, q_n⟩
    · have w1 : e_w (372 + x1) = 372 + x1 := a_w_id (by omega) (by omega)
      have w2 : e_w (x1 + 1) = x1 + 1 := a_w_id (by omega) (by omega)
      have st := r_st10 (i := 372 + x1) (v := 0) (M := M) (by omega) (by omega)
      obtain ⟨u1, u2⟩ := r_u10 (M := M) (k := (372 + x1).toNat) (v := 0) (by omega) (by decide) hJ
      obtain ⟨M', k, t1, t2, t3⟩ := ih (x1 + 1) x2 x3 x4 x5 x6 _ u1 (fun l l0 l1 => by
        unfold r_takH
        by_cases hl : l = x1
        · subst hl
          rw [show 31 * 12 + l = 372 + l by omega, c_up_s]
          exact ⟨by decide, by decide⟩
        · rw [c_up_n (fun hc => by omega)]
          exact hr l l0 (by omega)) (by omega) (by omega) (by omega)
      refine ⟨M', ?_, t1, a_fr_tr u2 t2, t3⟩
      rw [E_V_eq]
      show e_tv E_C (E_V 243) e_t243_2 [192, x1, x2, x3, x4, x5, x6] M = _
      unfold e_t243_2
      simp [e_tv, e_ev, e_sv, e_b1, e_b2, x_o1, x_o2, r_O37, q, q_n, w1, w2, st, k]
    · exact hend x1 x2 x3 x4 x5 x6 M hJ hr q
theorem r_findSales {M : EM} (hJ : r_J M) : ∃ M', E_C 243 [192] M = some (0, M') ∧ r_J M' ∧ a_fr r_wq M M' ∧ r_rdy M' (-1) := by
  obtain ⟨M', k, t⟩ := r_fs_0 31 0 0 0 0 0 0 M hJ (fun l l0 l1 => by omega) (by decide) (by decide) (by decide)
  refine ⟨M', ?_, t⟩
  rw [r_ent (show e_rok 243 [192] = true from decide_eq_true r_ref)]
  show e_tv E_C (E_V 243) e_t243_0 [192, 0, 0, 0, 0, 0, 0] M = _
  unfold e_t243_0
  simp [e_tv, e_ev, e_sv, e_b1, e_b2, x_o1, x_o2, k]
theorem r_sells_loop {h : Int} {M : EM} (hh : 0 ≤ h ∧ h < 12) (hJ : r_J M) (hr : r_rdy M (-1)) : ∀ (m : Nat) (x2 x3 : Int), (h - x3).toNat ≤ m → 0 ≤ x3 → x3 ≤ h → 0 ≤ x2 → x2 ≤ r_G M 1199 → ∃ r, E_V 244 35 [192, h, x2, x3] M = some (r, M) := by
  have hz := r_Zof hJ
  obtain ⟨z1, z2, z3, -⟩ := hz
  have hend : ∀ x2 x3, ¬ (x3 < h) → 0 ≤ x2 → x2 ≤ r_G M 1199 → ∃ r, E_V 244 35 [192, h, x2, x3] M = some (r, M) := by
    intro x2 x3 q h2 h3
    have w1 : e_w (31 * h) = 31 * h := a_w_id (by omega) (by omega)
    have w2 : e_w (31 * h + x2) = 31 * h + x2 := a_w_id (by omega) (by omega)
    have l1 := r_ld11 (i := 31 * h + x2) (M := M) (by omega) (by omega)
    refine ⟨M 211 (31 * h + x2).toNat, ?_⟩
    rw [E_V_eq]
    show e_tv E_C (E_V 244) e_t244_35 [192, h, x2, x3] M = _
    unfold e_t244_35
    simp [e_tv, e_ev, e_sv, e_b1, e_b2, x_o1, x_o2, r_O38, q, w1, w2, l1]
  intro m
  induction m with
  | zero => intro x2 x3 hm h0 h1 h2 h3; exact hend x2 x3 (by omega) h2 h3
  | succ m ih =>
    intro x2 x3 hm h0 h1 h2 h3
    rcases x_lt x3 h with ⟨q, q_n⟩ | ⟨q, q_n⟩
    · have w1 : e_w (31 * x3) = 31 * x3 := a_w_id (by omega) (by omega)
      have w2 : e_w (31 * x3 + x2) = 31 * x3 + x2 := a_w_id (by omega) (by omega)
      have w3 : e_w (2 * x3) = 2 * x3 := a_w_id (by omega) (by omega)
      have w4 : e_w (1174 + 2 * x3) = 1174 + 2 * x3 := a_w_id (by omega) (by omega)
      have w5 : e_w (x3 + 1) = x3 + 1 := a_w_id (by omega) (by omega)
      have l1 := r_ld11 (i := 31 * x3 + x2) (M := M) (by omega) (by omega)
      have l2 : e_op 60 [193, 1174 + 2 * x3] M = some (r_G M (1174 + 2 * x3)) := r_rd (by omega) (by omega)
      obtain ⟨s1, s2⟩ := (hr.2 x3 x2 (by omega) (by omega) h2 h3).2
      have hs := z3 x3 h0 (by omega)
      have w6 : e_w (r_G M (1174 + 2 * x3) - M 211 (31 * x3 + x2).toNat) = r_G M (1174 + 2 * x3) - M 211 (31 * x3 + x2).toNat := a_w_id (by omega) (by omega)
      have w7 : e_w (x2 + (r_G M (1174 + 2 * x3) - M 211 (31 * x3 + x2).toNat)) = x2 + (r_G M (1174 + 2 * x3) - M 211 (31 * x3 + x2).toNat) := a_w_id (by omega) (by omega)
      obtain ⟨r, k⟩ := ih (x2 + (r_G M (1174 + 2 * x3) - M 211 (31 * x3 + x2).toNat)) (x3 + 1) (by omega) (by omega) (by omega) (by omega) (by omega)
      refine ⟨r, ?_⟩
      rw [E_V_eq]
      show e_tv E_C (E_V 244) e_t244_35 [192, h, x2, x3] M = _
      unfold e_t244_35
      simp [e_tv, e_ev, e_sv, e_b1, e_b2, x_o1, x_o2, r_O0, r_O38, q, q_n, w1, w2, w3, w4, w5, w6, w7, l1, l2, k]
    · exact hend x2 x3 q h2 h3
theorem r_sells {h : Int} {M : EM} (hJ : r_J M) : r_Q 244 [192, h] M := by
  by_cases q0 : -1 ≤ h ∧ h ≤ 11
  · have i0 := r_in1 (M := M) q0
    obtain ⟨M1, k1, t1, t2, t3⟩ := r_findSales hJ
    rcases x_lt h 0 with ⟨q1, q1_n⟩ | ⟨q1, q1_n⟩
    · have l1 := r_ld10 (i := 0) (M := M1) (by decide) (by decide)
      refine ⟨M1 210 0, M1, ?_, t1.1, t2, t1.2.2.2.2⟩
      rw [r_ent (show e_rok 244 [192, h] = true from decide_eq_true r_ref)]
      show e_tv E_C (E_V 244) e_t244_0 [192, h, 0, 0] M = _
      unfold e_t244_0
      simp [e_tv, e_ev, e_sv, e_b1, e_b2, x_o1, x_o2, r_O37, i0, k1, q1, q1_n, l1]
    · obtain ⟨r, k⟩ := r_sells_loop (h := h) ⟨by omega, by omega⟩ t1 t3 _ 0 0 (Nat.le_refl _) (by decide) (by omega) (by decide) (r_Zof t1).1
      refine ⟨r, M1, ?_, t1.1, t2, t1.2.2.2.2⟩
      rw [r_ent (show e_rok 244 [192, h] = true from decide_eq_true r_ref)]
      show e_tv E_C (E_V 244) e_t244_0 [192, h, 0, 0] M = _
      unfold e_t244_0
      simp [e_tv, e_ev, e_sv, e_b1, e_b2, x_o1, x_o2, i0, k1, q1, q1_n, k]
  · have i0 := r_in0 (M := M) q0
    refine r_same (r := -1) hJ ?_
    rw [r_ent (show e_rok 244 [192, h] = true from decide_eq_true r_ref)]
    show e_tv E_C (E_V 244) e_t244_0 [192, h, 0, 0] M = _
    unfold e_t244_0
    simp [e_tv, e_ev, e_sv, e_b1, e_b2, x_o1, x_o2, i0]
end
section
/-! PARTING by the reference -/
theorem r_wp_in {d x3 x4 : Int} {M : EM} (hd : 0 ≤ d ∧ d ≤ 7) (h3 : 0 ≤ x3 ∧ x3 < 120) (H : ∀ x5, ∃ r, E_V 238 37 [192, d, 0, x3 + 1, x4, x5] M = some (r, M) ∧ (r = 0 ∨ r = -13)) : ∀ (m : Nat) (x5 : Int), (x3 - x5).toNat ≤ m → 0 ≤ x5 → ∃ r, E_V 238 84 [192, d, 0, x3, x4, x5] M = some (r, M) ∧ (r = 0 ∨ r = -13) := by
  have w0 : e_w (x3 + 1) = x3 + 1 := a_w_id (by omega) (by omega)
  have hend : ∀ x5, ¬ (x5 < x3) → ∃ r, E_V 238 84 [192, d, 0, x3, x4, x5] M = some (r, M) ∧ (r = 0 ∨ r = -13) := by
    intro x5 q
    obtain ⟨r, k, hr⟩ := H x5
    refine ⟨r, ?_, hr⟩
    rw [E_V_eq]
    show e_tv E_C (E_V 238) e_t238_84 [192, d, 0, x3, x4, x5] M = _
    unfold e_t238_84
    simp [e_tv, e_ev, e_sv, e_b1, e_b2, x_o1, x_o2, q, w0, k]
  intro m
  induction m with
  | zero => intro x5 hm h0; exact hend x5 (by omega)
  | succ m ih =>
    intro x5 hm h0
    rcases x_lt x5 x3 with ⟨q, q_n⟩ | ⟨q, q_n⟩
    · have w1 : e_w (120 * d) = 120 * d := a_w_id (by omega) (by omega)
      have w2 : e_w (120 * d + x5) = 120 * d + x5 := a_w_id (by omega) (by omega)
      have w4 : e_w (x5 + 1) = x5 + 1 := a_w_id (by omega) (by omega)
      have le := r_rdE (i := 120 * d + x5) (M := M) (by omega) (by omega)
      by_cases c : M 198 (120 * d + x5).toNat = x4
      · refine ⟨-13, ?_, Or.inr rfl⟩
        rw [E_V_eq]
        show e_tv E_C (E_V 238) e_t238_84 [192, d, 0, x3, x4, x5] M = _
        unfold e_t238_84
        simp [e_tv, e_ev, e_sv, e_b1, e_b2, x_o1, x_o2, r_O5, q, q_n, w1, w2, le, c]
      · obtain ⟨r, k, hr⟩ := ih (x5 + 1) (by omega) (by omega)
        refine ⟨r, ?_, hr⟩
        rw [E_V_eq]
        show e_tv E_C (E_V 238) e_t238_84 [192, d, 0, x3, x4, x5] M = _
        unfold e_t238_84
        simp [e_tv, e_ev, e_sv, e_b1, e_b2, x_o1, x_o2, r_O5, q, q_n, w1, w2, w4, le, c, k]
    · exact hend x5 q
/-- the first n elements of SHELF d are CELLS -/
def r_cells (M : EM) (d n : Int) : Prop := ∀ k, 0 ≤ k → k < n → r_cl (r_G M) 40 (M 198 (120 * d + k).toNat)
theorem r_wp_out {d : Int} {M : EM} (hJ : r_J M) (hd : 0 ≤ d ∧ d ≤ 7) : ∀ (m : Nat) (x3 x4 x5 : Int), (120 - x3).toNat ≤ m → 0 ≤ x3 → r_cells M d x3 → x3 ≤ M 197 d.toNat → ∃ r, E_V 238 37 [192, d, 0, x3, x4, x5] M = some (r, M) ∧ (r = 0 ∨ r = -13) ∧ (r = 0 → r_cells M d (M 197 d.toNat)) := by
  have hz := hJ.2.1 d.toNat (by omega)
  have ls := (r_isD d M hd).2.2.1
  have hW := (r_J_E hJ).2.1
  have hend : ∀ x3 x4 x5, ¬ (x3 < M 197 d.toNat) → r_cells M d x3 → x3 ≤ M 197 d.toNat → ∃ r, E_V 238 37 [192, d, 0, x3, x4, x5] M = some (r, M) ∧ (r = 0 ∨ r = -13) ∧ (r = 0 → r_cells M d (M 197 d.toNat)) := by
    intro x3 x4 x5 q hc h3
    refine ⟨0, ?_, Or.inl rfl, fun _ => by rw [show M 197 d.toNat = x3 by omega]; exact hc⟩
    rw [E_V_eq]
    show e_tv E_C (E_V 238) e_t238_37 [192, d, 0, x3, x4, x5] M = _
    unfold e_t238_37
    simp [e_tv, e_ev, e_sv, e_b1, e_b2, x_o1, x_o2, r_O4, ls, q]
  intro m
  induction m with
  | zero => intro x3 x4 x5 hm h0 hc h3; exact hend x3 x4 x5 (by omega) hc h3
  | succ m ih =>
    intro x3 x4 x5 hm h0 hc h3
    rcases x_lt x3 (M 197 d.toNat) with ⟨q, q_n⟩ | ⟨q, q_n⟩
    · have w1 : e_w (120 * d) = 120 * d := a_w_id (by omega) (by omega)
      have w2 : e_w (120 * d + x3) = 120 * d + x3 := a_w_id (by omega) (by omega)
      have le := r_rdE (i := 120 * d + x3) (M := M) (by omega) (by omega)
      generalize hp : M 198 (120 * d + x3).toNat = p at le
      by_cases c1 : 0 ≤ p ∧ p < r_G M 1198
      · have ip := r_ip1 hW c1
        have h40 := r_40 hW c1
        have kk : E_C 170 [192, p] M = some (r_G M (28 * p), M) := r_kind h40
        by_cases c2 : r_G M (28 * p) = 0
        · have hcl : r_cl (r_G M) 40 p := r_cl_up (r_pt_cell (r_pt_of hW c1) c2) hW.2.1
          have hc' : r_cells M d (x3 + 1) := by
            intro k k0 k1
            by_cases hk : k = x3
            · subst hk; rw [hp]; exact hcl
            · exact hc k k0 (by omega)
          have HH : ∀ y5, ∃ r, E_V 238 37 [192, d, 0, x3 + 1, p, y5] M = some (r, M) ∧ (r = 0 ∨ r = -13) ∧ (r = 0 → r_cells M d (M 197 d.toNat)) := fun y5 => ih (x3 + 1) p y5 (by omega) (by omega) hc' (by omega)
          obtain ⟨r, k, hr⟩ := r_wp_in (x4 := p) hd ⟨h0, by omega⟩ (fun y5 => by
            obtain ⟨r, k, hr, -⟩ := HH y5
            exact ⟨r, k, hr⟩) _ 0 (Nat.le_refl _) (by decide)
          refine ⟨r, ?_, hr, fun hr0 => ?_⟩
          · rw [E_V_eq]
            show e_tv E_C (E_V 238) e_t238_37 [192, d, 0, x3, x4, x5] M = _
            unfold e_t238_37
            simp [e_tv, e_ev, e_sv, e_b1, e_b2, x_o1, x_o2, r_O4, r_O5, ls, q, q_n, w1, w2, le, ip, kk, c2, k]
          · -- r = 0 says that what follows said 0
            by_cases hx : x3 + 1 = M 197 d.toNat
            · rw [← hx]; exact hc'
            · have key : ∀ (m : Nat) (y5 : Int), (x3 - y5).toNat ≤ m → 0 ≤ y5 → ∀ r, E_V 238 84 [192, d, 0, x3, p, y5] M = some (r, M) → r = 0 → r_cells M d (M 197 d.toNat) := by
                intro m
                induction m with
                | zero =>
                  intro y5 hm1 hy0 r1 hk1 hr1
                  obtain ⟨r2, k2, -, h2⟩ := HH y5
                  have w0 : e_w (x3 + 1) = x3 + 1 := a_w_id (by omega) (by omega)
                  have hq : ¬ (y5 < x3) := by omega
                  rw [E_V_eq] at hk1
                  have e : e_tv E_C (E_V 238) e_t238_84 [192, d, 0, x3, p, y5] M = some (r2, M) := by
                    unfold e_t238_84
                    simp [e_tv, e_ev, e_sv, e_b1, e_b2, x_o1, x_o2, hq, w0, k2]
                  have e2 := hk1.symm.trans e
                  cases e2
                  exact h2 hr1
                | succ m ihm =>
                  intro y5 hm1 hy0 r1 hk1 hr1
                  rcases x_lt y5 x3 with ⟨hq, hq_n⟩ | ⟨hq, hq_n⟩
                  · have v2 : e_w (120 * d + y5) = 120 * d + y5 := a_w_id (by omega) (by omega)
                    have v4 : e_w (y5 + 1) = y5 + 1 := a_w_id (by omega) (by omega)
                    have ve := r_rdE (i := 120 * d + y5) (M := M) (by omega) (by omega)
                    rw [E_V_eq] at hk1
                    by_cases c : M 198 (120 * d + y5).toNat = p
                    · have e : e_tv E_C (E_V 238) e_t238_84 [192, d, 0, x3, p, y5] M = some (-13, M) := by
                        unfold e_t238_84
                        simp [e_tv, e_ev, e_sv, e_b1, e_b2, x_o1, x_o2, r_O5, hq, hq_n, w1, v2, ve, c]
                      have e2 := hk1.symm.trans e
                      cases e2
                      exact absurd hr1 (by decide)
                    · have e : e_tv E_C (E_V 238) e_t238_84 [192, d, 0, x3, p, y5] M = E_V 238 84 [192, d, 0, x3, p, y5 + 1] M := by
                        unfold e_t238_84
                        simp [e_tv, e_ev, e_sv, e_b1, e_b2, x_o1, x_o2, r_O5, hq, hq_n, w1, v2, v4, ve, c]
                      exact ihm (y5 + 1) (by omega) (by omega) r1 (e.symm.trans hk1) hr1
                  · obtain ⟨r2, k2, -, h2⟩ := HH y5
                    have w0 : e_w (x3 + 1) = x3 + 1 := a_w_id (by omega) (by omega)
                    rw [E_V_eq] at hk1
                    have e : e_tv E_C (E_V 238) e_t238_84 [192, d, 0, x3, p, y5] M = some (r2, M) := by
                      unfold e_t238_84
                      simp [e_tv, e_ev, e_sv, e_b1, e_b2, x_o1, x_o2, hq, hq_n, w0, k2]
                    have e2 := hk1.symm.trans e
                    cases e2
                    exact h2 hr1
              exact key _ 0 (Nat.le_refl _) (by decide) r k hr0
        · refine ⟨-13, ?_, Or.inr rfl, fun h => absurd h (by decide)⟩
          rw [E_V_eq]
          show e_tv E_C (E_V 238) e_t238_37 [192, d, 0, x3, x4, x5] M = _
          unfold e_t238_37
          simp [e_tv, e_ev, e_sv, e_b1, e_b2, x_o1, x_o2, r_O4, r_O5, ls, q, q_n, w1, w2, le, ip, kk, c2]
      · have ip := r_ip0 hW c1
        refine ⟨-13, ?_, Or.inr rfl, fun h => absurd h (by decide)⟩
        rw [E_V_eq]
        show e_tv E_C (E_V 238) e_t238_37 [192, d, 0, x3, x4, x5] M = _
        unfold e_t238_37
        simp [e_tv, e_ev, e_sv, e_b1, e_b2, x_o1, x_o2, r_O4, r_O5, ls, q, q_n, w1, w2, le, ip]
    · exact hend x3 x4 x5 q hc h3
theorem r_wrongParting {d : Int} {M : EM} (hJ : r_J M) : ∃ r, E_C 238 [192, d] M = some (r, M) ∧ (r = 0 → (0 ≤ d ∧ d ≤ 7) ∧ 2 ≤ M 197 d.toNat ∧ M 197 d.toNat ≤ 8 ∧ r_cells M d (M 197 d.toNat)) := by
  obtain ⟨n, kn, -, hn⟩ := r_wrongRow d 0 M
  by_cases q : n = 0
  · subst q
    have hd := hn rfl
    have ls := (r_isD d M hd).2.2.1
    by_cases q1 : 2 ≤ M 197 d.toNat ∧ M 197 d.toNat ≤ 8
    · have i1 := r_in1 (M := M) q1
      obtain ⟨r, k, -, hr⟩ := r_wp_out hJ hd 120 0 0 0 (by decide) (by decide) (fun k k0 k1 => by omega) (by omega)
      refine ⟨r, ?_, fun h => ⟨hd, q1.1, q1.2, hr h⟩⟩
      rw [r_ent (show e_rok 238 [192, d] = true from decide_eq_true r_ref)]
      show e_tv E_C (E_V 238) e_t238_0 [192, d, 0, 0, 0, 0] M = _
      unfold e_t238_0
      simp [e_tv, e_ev, e_sv, e_b1, e_b2, x_o1, x_o2, r_O4, kn, ls, i1, k]
    · have i1 := r_in0 (M := M) q1
      refine ⟨-13, ?_, fun h => absurd h (by decide)⟩
      rw [r_ent (show e_rok 238 [192, d] = true from decide_eq_true r_ref)]
      show e_tv E_C (E_V 238) e_t238_0 [192, d, 0, 0, 0, 0] M = _
      unfold e_t238_0
      simp [e_tv, e_ev, e_sv, e_b1, e_b2, x_o1, x_o2, r_O4, kn, ls, i1]
  · refine ⟨n, ?_, fun h => absurd h q⟩
    rw [r_ent (show e_rok 238 [192, d] = true from decide_eq_true r_ref)]
    show e_tv E_C (E_V 238) e_t238_0 [192, d, 0, 0, 0, 0] M = _
    unfold e_t238_0
    simp [e_tv, e_ev, e_sv, e_b1, e_b2, x_o1, x_o2, kn, q]
theorem r_e5 {M : EM} {k : Nat} {v : Int} (hk : k < 1000) (hv : -2147483648 ≤ v ∧ v ≤ 2147483647) (hJ : r_J M) : r_J (e_up M 205 k v) ∧ a_fr r_wq M (e_up M 205 k v) := r_qarr (n := 999) (by decide) (by omega) hv hJ
theorem r_e6 {M : EM} {k : Nat} {v : Int} (hk : k < 100) (hv : -2147483648 ≤ v ∧ v ≤ 2147483647) (hJ : r_J M) : r_J (e_up M 206 k v) ∧ a_fr r_wq M (e_up M 206 k v) := r_qarr (n := 99) (by decide) (by omega) hv hJ
theorem r_ev_J {M M' : EM} (hJ : r_J M) (h : r_ev M M') : r_J M' := r_J_q hJ h.1 (r_evq h) (by rw [r_ev_same h (by decide) (by decide)]; exact hJ.2.2.2.2)
theorem r_gset_in {S n x3 : Int} (hn : n ≤ 8) (h3 : 0 ≤ x3 ∧ x3 < 100) (H : ∀ M, r_J M → ∀ x4, ∃ M', E_V 239 2 [192, S, n, x3 + 1, x4] M = some (0, M') ∧ r_J M' ∧ a_fr r_wq M M') : ∀ (m : Nat) (x4 : Int) (M : EM), r_J M → (n - x4).toNat ≤ m → 0 ≤ x4 → ∃ M', E_V 239 18 [192, S, n, x3, x4] M = some (0, M') ∧ r_J M' ∧ a_fr r_wq M M' := by
  have w0 : e_w (x3 + 1) = x3 + 1 := a_w_id (by omega) (by omega)
  have hend : ∀ x4 M, r_J M → ¬ (x4 < n) → ∃ M', E_V 239 18 [192, S, n, x3, x4] M = some (0, M') ∧ r_J M' ∧ a_fr r_wq M M' := by
    intro x4 M hJ q
    obtain ⟨M', k, t⟩ := H M hJ x4
    refine ⟨M', ?_, t⟩
    rw [E_V_eq]
    show e_tv E_C (E_V 239) e_t239_18 [192, S, n, x3, x4] M = _
    unfold e_t239_18
    simp [e_tv, e_ev, e_sv, e_b1, e_b2, x_o1, x_o2, q, w0, k]
  intro m
  induction m with
  | zero => intro x4 M hJ hm h0; exact hend x4 M hJ (by omega)
  | succ m ih =>
    intro x4 M hJ hm h0
    rcases x_lt x4 n with ⟨q, q_n⟩ | ⟨q, q_n⟩
    · have w1 : e_w (100 * x4) = 100 * x4 := a_w_id (by omega) (by omega)
      have w2 : e_w (100 * x4 + x3) = 100 * x4 + x3 := a_w_id (by omega) (by omega)
      have w4 : e_w (x4 + 1) = x4 + 1 := a_w_id (by omega) (by omega)
      have g1 := r_rd6 (M := M) h3.1 h3.2
      have g2 : e_op 60 [209, 100 * x4 + x3] M = some (M 209 (100 * x4 + x3).toNat) := r_rdA (a := 209) (n := 799) (by decide) (by decide) (by decide +kernel) (by omega) (by omega)
      by_cases c : e_bit (fun x y => x &&& y) (e_bit (fun x y => x >>> (y &&& 31)) S x4) 1 = 1
      · obtain ⟨u1, u2⟩ := r_e6 (M := M) (k := x3.toNat) (v := e_w (M 206 x3.toNat + M 209 (100 * x4 + x3).toNat)) (by omega) (a_w _) hJ
        obtain ⟨M', k, t1, t2⟩ := ih (x4 + 1) _ u1 (by omega) (by omega)
        refine ⟨M', ?_, t1, a_fr_tr u2 t2⟩
        rw [E_V_eq]
        show e_tv E_C (E_V 239) e_t239_18 [192, S, n, x3, x4] M = _
        unfold e_t239_18
        simp [e_tv, e_ev, e_sv, e_b1, e_b2, x_o1, x_o2, r_O26, r_O36, q, q_n, w1, w2, w4, g1, g2, c, r_st6 h3.1 h3.2, k]
      · obtain ⟨u1, u2⟩ := r_e6 (M := M) (k := x3.toNat) (v := e_w (M 206 x3.toNat + 0)) (by omega) (a_w _) hJ
        obtain ⟨M', k, t1, t2⟩ := ih (x4 + 1) _ u1 (by omega) (by omega)
        refine ⟨M', ?_, t1, a_fr_tr u2 t2⟩
        rw [Int.add_zero] at k
        rw [E_V_eq]
        show e_tv E_C (E_V 239) e_t239_18 [192, S, n, x3, x4] M = _
        unfold e_t239_18
        simp [e_tv, e_ev, e_sv, e_b1, e_b2, x_o1, x_o2, r_O26, r_O36, q, q_n, w4, g1, c, r_st6 h3.1 h3.2, k]
    · exact hend x4 M hJ q
theorem r_gset_out {S n : Int} (hn : n ≤ 8) : ∀ (m : Nat) (x3 x4 : Int) (M : EM), r_J M → (100 - x3).toNat ≤ m → 0 ≤ x3 → ∃ M', E_V 239 2 [192, S, n, x3, x4] M = some (0, M') ∧ r_J M' ∧ a_fr r_wq M M' := by
  have hend : ∀ x3 x4 M, r_J M → ¬ (x3 < 100) → ∃ M', E_V 239 2 [192, S, n, x3, x4] M = some (0, M') ∧ r_J M' ∧ a_fr r_wq M M' := by
    intro x3 x4 M hJ q
    obtain ⟨M', k, e⟩ := r_givesBy hJ.1
    refine ⟨M', ?_, r_ev_J hJ e, r_evq e⟩
    rw [E_V_eq]
    show e_tv E_C (E_V 239) e_t239_2 [192, S, n, x3, x4] M = _
    unfold e_t239_2
    simp [e_tv, e_ev, e_sv, e_b1, e_b2, x_o1, x_o2, q, k]
  intro m
  induction m with
  | zero => intro x3 x4 M hJ hm h0; exact hend x3 x4 M hJ (by omega)
  | succ m ih =>
    intro x3 x4 M hJ hm h0
    rcases x_lt x3 100 with ⟨q, q_n⟩ | ⟨q, q_n⟩
    · obtain ⟨u1, u2⟩ := r_e6 (M := M) (k := x3.toNat) (v := 0) (by omega) (by decide) hJ
      obtain ⟨M', k, t1, t2⟩ := r_gset_in (S := S) hn ⟨h0, q⟩ (fun M1 j1 y4 => ih (x3 + 1) y4 M1 j1 (by omega) (by omega)) _ 0 _ u1 (Nat.le_refl _) (by decide)
      refine ⟨M', ?_, t1, a_fr_tr u2 t2⟩
      rw [E_V_eq]
      show e_tv E_C (E_V 239) e_t239_2 [192, S, n, x3, x4] M = _
      unfold e_t239_2
      simp [e_tv, e_ev, e_sv, e_b1, e_b2, x_o1, x_o2, r_O26, q, q_n, r_st6 h0 q, q_n, k]
    · exact hend x3 x4 M hJ q
theorem r_givesSet {S n : Int} {M : EM} (hn : n ≤ 8) (hJ : r_J M) : ∃ M', E_C 239 [192, S, n] M = some (0, M') ∧ r_J M' ∧ a_fr r_wq M M' := by
  obtain ⟨M', k, t⟩ := r_gset_out (S := S) hn 100 0 0 M hJ (by decide) (by decide)
  refine ⟨M', ?_, t⟩
  rw [r_ent (show e_rok 239 [192, S, n] = true from decide_eq_true r_ref)]
  show e_tv E_C (E_V 239) e_t239_0 [192, S, n, 0, 0] M = _
  unfold e_t239_0
  simp [e_tv, e_ev, e_sv, e_b1, e_b2, x_o1, x_o2, k]
theorem r_shl8 {n : Int} (h : 2 ≤ n ∧ n ≤ 8) : 0 ≤ e_bit (fun x y => x <<< (y &&& 31)) 1 n ∧ e_bit (fun x y => x <<< (y &&& 31)) 1 n ≤ 256 := by
  have key : ∀ k : Fin 9, 0 ≤ e_bit (fun x y => x <<< (y &&& 31)) 1 (k.val : Int) ∧ e_bit (fun x y => x <<< (y &&& 31)) 1 (k.val : Int) ≤ 256 := by decide +kernel
  have := key ⟨n.toNat, by omega⟩
  rwa [show ((⟨n.toNat, by omega⟩ : Fin 9).val : Int) = n from Int.toNat_of_nonneg (by omega)] at this
theorem r_pz_in {d w n x5 x6 S : Int} (hn : 2 ≤ n ∧ n ≤ 8) (hS : 0 ≤ S ∧ S ≤ 1000) (H : ∀ M, r_J M → ∀ y5 y6 y8, ∃ r M', E_V 240 104 [192, d, w, 0, n, y5, y6, S + 2, y8] M = some (r, M') ∧ r_J M' ∧ a_fr r_wq M M') : ∀ (m : Nat) (x8 : Int) (M : EM), r_J M → (1000 - x8).toNat ≤ m → 0 ≤ x8 → ∃ r M', E_V 240 116 [192, d, w, 0, n, x5, x6, S, x8] M = some (r, M') ∧ r_J M' ∧ a_fr r_wq M M' := by
  have w2 : e_w (S + 2) = S + 2 := a_w_id (by omega) (by omega)
  have hend : ∀ x8 M, r_J M → ¬ (x8 < 1000) → ∃ r M', E_V 240 116 [192, d, w, 0, n, x5, x6, S, x8] M = some (r, M') ∧ r_J M' ∧ a_fr r_wq M M' := by
    intro x8 M hJ q
    obtain ⟨M1, k1, t1, t2⟩ := r_givesSet (S := S) hn.2 hJ
    obtain ⟨M2, k2, u1, u2⟩ := r_givesSet (S := e_bit (fun x y => x &&& y) (e_w (e_bit (fun x y => x <<< (y &&& 31)) 1 n - 1)) (e_bit (fun x y => x ^^^ y) S (-1))) hn.2 t1
    obtain ⟨b, kb, hb⟩ := r_bestOf u1.1
    have g1 := r_rd5 (M := M2) hb.1 (by omega)
    have hgo : ∀ y5 y6, ∃ r M', E_V 240 203 [192, d, w, 0, n, y5, y6, S, b] M2 = some (r, M') ∧ r_J M' ∧ a_fr r_wq M2 M' := by
      intro y5 y6
      obtain ⟨r, M', k, t⟩ := H M2 u1 y5 y6 b
      refine ⟨r, M', ?_, t⟩
      rw [E_V_eq]
      show e_tv E_C (E_V 240) e_t240_203 [192, d, w, 0, n, y5, y6, S, b] M2 = _
      unfold e_t240_203
      simp [e_tv, e_ev, e_sv, e_b1, e_b2, x_o1, x_o2, w2, k]
    rcases x_le (e_w (b * M2 205 b.toNat)) x6 with ⟨c, c_n⟩ | ⟨c, c_n⟩
    · obtain ⟨r, M', k, v1, v2⟩ := hgo x5 x6
      refine ⟨r, M', ?_, v1, a_fr_tr t2 (a_fr_tr u2 v2)⟩
      rw [E_V_eq]
      show e_tv E_C (E_V 240) e_t240_116 [192, d, w, 0, n, x5, x6, S, x8] M = _
      unfold e_t240_116
      simp [e_tv, e_ev, e_sv, e_b1, e_b2, x_o1, x_o2, r_O25, q, k1, k2, kb, g1, c, c_n, k]
    · obtain ⟨r, M', k, v1, v2⟩ := hgo S (e_w (b * M2 205 b.toNat))
      refine ⟨r, M', ?_, v1, a_fr_tr t2 (a_fr_tr u2 v2)⟩
      rw [E_V_eq]
      show e_tv E_C (E_V 240) e_t240_116 [192, d, w, 0, n, x5, x6, S, x8] M = _
      unfold e_t240_116
      simp [e_tv, e_ev, e_sv, e_b1, e_b2, x_o1, x_o2, r_O25, q, k1, k2, kb, g1, c, c_n, k]
  intro m
  induction m with
  | zero => intro x8 M hJ hm h0; exact hend x8 M hJ (by omega)
  | succ m ih =>
    intro x8 M hJ hm h0
    rcases x_lt x8 1000 with ⟨q, q_n⟩ | ⟨q, q_n⟩
    · have w4 : e_w (x8 + 1) = x8 + 1 := a_w_id (by omega) (by omega)
      obtain ⟨u1, u2⟩ := r_e5 (M := M) (k := x8.toNat) (v := 0) (by omega) (by decide) hJ
      obtain ⟨r, M', k, t1, t2⟩ := ih (x8 + 1) _ u1 (by omega) (by omega)
      refine ⟨r, M', ?_, t1, a_fr_tr u2 t2⟩
      rw [E_V_eq]
      show e_tv E_C (E_V 240) e_t240_116 [192, d, w, 0, n, x5, x6, S, x8] M = _
      unfold e_t240_116
      simp [e_tv, e_ev, e_sv, e_b1, e_b2, x_o1, x_o2, r_O25, q, q_n, w4, r_st5 h0 q, q_n, k]
    · exact hend x8 M hJ q
theorem r_pz_out {d w n : Int} (hn : 2 ≤ n ∧ n ≤ 8) : ∀ (m : Nat) (x5 x6 S x8 : Int) (M : EM), r_J M → (260 - S).toNat ≤ m → 0 ≤ S → ∃ r M', E_V 240 104 [192, d, w, 0, n, x5, x6, S, x8] M = some (r, M') ∧ r_J M' ∧ a_fr r_wq M M' := by
  have hb := r_shl8 hn
  have hend : ∀ x5 x6 S x8 M, r_J M → ¬ (S < e_bit (fun x y => x <<< (y &&& 31)) 1 n) → ∃ r M', E_V 240 104 [192, d, w, 0, n, x5, x6, S, x8] M = some (r, M') ∧ r_J M' ∧ a_fr r_wq M M' := by
    intro x5 x6 S x8 M hJ q
    by_cases c : w = 0
    · refine ⟨x6, M, ?_, hJ, a_fr_rf⟩
      rw [E_V_eq]
      show e_tv E_C (E_V 240) e_t240_104 [192, d, w, 0, n, x5, x6, S, x8] M = _
      unfold e_t240_104
      simp [e_tv, e_ev, e_sv, e_b1, e_b2, x_o1, x_o2, q, c]
    · refine ⟨x5, M, ?_, hJ, a_fr_rf⟩
      rw [E_V_eq]
      show e_tv E_C (E_V 240) e_t240_104 [192, d, w, 0, n, x5, x6, S, x8] M = _
      unfold e_t240_104
      simp [e_tv, e_ev, e_sv, e_b1, e_b2, x_o1, x_o2, q, c]
  intro m
  induction m with
  | zero => intro x5 x6 S x8 M hJ hm h0; exact hend x5 x6 S x8 M hJ (by omega)
  | succ m ih =>
    intro x5 x6 S x8 M hJ hm h0
    by_cases q : S < e_bit (fun x y => x <<< (y &&& 31)) 1 n
    · obtain ⟨r, M', k, t⟩ := r_pz_in (d := d) (w := w) (x5 := x5) (x6 := x6) hn ⟨h0, by omega⟩ (fun M1 j1 y5 y6 y8 => ih y5 y6 (S + 2) y8 M1 j1 (by omega) (by omega)) 1000 0 M hJ (by decide) (by decide)
      refine ⟨r, M', ?_, t⟩
      rw [E_V_eq]
      show e_tv E_C (E_V 240) e_t240_104 [192, d, w, 0, n, x5, x6, S, x8] M = _
      unfold e_t240_104
      simp [e_tv, e_ev, e_sv, e_b1, e_b2, x_o1, x_o2, q, k]
    · exact hend x5 x6 S x8 M hJ q
theorem r_q_same {M M' : EM} (h : a_fr r_wq M M') {id k : Nat} (hi : 193 ≤ id ∧ id ≤ 201) : M' id k = M id k := r_wq_out h (by omega)
theorem r_pt_in {d w n x5 : Int} (hd : 0 ≤ d ∧ d ≤ 7) (hn : 2 ≤ n ∧ n ≤ 8) (h5 : 0 ≤ x5 ∧ x5 < n) (H : ∀ M, r_J M → r_cells M d n → ∀ y6 y7 y8, ∃ r M', E_V 240 35 [192, d, w, 0, n, x5 + 1, y6, y7, y8] M = some (r, M') ∧ r_J M' ∧ a_fr r_wq M M') : ∀ (m : Nat) (x6 x7 x8 : Int) (M : EM), r_J M → r_cells M d n → (100 - x6).toNat ≤ m → 0 ≤ x6 → ∃ r M', E_V 240 45 [192, d, w, 0, n, x5, x6, x7, x8] M = some (r, M') ∧ r_J M' ∧ a_fr r_wq M M' := by
  have w0 : e_w (x5 + 1) = x5 + 1 := a_w_id (by omega) (by omega)
  have hend : ∀ x6 x7 x8 M, r_J M → r_cells M d n → ¬ (x6 < 100) → ∃ r M', E_V 240 45 [192, d, w, 0, n, x5, x6, x7, x8] M = some (r, M') ∧ r_J M' ∧ a_fr r_wq M M' := by
    intro x6 x7 x8 M hJ hc q
    obtain ⟨r, M', k, t⟩ := H M hJ hc x6 x7 x8
    refine ⟨r, M', ?_, t⟩
    rw [E_V_eq]
    show e_tv E_C (E_V 240) e_t240_45 [192, d, w, 0, n, x5, x6, x7, x8] M = _
    unfold e_t240_45
    simp [e_tv, e_ev, e_sv, e_b1, e_b2, x_o1, x_o2, q, w0, k]
  intro m
  induction m with
  | zero => intro x6 x7 x8 M hJ hc hm h0; exact hend x6 x7 x8 M hJ hc (by omega)
  | succ m ih =>
    intro x6 x7 x8 M hJ hc hm h0
    rcases x_lt x6 100 with ⟨q, q_n⟩ | ⟨q, q_n⟩
    · have w1 : e_w (120 * d) = 120 * d := a_w_id (by omega) (by omega)
      have w2 : e_w (120 * d + x5) = 120 * d + x5 := a_w_id (by omega) (by omega)
      have w3 : e_w (100 * x5) = 100 * x5 := a_w_id (by omega) (by omega)
      have w4 : e_w (100 * x5 + x6) = 100 * x5 + x6 := a_w_id (by omega) (by omega)
      have w5 : e_w (x6 + 1) = x6 + 1 := a_w_id (by omega) (by omega)
      have le := r_rdE (i := 120 * d + x5) (M := M) (by omega) (by omega)
      obtain ⟨l, kl, hl⟩ := r_lowPush (b := 40) (c := x6) (r_J_E hJ) (by decide) (Or.inl (hc x5 h5.1 h5.2))
      obtain ⟨u1, u2⟩ := r_qarr (a := 209) (n := 799) (k := (100 * x5 + x6).toNat) (by decide) (by omega) hl hJ
      have st : e_st 100 [209, 100 * x5 + x6, l] M = some (e_up M 209 (100 * x5 + x6).toNat l) := r_stA (a := 209) (n := 799) (by decide) (by decide) (by decide +kernel) (by omega) (by omega)
      have hc' : r_cells (e_up M 209 (100 * x5 + x6).toNat l) d n := by
        unfold r_cells
        rw [r_q_G u2]
        intro k k0 k1
        rw [r_q_same u2 (by decide)]
        exact hc k k0 k1
      obtain ⟨r, M', k, t1, t2⟩ := ih (x6 + 1) x7 x8 _ u1 hc' (by omega) (by omega)
      refine ⟨r, M', ?_, t1, a_fr_tr u2 t2⟩
      rw [E_V_eq]
      show e_tv E_C (E_V 240) e_t240_45 [192, d, w, 0, n, x5, x6, x7, x8] M = _
      unfold e_t240_45
      simp [e_tv, e_ev, e_sv, e_b1, e_b2, x_o1, x_o2, r_O5, r_O36, q, q_n, w1, w2, w3, w4, w5, le, kl, st, k]
    · exact hend x6 x7 x8 M hJ hc q
theorem r_pt_out {d w n : Int} (hd : 0 ≤ d ∧ d ≤ 7) (hn : 2 ≤ n ∧ n ≤ 8) : ∀ (m : Nat) (x5 x6 x7 x8 : Int) (M : EM), r_J M → r_cells M d n → (8 - x5).toNat ≤ m → 0 ≤ x5 → ∃ r M', E_V 240 35 [192, d, w, 0, n, x5, x6, x7, x8] M = some (r, M') ∧ r_J M' ∧ a_fr r_wq M M' := by
  have hend : ∀ x5 x6 x7 x8 M, r_J M → r_cells M d n → ¬ (x5 < n) → ∃ r M', E_V 240 35 [192, d, w, 0, n, x5, x6, x7, x8] M = some (r, M') ∧ r_J M' ∧ a_fr r_wq M M' := by
    intro x5 x6 x7 x8 M hJ hc q
    obtain ⟨r, M', k, t⟩ := r_pz_out (d := d) (w := w) hn 258 0 (-1) 2 x8 M hJ (by decide) (by decide)
    refine ⟨r, M', ?_, t⟩
    rw [E_V_eq]
    show e_tv E_C (E_V 240) e_t240_35 [192, d, w, 0, n, x5, x6, x7, x8] M = _
    unfold e_t240_35
    simp [e_tv, e_ev, e_sv, e_b1, e_b2, x_o1, x_o2, q, k]
  intro m
  induction m with
  | zero => intro x5 x6 x7 x8 M hJ hc hm h0; exact hend x5 x6 x7 x8 M hJ hc (by omega)
  | succ m ih =>
    intro x5 x6 x7 x8 M hJ hc hm h0
    rcases x_lt x5 n with ⟨q, q_n⟩ | ⟨q, q_n⟩
    · obtain ⟨r, M', k, t⟩ := r_pt_in (w := w) hd hn ⟨h0, q⟩ (fun M1 j1 c1 y6 y7 y8 => ih (x5 + 1) y6 y7 y8 M1 j1 c1 (by omega) (by omega)) 100 0 x7 x8 M hJ hc (by decide) (by decide)
      refine ⟨r, M', ?_, t⟩
      rw [E_V_eq]
      show e_tv E_C (E_V 240) e_t240_35 [192, d, w, 0, n, x5, x6, x7, x8] M = _
      unfold e_t240_35
      simp [e_tv, e_ev, e_sv, e_b1, e_b2, x_o1, x_o2, q, q_n, k]
    · exact hend x5 x6 x7 x8 M hJ hc q
theorem r_parting {d w : Int} {M : EM} (hJ : r_J M) : r_Q 240 [192, d, w] M := by
  by_cases q0 : 0 ≤ w ∧ w ≤ 1
  · have i0 := r_in1 (M := M) q0
    obtain ⟨n, kn, hn⟩ := r_wrongParting (d := d) hJ
    by_cases q : n = 0
    · subst q
      obtain ⟨hd, h2, h8, hc⟩ := hn rfl
      have ls := (r_isD d M hd).2.2.1
      obtain ⟨r, M', k, t1, t2⟩ := r_pt_out (w := w) hd ⟨h2, h8⟩ 8 0 0 0 0 M hJ hc (by decide) (by decide)
      refine ⟨r, M', ?_, t1.1, t2, t1.2.2.2.2⟩
      rw [r_ent (show e_rok 240 [192, d, w] = true from decide_eq_true r_ref)]
      show e_tv E_C (E_V 240) e_t240_0 [192, d, w, 0, 0, 0, 0, 0, 0] M = _
      unfold e_t240_0
      simp [e_tv, e_ev, e_sv, e_b1, e_b2, x_o1, x_o2, r_O4, i0, kn, ls, k]
    · refine r_same (r := n) hJ ?_
      rw [r_ent (show e_rok 240 [192, d, w] = true from decide_eq_true r_ref)]
      show e_tv E_C (E_V 240) e_t240_0 [192, d, w, 0, 0, 0, 0, 0, 0] M = _
      unfold e_t240_0
      simp [e_tv, e_ev, e_sv, e_b1, e_b2, x_o1, x_o2, i0, kn, q]
  · have i0 := r_in0 (M := M) q0
    refine r_same (r := -1) hJ ?_
    rw [r_ent (show e_rok 240 [192, d, w] = true from decide_eq_true r_ref)]
    show e_tv E_C (E_V 240) e_t240_0 [192, d, w, 0, 0, 0, 0, 0, 0] M = _
    unfold e_t240_0
    simp [e_tv, e_ev, e_sv, e_b1, e_b2, x_o1, x_o2, i0]
end
