theorem h_image {r1 r2 : Int} {M M1 M2 : EM} (hB : h_B M 0 (r_G M)) (k1 : E_C 136 [8] M = some (r1, M1)) (k2 : E_C 255 [192] M1 = some (r2, M2)) : r1 = r2 ∧ h_B M2 0 (r_G M2) ∧ h_B M2 68 (r_Gi M2) := by
  obtain ⟨N, c1, c2⟩ := p_image M
  have e1 := Prod.mk.inj (Option.some.inj (k1.symm.trans c1))
  obtain ⟨e1, e2⟩ := e1
  subst e1
  subst e2
  have e3 := Prod.mk.inj (Option.some.inj (k2.symm.trans (r_image _)))
  obtain ⟨e3, e4⟩ := e3
  obtain ⟨p0, p1⟩ := h_cp c2
  have far : ∀ id j, id < 78 ∨ 145 < id → N id j = M id j := fun id j h => c2.2.1 _ _ (fun w hw e => by have := c2.2.2 w hw; omega)
  have h40 := hB.2.1.2
  have z : ∀ id j, id ≠ 8 → id ≠ 192 → id ≠ 194 → M2 id j = N id j := fun id j a b c => by
    rw [e4, c_up_n (fun e => b e.1), r_cp_n c, c_up_n (fun e => a e.1)]
  have zi : ∀ j, j < 1330 → M2 194 j = M 193 j := fun j hj => by
    rw [e4, c_up_n (fun e => by omega), r_cp_t hj, c_up_n (fun e => by omega)]
    exact far _ _ (by omega)
  have eG : r_G M2 = r_G M := funext fun i => (z _ _ (by decide) (by decide) (by decide)).trans (far _ _ (by omega))
  refine ⟨?_, ?_, ?_⟩
  · rw [e3]
    exact hB.1.trans ((far 193 1198 (by omega)).symm.trans (c_up_n (fun e => by omega)).symm)
  · rw [eG]
    exact h_B_cg hB ((z _ _ (by decide) (by decide) (by decide)).trans (far _ _ (by omega))) rfl (fun q _ => ⟨(z _ _ (by decide) (by decide) (by decide)).trans (far _ _ (by omega)), (z _ _ (by decide) (by decide) (by decide)).trans (far _ _ (by omega)), rfl, rfl⟩)
  · obtain ⟨b1, b2, b3⟩ := hB
    have eg : ∀ i : Int, 0 ≤ i → i < 1330 → r_Gi M2 i = r_G M i := fun i i0 i1 => zi i.toNat (by omega)
    rw [show h_B M2 68 (r_Gi M2) = h_B M2 68 (r_Gi M2) from rfl]
    refine ⟨?_, ?_, fun q hq => ?_⟩
    · rw [eg _ (by decide) (by decide), ← b1]
      exact (z 78 0 (by decide) (by decide) (by decide)).trans p0
    · rw [eg _ (by decide) (by decide)]; exact b2
    · have e98 := eg 1198 (by decide) (by decide)
      rw [e98] at hq ⊢
      obtain ⟨a1, a2, a3, a4⟩ := b3 q hq
      rw [eg _ (by omega) (by omega), eg _ (by omega) (by omega)]
      exact ⟨(z 79 q (by decide) (by decide) (by decide)).trans ((p1 q (by omega)).1.trans a1), (z 81 q (by decide) (by decide) (by decide)).trans ((p1 q (by omega)).2.trans a2), a3, a4⟩
theorem h_restore {r1 r2 : Int} {M M1 M2 : EM} (hfl : M 8 2 = M 192 9) (hB : h_B M 0 (r_G M)) (hI : h_B M 68 (r_Gi M)) (k1 : E_C 137 [8] M = some (r1, M1)) (k2 : E_C 256 [192] M1 = some (r2, M2)) : r1 = r2 ∧ h_B M2 0 (r_G M2) ∧ h_B M2 68 (r_Gi M2) := by
  by_cases z : M 8 2 = 0
  · have e1 := Prod.mk.inj (Option.some.inj (k1.symm.trans (p_restore0 z)))
    obtain ⟨e1, e2⟩ := e1
    subst e1
    subst e2
    rw [r_restore, if_pos (hfl ▸ z)] at k2
    have e3 := Prod.mk.inj (Option.some.inj k2)
    rw [← e3.1, ← e3.2]
    exact ⟨rfl, hB, hI⟩
  · obtain ⟨N, c1, c2⟩ := p_restore z
    have e1 := Prod.mk.inj (Option.some.inj (k1.symm.trans c1))
    obtain ⟨e1, e2⟩ := e1
    subst e2
    have far : ∀ id j, id < 10 ∨ 76 < id → M1 id j = M id j := fun id j h => c2.2.1 _ _ (fun w hw e => by have := c2.2.2 w hw; omega)
    have z2 : ¬ M1 192 9 = 0 := by rw [far _ _ (by omega), ← hfl]; exact z
    rw [r_restore, if_neg z2] at k2
    have e3 := Prod.mk.inj (Option.some.inj k2)
    obtain ⟨e3, e4⟩ := e3
    obtain ⟨p0, p1⟩ := h_cp c2
    have h40 := hI.2.1.2
    have w1 : ∀ id j, id ≠ 193 → M2 id j = M1 id j := fun id j h => by rw [← e4]; exact r_cp_n h
    have w2 : ∀ j, j < 1330 → M2 193 j = M 194 j := fun j hj => by rw [← e4, r_cp_t hj]; exact far _ _ (by omega)
    have eg : ∀ i : Int, 0 ≤ i → i < 1330 → r_G M2 i = r_Gi M i := fun i i0 i1 => w2 i.toNat (by omega)
    have ei : r_Gi M2 = r_Gi M := funext fun i => (w1 _ _ (by decide)).trans (far _ _ (by omega))
    obtain ⟨b1, b2, b3⟩ := hI
    refine ⟨?_, ⟨?_, ?_, fun q hq => ?_⟩, ?_⟩
    · rw [e1, ← e3]
      have h1 : r_cp M1 194 193 0 193 1198 = M 194 1198 := (r_cp_t (by decide)).trans (far _ _ (by omega))
      rw [h1]
      exact p0.trans b1
    · rw [eg _ (by decide) (by decide), ← b1]
      exact (w1 10 0 (by decide)).trans p0
    · rw [eg _ (by decide) (by decide)]; exact b2
    · have e98 := eg 1198 (by decide) (by decide)
      rw [e98] at hq ⊢
      obtain ⟨a1, a2, a3, a4⟩ := b3 q hq
      rw [eg _ (by omega) (by omega), eg _ (by omega) (by omega)]
      exact ⟨(w1 11 q (by decide)).trans ((p1 q (by omega)).1.trans a1), (w1 13 q (by decide)).trans ((p1 q (by omega)).2.trans a2), a3, a4⟩
    · rw [ei]
      exact h_B_cg ⟨b1, b2, b3⟩ ((w1 _ _ (by decide)).trans (far _ _ (by omega))) rfl (fun q _ => ⟨(w1 _ _ (by decide)).trans (far _ _ (by omega)), (w1 _ _ (by decide)).trans (far _ _ (by omega)), rfl, rfl⟩)

