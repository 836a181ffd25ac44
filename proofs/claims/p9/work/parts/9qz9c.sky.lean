/-! the sky: what keeps it; image and restore -/
def h_KK (dc s : Nat) : AW := [(26 + dc, 6, 7), (32 + dc, 0, 119), (s, 1200, 1321)]
theorem h_keepK {dc s : Nat} {M M' : EM} (h : ∀ c ∈ h_KK dc s, ∀ k, c.2.1 ≤ k → k ≤ c.2.2 → M' c.1 k = M c.1 k) (hK : h_K M dc (fun i => M s i.toNat)) : h_K M' dc (fun i => M' s i.toNat) := by
  have a := h (26 + dc, 6, 7) (by simp [h_KK])
  have b := h (32 + dc, 0, 119) (by simp [h_KK])
  have c := h (s, 1200, 1321) (by simp [h_KK])
  have c0 : M' s (1200 : Int).toNat = M s (1200 : Int).toNat := c 1200 (Nat.le_refl 1200) (show 1200 ≤ 1321 by decide)
  have c1 : M' s (1201 : Int).toNat = M s (1201 : Int).toNat := c 1201 (show 1200 ≤ 1201 by decide) (show 1201 ≤ 1321 by decide)
  obtain ⟨k1, k2, k3⟩ := hK
  refine ⟨?_, fun e => ?_, fun i hi => ?_⟩
  · show M' (26 + dc) 6 = M' s (1200 : Int).toNat
    rw [a 6 (Nat.le_refl 6) (show 6 ≤ 7 by decide), c0]
    exact k1
  · have e' : M' s (1200 : Int).toNat ≠ 0 := e
    rw [c0] at e'
    show M' (26 + dc) 7 = h_lv (M' s (1201 : Int).toNat)
    rw [a 7 (show 6 ≤ 7 by decide) (Nat.le_refl 7), c1]
    exact k2 e'
  · show M' (32 + dc) i = M' s (1202 + (i : Int)).toNat
    rw [b i (Nat.zero_le _) (by show i ≤ 119; omega), c _ (by show 1200 ≤ _; omega) (by show _ ≤ 1321; omega)]
    exact k3 i hi
theorem h_K_tr {M M' : EM} {dc dc' : Nat} {g g' : Int → Int} (hK : h_K M dc g) (eg : ∀ i : Int, 0 ≤ i → i < 1330 → g' i = g i) (c1 : M' (26 + dc') 6 = M (26 + dc) 6 ∧ M' (26 + dc') 7 = M (26 + dc) 7) (c2 : ∀ j, j < 120 → M' (32 + dc') j = M (32 + dc) j) : h_K M' dc' g' := by
  obtain ⟨k1, k2, k3⟩ := hK
  refine ⟨?_, fun e => ?_, fun i hi => ?_⟩
  · rw [c1.1, eg _ (by decide) (by decide)]; exact k1
  · rw [eg _ (by decide) (by decide)] at e
    rw [c1.2, eg _ (by decide) (by decide)]
    exact k2 e
  · rw [c2 i hi, eg _ (by omega) (by omega)]
    exact k3 i hi
theorem h_covK : (∃ w ∈ p_D48, w.1 = 26 ∧ w.2.1 ≤ 6 ∧ 6 ≤ w.2.2) ∧ (∃ w ∈ p_D48, w.1 = 26 ∧ w.2.1 ≤ 7 ∧ 7 ≤ w.2.2) ∧ (∃ w ∈ p_D48, w.1 = 32 ∧ w.2.1 = 0 ∧ 119 ≤ w.2.2) := by decide +kernel
theorem h_cp1 {so to id j : Nat} {M M1 : EM} (c : p_C so to p_D48 M M1) (h : ∃ w ∈ p_D48, w.1 = id ∧ w.2.1 ≤ j ∧ j ≤ w.2.2) : M1 (id + to) j = M (id + so) j := by
  obtain ⟨w, w1, w2, w3, w4⟩ := h
  have := c.1 w w1 j w3 w4
  rw [w2] at this
  exact this
theorem h_imageK {r1 r2 : Int} {M M1 M2 : EM} (hK : h_K M 0 (r_G M)) (k1 : E_C 136 [8] M = some (r1, M1)) (k2 : E_C 255 [192] M1 = some (r2, M2)) : h_K M2 0 (r_G M2) ∧ h_K M2 68 (r_Gi M2) := by
  obtain ⟨N, c1, c2⟩ := p_image M
  obtain ⟨e1, e2⟩ := Prod.mk.inj (Option.some.inj (k1.symm.trans c1))
  subst e2
  obtain ⟨e3, e4⟩ := Prod.mk.inj (Option.some.inj (k2.symm.trans (r_image _)))
  have far : ∀ id j, id < 78 ∨ 145 < id → N id j = M id j := fun id j h => c2.2.1 _ _ (fun w hw e => by have := c2.2.2 w hw; omega)
  have z : ∀ id j, id ≠ 8 → id ≠ 192 → id ≠ 194 → M2 id j = N id j := fun id j a b c => by
    rw [e4, c_up_n (fun e => b e.1), r_cp_n c, c_up_n (fun e => a e.1)]
  have zi : ∀ j, j < 1330 → M2 194 j = M 193 j := fun j hj => by
    rw [e4, c_up_n (fun e => by omega), r_cp_t hj, c_up_n (fun e => by omega)]
    exact far _ _ (by omega)
  have eG : r_G M2 = r_G M := funext fun i => (z _ _ (by decide) (by decide) (by decide)).trans (far _ _ (by omega))
  have near : ∀ id j, 21 ≤ id → id ≤ 32 → M2 id j = M id j := fun id j a b => (z _ _ (by omega) (by omega) (by omega)).trans (far _ _ (by omega))
  obtain ⟨q1, q2, q3⟩ := h_covK
  exact ⟨h_K_tr hK (fun i _ _ => congrFun eG i) ⟨near 26 6 (by decide) (by decide), near 26 7 (by decide) (by decide)⟩ (fun j _ => near 32 j (by decide) (by decide)), h_K_tr hK (fun i i0 i1 => zi i.toNat (by omega)) ⟨(z _ _ (by decide) (by decide) (by decide)).trans (h_cp1 c2 q1), (z _ _ (by decide) (by decide) (by decide)).trans (h_cp1 c2 q2)⟩ (fun j hj => (z _ _ (by decide) (by decide) (by decide)).trans (h_cpx c2 q3 (by omega)))⟩
theorem h_restoreK {r1 r2 : Int} {M M1 M2 : EM} (hfl : M 8 2 = M 192 9) (hK : h_K M 0 (r_G M)) (hKI : h_K M 68 (r_Gi M)) (k1 : E_C 137 [8] M = some (r1, M1)) (k2 : E_C 256 [192] M1 = some (r2, M2)) : h_K M2 0 (r_G M2) ∧ h_K M2 68 (r_Gi M2) := by
  by_cases z : M 8 2 = 0
  · obtain ⟨e1, e2⟩ := Prod.mk.inj (Option.some.inj (k1.symm.trans (p_restore0 z)))
    subst e2
    rw [r_restore, if_pos (hfl ▸ z)] at k2
    obtain ⟨e3, e4⟩ := Prod.mk.inj (Option.some.inj k2)
    rw [← e4]
    exact ⟨hK, hKI⟩
  · obtain ⟨N, c1, c2⟩ := p_restore z
    obtain ⟨e1, e2⟩ := Prod.mk.inj (Option.some.inj (k1.symm.trans c1))
    subst e2
    have far : ∀ id j, id < 10 ∨ 76 < id → M1 id j = M id j := fun id j h => c2.2.1 _ _ (fun w hw e => by have := c2.2.2 w hw; omega)
    have z2 : ¬ M1 192 9 = 0 := by rw [far _ _ (by omega), ← hfl]; exact z
    rw [r_restore, if_neg z2] at k2
    obtain ⟨e3, e4⟩ := Prod.mk.inj (Option.some.inj k2)
    have w1 : ∀ id j, id ≠ 193 → M2 id j = M1 id j := fun id j h => by rw [← e4]; exact r_cp_n h
    have w2 : ∀ j, j < 1330 → M2 193 j = M 194 j := fun j hj => by rw [← e4, r_cp_t hj]; exact far _ _ (by omega)
    have eg : ∀ i : Int, 0 ≤ i → i < 1330 → r_G M2 i = r_Gi M i := fun i i0 i1 => w2 i.toNat (by omega)
    have ei : r_Gi M2 = r_Gi M := funext fun i => (w1 _ _ (by decide)).trans (far _ _ (by omega))
    have near : ∀ id j, 89 ≤ id → id ≤ 100 → M2 id j = M id j := fun id j a b => (w1 _ _ (by omega)).trans (far _ _ (by omega))
    obtain ⟨q1, q2, q3⟩ := h_covK
    exact ⟨h_K_tr hKI eg ⟨(w1 _ _ (by decide)).trans (h_cp1 c2 q1), (w1 _ _ (by decide)).trans (h_cp1 c2 q2)⟩ (fun j hj => (w1 _ _ (by decide)).trans (h_cpx c2 q3 (by omega))), h_K_tr hKI (fun i _ _ => congrFun ei i) ⟨near 94 6 (by decide) (by decide), near 94 7 (by decide) (by decide)⟩ (fun j _ => near 100 j (by decide) (by decide))⟩
