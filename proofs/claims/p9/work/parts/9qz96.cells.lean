/-! what is told of CELLS: what keeps it; image and restore -/
def h_KC (dc s : Nat) : AW := [(21 + dc, 0, 159), (22 + dc, 0, 39), (23 + dc, 0, 39), (24 + dc, 0, 39), (s, 1198, 1198)] ++ (List.range 40).flatMap (fun q => [(s, 28 * q, 28 * q), (s, 28 * q + 15, 28 * q + 24)])
theorem h_keepC {dc s : Nat} {M M' : EM} (h : ∀ c ∈ h_KC dc s, ∀ k, c.2.1 ≤ k → k ≤ c.2.2 → M' c.1 k = M c.1 k) (h40 : M s 1198 ≤ 40) (hC : h_C M dc (fun i => M s i.toNat)) : h_C M' dc (fun i => M' s i.toNat) := by
  have m0 : ∀ c, c ∈ [(21 + dc, 0, 159), (22 + dc, 0, 39), (23 + dc, 0, 39), (24 + dc, 0, 39), (s, 1198, 1198)] → c ∈ h_KC dc s := fun c hc => List.mem_append.mpr (Or.inl hc)
  have e98 : M' s 1198 = M s 1198 := h (s, 1198, 1198) (m0 _ (by simp)) 1198 (Nat.le_refl _) (Nat.le_refl _)
  intro q hq
  have hq1 : (q : Int) < M' s 1198 := hq
  rw [e98] at hq1
  have q40 : q < 40 := by omega
  have mq : ∀ c, c ∈ [(s, 28 * q, 28 * q), (s, 28 * q + 15, 28 * q + 24)] → c ∈ h_KC dc s := fun c hc => List.mem_append.mpr (Or.inr (List.mem_flatMap.mpr ⟨q, List.mem_range.mpr q40, hc⟩))
  refine h_Cq_cg (hC q hq1) ?_ (fun d d0 d1 => ?_) (fun a ha => h (21 + dc, 0, 159) (m0 _ (by simp)) _ (Nat.zero_le _) (by show 4 * q + a ≤ 159; omega)) (h (22 + dc, 0, 39) (m0 _ (by simp)) _ (Nat.zero_le _) (by show q ≤ 39; omega)) (h (23 + dc, 0, 39) (m0 _ (by simp)) _ (Nat.zero_le _) (by show q ≤ 39; omega)) (h (24 + dc, 0, 39) (m0 _ (by simp)) _ (Nat.zero_le _) (by show q ≤ 39; omega))
  · have e := h _ (mq (s, 28 * q, 28 * q) (by simp)) (28 * q) (Nat.le_refl _) (Nat.le_refl _)
    show M' s (28 * (q : Int)).toNat = M s (28 * (q : Int)).toNat
    rw [show (28 * (q : Int)).toNat = 28 * q by omega]
    exact e
  · exact h _ (mq (s, 28 * q + 15, 28 * q + 24) (by simp)) (28 * (q : Int) + d).toNat (by show 28 * q + 15 ≤ _; omega) (by show _ ≤ 28 * q + 24; omega)
theorem h_C_tr {M M' : EM} {dc dc' : Nat} {g g' : Int → Int} (hC : h_C M dc g) (h40 : g 1198 ≤ 40) (eg : ∀ i : Int, 0 ≤ i → i < 1330 → g' i = g i) (c1 : ∀ j, j < 160 → M' (21 + dc') j = M (21 + dc) j) (c2 : ∀ j, j < 40 → M' (22 + dc') j = M (22 + dc) j ∧ M' (23 + dc') j = M (23 + dc) j ∧ M' (24 + dc') j = M (24 + dc) j) : h_C M' dc' g' := by
  intro q hq hk
  rw [eg 1198 (by decide) (by decide)] at hq
  have q40 : q < 40 := by omega
  rw [eg (28 * (q : Int)) (by omega) (by omega)] at hk
  obtain ⟨b1, b2, b3⟩ := c2 q q40
  obtain ⟨d1, d2, d3⟩ := hC q hq hk
  rw [b1, b2, b3, eg (28 * (q : Int) + 19) (by omega) (by omega), eg (28 * (q : Int) + 20) (by omega) (by omega), eg (28 * (q : Int) + 21) (by omega) (by omega), eg (28 * (q : Int) + 22) (by omega) (by omega), eg (28 * (q : Int) + 23) (by omega) (by omega), eg (28 * (q : Int) + 24) (by omega) (by omega)]
  refine ⟨fun a ha => ?_, d2, d3⟩
  rw [c1 _ (by omega), eg (28 * (q : Int) + 15 + (a : Int)) (by omega) (by omega)]
  exact d1 a ha
theorem h_covC : (∃ w ∈ p_D48, w.1 = 21 ∧ w.2.1 = 0 ∧ 159 ≤ w.2.2) ∧ (∃ w ∈ p_D48, w.1 = 22 ∧ w.2.1 = 0 ∧ 39 ≤ w.2.2) ∧ (∃ w ∈ p_D48, w.1 = 23 ∧ w.2.1 = 0 ∧ 39 ≤ w.2.2) ∧ (∃ w ∈ p_D48, w.1 = 24 ∧ w.2.1 = 0 ∧ 39 ≤ w.2.2) := by decide +kernel
theorem h_cpx {so to id n : Nat} {M M1 : EM} (c : p_C so to p_D48 M M1) (h : ∃ w ∈ p_D48, w.1 = id ∧ w.2.1 = 0 ∧ n ≤ w.2.2) {j : Nat} (hj : j ≤ n) : M1 (id + to) j = M (id + so) j := by
  obtain ⟨w, w1, w2, w3, w4⟩ := h
  have := c.1 w w1 j (by omega) (by omega)
  rw [w2] at this
  exact this
theorem h_imageC {r1 r2 : Int} {M M1 M2 : EM} (h40 : r_G M 1198 ≤ 40) (hC : h_C M 0 (r_G M)) (k1 : E_C 136 [8] M = some (r1, M1)) (k2 : E_C 255 [192] M1 = some (r2, M2)) : h_C M2 0 (r_G M2) ∧ h_C M2 68 (r_Gi M2) := by
  obtain ⟨N, c1, c2⟩ := p_image M
  obtain ⟨e1, e2⟩ := Prod.mk.inj (Option.some.inj (k1.symm.trans c1))
  subst e2
  obtain ⟨e3, e4⟩ := Prod.mk.inj (Option.some.inj (k2.symm.trans (r_image _)))
  have far : ∀ id j, id < 78 ∨ 145 < id → N id j = M id j := fun id j h => c2.2.1 _ _ (fun w hw e => by have := c2.2.2 w hw; omega)
  have z : ∀ id j, id ≠ 8 → id ≠ 192 → id ≠ 194 → M2 id j = N id j := fun id j a b c => by
    rw [e4, c_up_n (fun e => b e.1), r_cp_n c, c_up_n (fun e => a e.1)]
  have zi : ∀ j, j < 1330 → M2 194 j = M 193 j := fun j hj => by
    rw [e4, c_up_n (fun e => by omega), r_cp_t hj, c_up_n (fun e => by omega)]
    exact far _ _ (by omega)
  have eG : r_G M2 = r_G M := funext fun i => (z _ _ (by decide) (by decide) (by decide)).trans (far _ _ (by omega))
  have near : ∀ id j, 21 ≤ id → id ≤ 24 → M2 id j = M id j := fun id j a b => (z _ _ (by omega) (by omega) (by omega)).trans (far _ _ (by omega))
  obtain ⟨q1, q2, q3, q4⟩ := h_covC
  refine ⟨?_, h_C_tr hC h40 (fun i i0 i1 => zi i.toNat (by omega)) (fun j hj => (z _ _ (by decide) (by decide) (by decide)).trans (h_cpx c2 q1 (by omega))) (fun j hj => ⟨(z _ _ (by decide) (by decide) (by decide)).trans (h_cpx c2 q2 (by omega)), (z _ _ (by decide) (by decide) (by decide)).trans (h_cpx c2 q3 (by omega)), (z _ _ (by decide) (by decide) (by decide)).trans (h_cpx c2 q4 (by omega))⟩)⟩
  exact h_C_tr hC h40 (fun i _ _ => congrFun eG i) (fun j _ => near 21 j (by decide) (by decide)) (fun j _ => ⟨near 22 j (by decide) (by decide), near 23 j (by decide) (by decide), near 24 j (by decide) (by decide)⟩)
theorem h_restoreC {r1 r2 : Int} {M M1 M2 : EM} (hfl : M 8 2 = M 192 9) (hB : r_G M 1198 ≤ 40) (hI : r_Gi M 1198 ≤ 40) (hC : h_C M 0 (r_G M)) (hCI : h_C M 68 (r_Gi M)) (k1 : E_C 137 [8] M = some (r1, M1)) (k2 : E_C 256 [192] M1 = some (r2, M2)) : h_C M2 0 (r_G M2) ∧ h_C M2 68 (r_Gi M2) := by
  by_cases z : M 8 2 = 0
  · obtain ⟨e1, e2⟩ := Prod.mk.inj (Option.some.inj (k1.symm.trans (p_restore0 z)))
    subst e2
    rw [r_restore, if_pos (hfl ▸ z)] at k2
    obtain ⟨e3, e4⟩ := Prod.mk.inj (Option.some.inj k2)
    rw [← e4]
    exact ⟨hC, hCI⟩
  · obtain ⟨N, c1, c2⟩ := p_restore z
    obtain ⟨e1, e2⟩ := Prod.mk.inj (Option.some.inj (k1.symm.trans c1))
    subst e2
    have far : ∀ id j, id < 10 ∨ 76 < id → M1 id j = M id j := fun id j h => c2.2.1 _ _ (fun w hw e => by have := c2.2.2 w hw; omega)
    have z2 : ¬ M1 192 9 = 0 := by rw [far _ _ (by omega), ← hfl]; exact z
    rw [r_restore, if_neg z2] at k2
    obtain ⟨e3, e4⟩ := Prod.mk.inj (Option.some.inj k2)
    have w1 : ∀ id j, id ≠ 193 → M2 id j = M1 id j := fun id j h => by rw [← e4]; exact r_cp_n h
    have w2 : ∀ j, j < 1330 → M2 193 j = M 194 j := fun j hj => by rw [← e4, r_cp_t hj]; exact far _ _ (by omega)
    have eg : ∀ i : Int, 0 ≤ i → i < 1330 → r_G M2 i = r_Gi M i := fun i i0 i1 => w2 i.toNat (by omega)
    have ei : r_Gi M2 = r_Gi M := funext fun i => (w1 _ _ (by decide)).trans (far _ _ (by omega))
    obtain ⟨q1, q2, q3, q4⟩ := h_covC
    refine ⟨h_C_tr hCI hI eg (fun j hj => (w1 _ _ (by decide)).trans (h_cpx c2 q1 (by omega))) (fun j hj => ⟨(w1 _ _ (by decide)).trans (h_cpx c2 q2 (by omega)), (w1 _ _ (by decide)).trans (h_cpx c2 q3 (by omega)), (w1 _ _ (by decide)).trans (h_cpx c2 q4 (by omega))⟩), ?_⟩
    have near : ∀ id j, 89 ≤ id → id ≤ 92 → M2 id j = M id j := fun id j a b => (w1 _ _ (by omega)).trans (far _ _ (by omega))
    exact h_C_tr hCI hI (fun i _ _ => congrFun ei i) (fun j _ => near 89 j (by decide) (by decide)) (fun j _ => ⟨near 90 j (by decide) (by decide), near 91 j (by decide) (by decide), near 92 j (by decide) (by decide)⟩)
