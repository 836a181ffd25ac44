/-! lies: the pair -/
theorem h_liess {p f t r1 r2 : Int} {M M1 M2 : EM} (J1 : r_J M1) (hB : h_B M 0 (r_G M)) (hC : h_C M 0 (r_G M)) (hf : f ≤ 2147483647) (ht : t ≤ 2147483647) (hfr : ∀ i, M1 193 i = M 193 i) (k1 : E_C 117 [8, p, f, t] M = some (r1, M1)) (k2 : E_C 219 [192, p, f, t] M1 = some (r2, M2)) : r1 = r2 ∧ h_C M2 0 (r_G M2) := by
  have eG1 : r_G M1 = r_G M := funext fun i => hfr _
  have hW1 := (r_J_E J1).2.1
  have h10 := hB.1
  by_cases c : 0 ≤ p ∧ p < M 10 0
  · have cg : 0 ≤ p ∧ p < r_G M1 1198 := by rw [eG1, ← h10]; exact c
    have i : E_C 149 [8, p] M = some (1, M) := h_149.trans (congrArg some (congrArg (·, M) (if_pos c)))
    have ip := r_ip1 hW1 cg
    by_cases hL : h_Lq f t
    · have h40 := r_40 hW1 cg
      obtain ⟨q, hq⟩ : ∃ q : Nat, p = q := ⟨p.toNat, by omega⟩
      subst hq
      have hqn : (q : Int) < r_G M 1198 := by rw [← h10]; exact c.2
      have b := hB.2.2 q hqn
      have cq := hC q hqn
      have kk : E_C 170 [192, (q : Int)] M1 = some (r_G M1 (28 * (q : Int)), M1) := r_kind h40
      rw [eG1] at kk
      have kq : M 11 (q : Int).toNat = r_G M (28 * (q : Int)) := b.1
      by_cases k0 : r_G M (28 * (q : Int)) = 0
      · have j : E_C 150 [8, (q : Int), 0] M = some (1, M) := (h_150 h40).trans (congrArg some (congrArg (·, M) (if_pos (kq.trans k0))))
        obtain ⟨e1, e2⟩ := Prod.mk.inj (Option.some.inj (k1.symm.trans (h_117c h40 i j hf ht hL)))
        obtain ⟨d1, d2, d4⟩ := cq k0
        rw [k0] at kk
        obtain ⟨f1, f2⟩ := Prod.mk.inj (Option.some.inj (k2.symm.trans (h_219c h40 ip kk hf ht hL)))
        refine ⟨e1.trans f1.symm, ?_⟩
        obtain ⟨g0, g1, g2, g3, g4, g5⟩ := r_lay5_G (M := M1) (p := (q : Int)) (a := f / 100) (b := f % 100) (c := t / 100) (d := t % 100) h40
        rw [← f2] at g0 g1 g2 g3 g4 g5
        rw [eG1] at g5
        have m1 : ∀ id k, id ≠ 193 → M2 id k = M1 id k := fun id k h1 => by
          rw [f2]
          unfold r_lay5
          rw [r_n193 h1, r_n193 h1, r_n193 h1, r_n193 h1, r_n193 h1]
        have m2 : ∀ id k, id ≠ 193 → ¬ (id = 23 ∧ k = q) → ¬ (id = 24 ∧ k = q) → M2 id k = M id k := fun id k h1 h2 h3 => by
          rw [m1 id k h1, e2, Int.toNat_natCast, c_up_n h3, c_up_n h2]
        have m23 : M2 23 q = f := by rw [m1 _ _ (by decide), e2, Int.toNat_natCast, c_up_n (by omega), c_up_s]
        have m24 : M2 24 q = t := by rw [m1 _ _ (by decide), e2, Int.toNat_natCast, c_up_s]
        have n0 : r_G M2 1198 = r_G M 1198 := g5 _ (by omega)
        intro z hz
        rw [n0] at hz
        by_cases ct : z = q
        · subst ct
          intro _
          refine ⟨fun a ha => ?_, ?_, Or.inr ⟨g0, ?_, ?_⟩⟩
          · rw [g5 _ (by omega), m2 _ _ (by decide) (by omega) (by omega)]
            exact d1 a ha
          · rw [g5 (28 * (z : Int) + 19) (by omega), m2 (22 + 0) _ (by decide) (by omega) (by omega)]
            exact d2
          · have e1' : r_G M2 (28 * (z : Int) + 21) = f / 100 := by rw [← g1]; exact congrArg (r_G M2) (by omega)
            have e2' : r_G M2 (28 * (z : Int) + 22) = f % 100 := by rw [← g2]; exact congrArg (r_G M2) (by omega)
            rw [e1', e2']
            show M2 23 z = _
            rw [m23]
            omega
          · have e1' : r_G M2 (28 * (z : Int) + 23) = t / 100 := by rw [← g3]; exact congrArg (r_G M2) (by omega)
            have e2' : r_G M2 (28 * (z : Int) + 24) = t % 100 := by rw [← g4]; exact congrArg (r_G M2) (by omega)
            rw [e1', e2']
            show M2 24 z = _
            rw [m24]
            omega
        · exact h_Cq_cg (hC z hz) (g5 _ (by omega)) (fun d d0 d1 => g5 _ (by omega)) (fun a _ => m2 _ _ (by decide) (by omega) (by omega)) (m2 _ _ (by decide) (by omega) (by omega)) (m2 _ _ (by decide) (by omega) (by omega)) (m2 _ _ (by decide) (by omega) (by omega))
      · have j : E_C 150 [8, (q : Int), 0] M = some (0, M) := (h_150 h40).trans (congrArg some (congrArg (·, M) (if_neg (fun e => k0 (kq.symm.trans e)))))
        obtain ⟨e1, e2⟩ := Prod.mk.inj (Option.some.inj (k1.symm.trans (h_117b i j hf ht hL)))
        obtain ⟨f1, f2⟩ := Prod.mk.inj (Option.some.inj (k2.symm.trans (h_219b ip kk k0 hf ht hL)))
        refine ⟨e1.trans f1.symm, ?_⟩
        rw [f2, e2]
        exact hC
    · obtain ⟨e1, e2⟩ := Prod.mk.inj (Option.some.inj (k1.symm.trans (h_117a i hf ht (Or.inr hL))))
      obtain ⟨f1, f2⟩ := Prod.mk.inj (Option.some.inj (k2.symm.trans (h_219a ip hf ht (Or.inr hL))))
      refine ⟨e1.trans f1.symm, ?_⟩
      rw [f2, e2]
      exact hC
  · have i : E_C 149 [8, p] M = some (0, M) := h_149.trans (congrArg some (congrArg (·, M) (if_neg c)))
    have cg : ¬ (0 ≤ p ∧ p < r_G M1 1198) := by rw [eG1, ← h10]; exact c
    obtain ⟨e1, e2⟩ := Prod.mk.inj (Option.some.inj (k1.symm.trans (h_117a i hf ht (Or.inl rfl))))
    obtain ⟨f1, f2⟩ := Prod.mk.inj (Option.some.inj (k2.symm.trans (h_219a (r_ip0 hW1 cg) hf ht (Or.inl rfl))))
    refine ⟨e1.trans f1.symm, ?_⟩
    rw [f2, e2]
    exact hC
