theorem h_row {d k n r1 r2 : Int} {M M1 M2 : EM} (hS : h_S M) (k1 : E_C 140 [8, d, k, n] M = some (r1, M1)) (k2 : E_C 259 [192, d, k, n] M1 = some (r2, M2)) : r1 = r2 ∧ h_S M2 := by
  by_cases hd : 0 ≤ d ∧ d < 8
  · obtain ⟨m, hm⟩ : ∃ m : Nat, d = m := ⟨d.toNat, by omega⟩
    have m8 : m < 8 := by omega
    have hh := (h_gr145 m8).2
    have c0 : E_C 154 [8, d] M = some (((146 + 2 * m : Nat) : Int), M) := by
      rw [hm]
      exact h_154a (by omega) (by omega) (h_rd145 m8 M)
    have hs : ((146 + 2 * m : Nat) : Int) ≠ -1 := by omega
    by_cases q : (0 ≤ k ∧ k ≤ 2) ∧ n ≤ 120 ∧ 0 ≤ n
    · obtain ⟨q1, q2, q3⟩ := q
      obtain ⟨N, n1, n2, n3, n4, n5, n6, n7⟩ := h_87 (k := k) (n := n) hh M
      rw [Int.toNat_natCast] at n2 n3 n4 n5 n7
      rw [show (((146 + 2 * m : Nat) : Int) + 1).toNat = 147 + 2 * m by omega] at n6 n7
      have e1 := Prod.mk.inj (Option.some.inj (k1.symm.trans (h_140y c0 hs q1.1 q1.2 q2 q3 n1)))
      obtain ⟨e1, e2⟩ := e1
      subst e2
      obtain ⟨M', g1, g2, g3⟩ := h_259l (d := d) (k := k) (n := n) hd 120 0 (e_up (e_up (e_up M1 195 m 2) 196 m k) 197 m n) (by decide)
      have g1' : E_V 259 58 [192, d, k, n, 0] (e_up (e_up (e_up M1 195 m 2) 196 m k) 197 m n) = some (0, M') := g1
      have e3 := Prod.mk.inj (Option.some.inj (k2.symm.trans (h_259y hm m8 q1 q2 q3 g1')))
      obtain ⟨e3, e4⟩ := e3
      subst e4
      rw [show d.toNat = m by omega] at g2 g3
      have z : ∀ id j, id ≠ 195 → id ≠ 196 → id ≠ 197 → id ≠ 198 → M2 id j = M1 id j := fun id j a b c e => by
        rw [g2 id j (fun h => e h.1), c_up_n (fun h => c h.1), c_up_n (fun h => b h.1), c_up_n (fun h => a h.1)]
      have z5 : ∀ j, j ≠ m → M2 195 j = M1 195 j ∧ M2 196 j = M1 196 j ∧ M2 197 j = M1 197 j := fun j hj => by
        refine ⟨?_, ?_, ?_⟩
        · rw [g2 _ _ (by omega), c_up_n (by omega), c_up_n (by omega), c_up_n (by omega)]
        · rw [g2 _ _ (by omega), c_up_n (by omega), c_up_n (by omega), c_up_n (by omega)]
        · rw [g2 _ _ (by omega), c_up_n (by omega), c_up_n (by omega), c_up_n (by omega)]
      refine ⟨e1.trans e3.symm, h_S_set (m := m) hS (Or.inr (Or.inr ⟨?_, ?_, ?_, ?_, ?_, fun i hi => ?_⟩)) (fun d' hd' hne => ?_)⟩
      · rw [g2 _ _ (by omega), c_up_n (by omega), c_up_n (by omega), c_up_s]
      · rw [z _ _ (by omega) (by omega) (by omega) (by omega)]; exact n2
      · rw [z _ _ (by omega) (by omega) (by omega) (by omega)]; exact n3
      · rw [z _ _ (by omega) (by omega) (by omega) (by omega), n4, g2 _ _ (by omega), c_up_n (by omega), c_up_s]
      · rw [z _ _ (by omega) (by omega) (by omega) (by omega), n5, g2 _ _ (by omega), c_up_s]
      · rw [z _ _ (by omega) (by omega) (by omega) (by omega), n6 i hi, g3 i (Nat.zero_le _) hi]
      · have f : ∀ id j, (id = 146 + 2 * d' ∨ id = 147 + 2 * d') → M2 id j = M id j := fun id j h => by
          rw [z _ _ (by omega) (by omega) (by omega) (by omega)]
          exact n7 _ _ (by omega) (by omega)
        have f2 : ∀ id j, 195 ≤ id → M1 id j = M id j := fun id j h => n7 _ _ (by omega) (by omega)
        obtain ⟨y1, y2, y3⟩ := z5 d' hne
        refine ⟨y1.trans (f2 _ _ (by decide)), y2.trans (f2 _ _ (by decide)), y3.trans (f2 _ _ (by decide)), f _ _ (Or.inl rfl), f _ _ (Or.inl rfl), f _ _ (Or.inl rfl), f _ _ (Or.inl rfl), fun i hi => ⟨f _ _ (Or.inr rfl), ?_⟩⟩
        rw [g2 _ _ (by omega), c_up_n (by omega), c_up_n (by omega), c_up_n (by omega)]
        exact f2 _ _ (by decide)
    · have e1 := Prod.mk.inj (Option.some.inj (k1.symm.trans (h_140n c0 (by omega) rfl)))
      obtain ⟨e1, e2⟩ := e1
      subst e2
      have e3 := Prod.mk.inj (Option.some.inj (k2.symm.trans (h_259n (by omega))))
      refine ⟨?_, by rw [e3.2]; exact hS⟩
      rw [e1, e3.1]
      unfold h_rz
      by_cases c : 0 ≤ d ∧ d < 8 ∧ 0 ≤ k ∧ k ≤ 2 ∧ n ≤ 120
      · have c2 : ¬ (((146 + 2 * m : Nat) : Int) = -1 ∨ k < 0 ∨ 2 < k ∨ 120 < n) := by omega
        have c3 : n < 0 := by omega
        rw [if_neg c2, if_pos c, if_pos c3]
      · have c2 : ((146 + 2 * m : Nat) : Int) = -1 ∨ k < 0 ∨ 2 < k ∨ 120 < n := by omega
        rw [if_pos c2, if_neg c]
  · have c0 : E_C 154 [8, d] M = some (-1, M) := h_154n hd
    have e1 := Prod.mk.inj (Option.some.inj (k1.symm.trans (h_140n c0 (Or.inl rfl) rfl)))
    obtain ⟨e1, e2⟩ := e1
    subst e2
    have e3 := Prod.mk.inj (Option.some.inj (k2.symm.trans (h_259n (fun e => hd ⟨e.1, e.2.1⟩))))
    refine ⟨?_, by rw [e3.2]; exact hS⟩
    rw [e1, e3.1, if_pos (Or.inl rfl)]
    unfold h_rz
    rw [if_neg (fun e => hd ⟨e.1, e.2.1⟩)]

