/-! sky: what is told of it stays related -/
def h_K (M : EM) (dc : Nat) (g : Int → Int) : Prop := M (26 + dc) 6 = g 1200 ∧ (g 1200 ≠ 0 → M (26 + dc) 7 = h_lv (g 1201)) ∧ ∀ i : Nat, i < 120 → M (32 + dc) i = g (1202 + (i : Int))
theorem h_skyK {d r1 r2 : Int} {M M1 M2 : EM} (hS : h_S M) (hK : h_K M 0 (r_G M)) (hfr : ∀ id i, 192 ≤ id → M1 id i = M id i) (k1 : E_C 121 [8, d] M = some (r1, M1)) (k2 : E_C 225 [192, d] M1 = some (r2, M2)) : h_K M2 0 (r_G M2) := by
  have k3 := h_189 (d := d) (w := -1) (M := M1) (by decide)
  have eno : h_no M1 d (-1) = h_no M d (-1) := by
    unfold h_no
    rw [hfr 195 _ (by decide), hfr 196 _ (by decide)]
  rw [eno] at k3
  by_cases q : h_no M d (-1) = 0
  · obtain ⟨hd, kept⟩ := h_no2 q
    obtain ⟨m, rfl⟩ : ∃ m : Nat, d = m := ⟨d.toNat, by omega⟩
    rw [Int.toNat_natCast] at kept
    have m8 : m < 8 := by omega
    have hh := (h_gr145 m8).2
    obtain ⟨c0, c1⟩ := h_ref (w := -1) hS hd
    rw [q, Int.toNat_natCast] at c1
    rw [Int.toNat_natCast] at c0
    rw [q] at k3
    have hS' : M (146 + 2 * m) 4 = M 196 m ∧ M (146 + 2 * m) 5 = M 197 m ∧ ∀ i, i < 120 → M (147 + 2 * m) i = M 198 (120 * m + i) := by
      rcases hS m m8 with ⟨a, -⟩ | ⟨a, -⟩ | ⟨a, -, -, e4, e5, e6⟩
      · omega
      · omega
      · exact ⟨e4, e5, e6⟩
    obtain ⟨e4, e5, e6⟩ := hS'
    have k76 := h_76 hh M
    have f5 : e_gf 517 [((146 + 2 * m : Nat) : Int)] (h_skM M ((146 + 2 * m : Nat) : Int)) = some (h_skM M ((146 + 2 * m : Nat) : Int) ((146 + 2 * m : Nat) : Int).toNat 5) := c_gf (w_sh hh).1 (by decide +kernel)
    obtain ⟨-, a2⟩ := Prod.mk.inj (Option.some.inj (k1.symm.trans (h_121y c0 (by omega) c1 k76 f5)))
    have tn : ((146 + 2 * m : Nat) : Int).toNat = 146 + 2 * m := by omega
    have tn1 : (((146 + 2 * m : Nat) : Int) + 1).toNat = 147 + 2 * m := by omega
    unfold h_skM at a2
    rw [tn, tn1] at a2
    have b : 0 ≤ (m : Int) ∧ (m : Int) ≤ 7 := by omega
    have l1 : ∀ M', M' 197 = M1 197 → e_op 60 [197, (m : Int)] M' = some (M1 197 m) := fun M' e => by
      have l := (r_isD (m : Int) M' b).2.2.1
      rw [Int.toNat_natCast, e] at l
      exact l
    have l2 : ∀ M', M' 196 = M1 196 → e_op 60 [196, (m : Int)] M' = some (M1 196 m) := fun M' e => by
      have l := (r_isD (m : Int) M' b).2.1
      rw [Int.toNat_natCast, e] at l
      exact l
    obtain ⟨M', g, s1, s2⟩ := h_225L (z := 0) m8 120 0 (e_up (e_up M1 193 1200 (M1 197 m)) 193 1201 (M1 196 m)) (by decide)
    obtain ⟨-, e3⟩ := Prod.mk.inj (Option.some.inj (k2.symm.trans (h_225y k3 l1 l2 g)))
    subst e3
    have g0 : r_G M2 1200 = M 197 m := by
      show M2 193 1200 = _
      rw [s1 193 1200 (by omega), c_up_n (by omega), c_up_s]
      exact hfr 197 m (by decide)
    have g1 : r_G M2 1201 = M 196 m := by
      show M2 193 1201 = _
      rw [s1 193 1201 (by omega), c_up_s]
      exact hfr 196 m (by decide)
    have far : ∀ id k, id ≠ 193 → M2 id k = M1 id k := fun id k h => by
      rw [s1 id k (by omega), c_up_n (by omega), c_up_n (by omega)]
    refine ⟨?_, fun _ => ?_, fun i hi => ?_⟩
    · rw [g0, far _ _ (by decide), a2, c_up_n (by omega), c_up_s, e5]
    · rw [g1, far _ _ (by decide), a2, c_up_s, e4]
    · have gi : r_G M2 (1202 + (i : Int)) = M 198 (120 * m + i) := by
        show M2 193 (1202 + (i : Int)).toNat = _
        rw [show (1202 + (i : Int)).toNat = 1202 + i by omega, s2 i (Nat.zero_le _) hi, c_up_n (by omega), c_up_n (by omega)]
        exact hfr 198 _ (by decide)
      rw [gi, far _ _ (by decide), a2, c_up_n (by omega), c_up_n (by omega), ← e6 i hi]
      show (if 32 + 0 = 32 ∧ 0 ≤ i ∧ i < 0 + 120 then M (147 + 2 * m) (0 + (i - 0)) else M (32 + 0) i) = _
      rw [if_pos ⟨rfl, Nat.zero_le _, by omega⟩, Nat.zero_add, Nat.sub_zero]
  · have cc : ∃ x, E_C 154 [8, d] M = some (x, M) ∧ E_C 156 [x, -1] M = some (h_no M d (-1), M) := by
      by_cases hd : 0 ≤ d ∧ d < 8
      · exact ⟨_, h_ref hS hd⟩
      · obtain ⟨a, b, c⟩ := h_ref1 (w := -1) (M := M) hd
        exact ⟨-1, a, by rw [c]; exact b⟩
    obtain ⟨x, c0, c1⟩ := cc
    have e1 := Prod.mk.inj (Option.some.inj (k1.symm.trans (h_121n c0 c1 q)))
    have e3 := Prod.mk.inj (Option.some.inj (k2.symm.trans (h_225n k3 q)))
    rw [e3.2, e1.2]
    exact hK
