section YO
variable {b : Nat → Int} {n k : Nat} {M M' N : EM}
theorem y_fr_t (h : y_fr N M) (t : r_tt M M') : y_fr N M' := fun id i h1 h2 => (t.2.1 id i h2).trans (h id i h1 h2)
theorem y_G_t (t : r_tt M M') : r_G M' = r_G M := funext fun i => t.2.1 _ _ (by omega)
theorem y_Bw {i v : Int} (h : y_B b n k M) (hv : -2147483648 ≤ v ∧ v ≤ 2147483647) : y_B b n k (e_up M 193 i.toNat v) := by
  obtain ⟨h1, h2, h3, h4, h5, h6, h7, h8⟩ := h
  have e : ∀ id j, id ≠ 193 → e_up M 193 i.toNat v id j = M id j := fun id j hid => c_up_n (fun q => hid q.1)
  refine ⟨r_upw hv h1, by rw [e _ _ (by decide)]; exact h2, h3, by rw [e _ _ (by decide)]; exact h4, h5, by rw [e _ _ (by decide)]; exact h6, by rw [e _ _ (by decide)]; exact h7, fun j hj => ?_⟩
  rw [e _ _ (by decide), e _ _ (by decide)]
  exact h8 j hj
theorem y_frw {i v : Int} (h : y_fr N M) : y_fr N (e_up M 193 i.toNat v) := fun id j h1 h2 => (c_up_n (fun q => h1 q.1)).trans (h id j h1 h2)
/-- in a TEXT without FAULT a number comes where one is wanted -/
theorem y_dig (hA : w_A b n) (hz : w_T b n 2 = 0) (hk : k ≤ n) (h2 : w_T b k 2 = 1) (h91 : ¬ (w_T b k 3 = 114 ∧ w_T b k 5 = 0)) : k < n ∧ 48 ≤ b k ∧ b k ≤ 57 := by
  have hl : k < n := by
    rcases Nat.lt_or_ge k n with h | h
    · exact h
    · have e : k = n := by omega
      rw [e] at h2
      omega
  have ok := hA k hl
  unfold w_ok at ok
  rw [if_neg (by omega), if_pos h2] at ok
  rcases ok with ok | ok
  · exact ⟨hl, ok⟩
  · exact absurd ok.2 h91
/-- behind it a sign -/
theorem y_sig (hA : w_A b n) (hz : w_T b n 2 = 0) (hk : k ≤ n) (rd : y_rd b n k) : k < n ∧ ((b k = 47 ∧ w_T b k 3 = 99 ∧ w_T b k 4 = 0) ∨ (b k = 93 ∧ w_T b k 5 ≠ 0) ∨ (b k = 32 ∧ w_T b k 3 ≠ 98 ∧ ¬ (w_T b k 3 = 99 ∧ w_T b k 4 = 0)) ∨ (b k = 59 ∧ w_T b k 5 = 0 ∧ ¬ (w_T b k 3 = 99 ∧ w_T b k 4 = 0))) := by
  have hl : k < n := by
    rcases Nat.lt_or_ge k n with h | h
    · exact h
    · have e : k = n := by omega
      have := rd.1
      rw [e] at this
      exact absurd hz this
  exact ⟨hl, (y_okr rd hl).mp (hA k hl)⟩
end YO
