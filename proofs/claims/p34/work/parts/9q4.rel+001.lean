theorem p_sun_R {h d l : Int} {M : EM} (hR : p_R M) : ∃ r M1 M2, E_C 119 [8, h, d, l] M = some (r, M1) ∧ E_C 221 [192, h, d, l] M1 = some (r, M2) ∧ p_R M2 := by
  by_cases q : (0 ≤ h ∧ h ≤ 11) ∧ (0 ≤ d ∧ d ≤ 7) ∧ 0 ≤ l ∧ l ≤ 30
  · obtain ⟨j, rfl⟩ : ∃ j : Nat, h = (j : Int) := ⟨h.toNat, by omega⟩
    have hj : j < 12 := by omega
    obtain ⟨i0, i1, -, -⟩ := p_inS j hj
    obtain ⟨r1, r2⟩ := hR
    have e0 : (1150 + 2 * (j : Int)).toNat = 1150 + 2 * j := by omega
    have e1 : (1150 + 2 * (j : Int) + 1).toNat = 1150 + 2 * j + 1 := by omega
    have g1 : p_sn2 M j d l 193 = M 193 := by
      unfold p_sn2
      rw [p_up193 (by decide), p_up193 (by decide)]
    refine ⟨e_w (e_w (100 * M 30 j) + M 31 j), p_sn2 M j d l, r_sn2 (p_sn2 M j d l) j d l, ?_, ?_, ?_, ?_⟩
    · rw [p_sun, if_pos q]
      rfl
    · rw [r_sun_eq, if_pos q]
      unfold r_G
      rw [g1, e0, e1, ← r1 _ i0, ← r1 _ i1]
    · have f := p_rel_up (v := l) (p_rel_up (v := d) r1 i0) i1
      unfold r_sn2
      rw [e0, e1]
      refine p_rel_193 (p_rel_193 ?_)
      rw [p_193, p_193, g1]
      exact f
    · unfold r_sn2
      refine p_k2_up (Or.inl rfl) (p_k2_up (Or.inl rfl) ?_)
      unfold p_sn2
      exact p_k2_up (Or.inr (by decide)) (p_k2_up (Or.inr (by decide)) r2)
  · exact ⟨-1, M, M, by rw [p_sun, if_neg q], by rw [r_sun_eq, if_neg q], hR⟩
theorem p_trade_R {h t : Int} {M : EM} (ht : t ≤ 2147483647) (hR : p_R M) : ∃ r M1 M2, E_C 128 [8, h, t] M = some (r, M1) ∧ E_C 241 [192, h, t] M1 = some (r, M2) ∧ p_R M2 := by
  by_cases q : (0 ≤ h ∧ h ≤ 11) ∧ 0 ≤ t ∧ t / 100 ≤ 20
  · obtain ⟨j, rfl⟩ : ∃ j : Nat, h = (j : Int) := ⟨h.toNat, by omega⟩
    have hj : j < 12 := by omega
    obtain ⟨-, -, i0, i1⟩ := p_inS j hj
    obtain ⟨r1, r2⟩ := hR
    have e0 : (1174 + 2 * (j : Int)).toNat = 1174 + 2 * j := by omega
    have e1 : (1174 + 2 * (j : Int) + 1).toNat = 1174 + 2 * j + 1 := by omega
    have g1 : p_tr2 M j t 193 = M 193 := by
      unfold p_tr2
      rw [p_up193 (by decide), p_up193 (by decide)]
    refine ⟨e_w (e_w (100 * M 34 j) + M 35 j), p_tr2 M j t, r_tr2 (p_tr2 M j t) j t, ?_, ?_, ?_, ?_⟩
    · rw [p_trade ht, if_pos q]
      rfl
    · rw [r_trade_eq ht, if_pos q]
      unfold r_G
      rw [g1, e0, e1, ← r1 _ i0, ← r1 _ i1]
    · have f := p_rel_up (v := t % 100) (p_rel_up (v := t / 100) r1 i0) i1
      unfold r_tr2
      rw [e0, e1]
      refine p_rel_193 (p_rel_193 ?_)
      rw [p_193, p_193, g1]
      exact f
    · unfold r_tr2
      refine p_k2_up (Or.inl rfl) (p_k2_up (Or.inl rfl) ?_)
      unfold p_tr2
      exact p_k2_up (Or.inr (by decide)) (p_k2_up (Or.inr (by decide)) r2)
  · exact ⟨-1, M, M, by rw [p_trade ht, if_neg q], by rw [r_trade_eq ht, if_neg q], hR⟩
theorem p_room_R {n : Int} {M : EM} (hR : p_R M) : ∃ r M1 M2, E_C 129 [8, n] M = some (r, M1) ∧ E_C 242 [192, n] M1 = some (r, M2) ∧ p_R M2 := by
  by_cases q : 0 ≤ n ∧ n ≤ 30
  · obtain ⟨r1, r2⟩ := hR
    have g1 : (e_up M 33 2 n) 193 = M 193 := p_up193 (by decide)
    refine ⟨M 33 2, e_up M 33 2 n, e_up (e_up M 33 2 n) 193 1199 n, ?_, ?_, ?_, ?_⟩
    · rw [p_room, if_pos q]
    · rw [r_room_eq, if_pos q]
      unfold r_G
      rw [g1]
      exact congrArg (fun z => some (z, _)) (r1 _ p_inR).symm
    · refine p_rel_193 ?_
      rw [p_193, g1]
      exact p_rel_up r1 p_inR
    · exact p_k2_up (Or.inl rfl) (p_k2_up (Or.inr (by decide)) r2)
  · exact ⟨-1, M, M, by rw [p_room, if_neg q], by rw [r_room_eq, if_neg q], hR⟩
theorem p_image_R {M : EM} (hR : p_R M) : ∃ r M1 r2 M2, E_C 136 [8] M = some (r, M1) ∧ E_C 255 [192] M1 = some (r2, M2) ∧ p_R M2 := by
  obtain ⟨M1, k, c⟩ := p_image M
  obtain ⟨r1, r2, r3⟩ := hR
  refine ⟨_, _, _, _, k, r_image _, fun q hq => ?_, fun q hq => ?_, ?_⟩
  · have b := p_bd q hq
    rw [c_up_n (fun e => by omega), r_cp_n (by omega), c_up_n (fun e => by omega), c.2.1 _ _ (fun w hw e => by have := c.2.2 w hw; omega)]
    rw [c_up_n (fun e => by omega), r_cp_n (by omega), c_up_n (fun e => by omega), c.2.1 _ _ (fun w hw e => by have := c.2.2 w hw; omega)]
    exact r1 q hq
  · have b := p_bd q hq
    obtain ⟨w, hw, w1, w2, w3⟩ := p_cov q hq
    rw [c_up_n (fun e => by omega), r_cp_n (by omega), c_up_n (fun e => by omega), ← w1, c.1 w hw _ w2 w3, w1]
    rw [c_up_n (fun e => by omega), r_cp_t b.2.2, c_up_n (fun e => by omega), c.2.1 _ _ (fun w hw e => by have := c.2.2 w hw; omega)]
    exact r1 q hq
  · rw [c_up_s, c_up_n (fun e => by omega), r_cp_n (by omega), c_up_s]
theorem p_restore_R {M : EM} (hR : p_R M) : ∃ r M1 r2 M2, E_C 137 [8] M = some (r, M1) ∧ E_C 256 [192] M1 = some (r2, M2) ∧ p_R M2 := by
  have hR0 := hR
  obtain ⟨r1, r2, r3⟩ := hR
  by_cases z : M 8 2 = 0
  · refine ⟨_, _, -3, M, p_restore0 z, ?_, hR0⟩
    rw [r_restore, if_pos (r3 ▸ z)]
  · obtain ⟨M1, k, c⟩ := p_restore z
    have far : ∀ id j, id < 10 ∨ 76 < id → M1 id j = M id j := fun id j h => c.2.1 _ _ (fun w hw e => by have := c.2.2 w hw; omega)
    have z2 : ¬ M1 192 9 = 0 := by rw [far _ _ (by omega), ← r3]; exact z
    refine ⟨_, _, r_cp M1 194 193 0 193 1198, r_cp M1 194 193 0, k, by rw [r_restore, if_neg z2], fun q hq => ?_, fun q hq => ?_, ?_⟩
    · have b := p_bd q hq
      obtain ⟨w, hw, w1, w2, w3⟩ := p_cov q hq
      have g : M1 q.1 q.2.1 = M (q.1 + 68) q.2.1 := by
        have := c.1 w hw _ w2 w3
        rw [w1] at this
        exact this
      rw [r_cp_n (by omega), r_cp_t b.2.2, far 194 _ (by omega), g]
      exact r2 q hq
    · have b := p_bd q hq
      rw [r_cp_n (by omega), r_cp_n (by omega), far _ _ (by omega), far _ _ (by omega)]
      exact r2 q hq
    · rw [r_cp_n (by omega), r_cp_n (by omega), far _ _ (by omega), far _ _ (by omega)]
      exact r3

