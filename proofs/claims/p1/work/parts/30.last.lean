def x_rho (L : Nat) (xs : Nat → Int32) : Nat → Int32 := fun j => if j = 6 then Int32.ofNat L else if j = 7 then xs 0 &&& 63 else if j = 8 then xs 2 / 10000 else if j = 9 then xs 2 / 100 else if j = 10 then xs 2 - xs 2 / 100 * 100 else if j < 6 then xs j else 0
theorem x_full (x : Int32) : (-2147483648 : Int) ≤ x.toInt ∧ x.toInt ≤ 2147483647 := ⟨Int32.le_toInt x, by have := Int32.toInt_lt x; omega⟩
theorem x_six (x : Int32) : ∃ j : Nat, j < 64 ∧ (x &&& 63).toInt = (j : Int) := by
  obtain ⟨j, hj, e⟩ := pk_andE x (m := 63) 6 (by decide +kernel)
  exact ⟨j, hj, by rw [e]; exact nI_toInt (by omega)⟩
theorem x_in {L : Nat} {xs : Nat → Int32} {a b lo hi : Int} (h6 : a ≤ (Int32.ofNat L).toInt ∧ (Int32.ofNat L).toInt ≤ b) (h7 : lo ≤ (xs 0 &&& 63).toInt ∧ (xs 0 &&& 63).toInt ≤ hi) : s_in (x_rho L xs) [s_full, s_full, s_full, s_full, s_full, s_full, (a, b), (lo, hi)] :=
  ⟨⟨rfl, rfl, rfl, rfl⟩, fun k => match k with
    | 0 => x_full _
    | 1 => x_full _
    | 2 => x_full _
    | 3 => x_full _
    | 4 => x_full _
    | 5 => x_full _
    | 6 => h6
    | 7 => h7
    | _ + 8 => x_full _⟩
theorem x_ror {L : Nat} {xs : Nat → Int32} (hL : L ≤ 6) : s_ro (fun a => if a = 0 then some (L, xs) else none) (x_rho L xs) :=
  ⟨L, xs, rfl, hL, rfl, fun j hj => by unfold x_rho; rw [if_neg (by omega), if_neg (by omega), if_neg (by omega), if_neg (by omega), if_neg (by omega), if_pos hj]⟩
theorem x_go {L : Nat} {xs : Nat → Int32} (hL : L ≤ 6) {E : SE} (hok : s_okv E = true) (hE : s_in (x_rho L xs) E) :
    ∃ k w', m_run (fun a => if a = 0 then some (L, xs) else none) k 60 275 0 [(0, .inr (.inr (some 0)))] [] (8, 0, 0, fun _ => (0, 0), fun _ _ => .inl 0) = some (.inl (some (.inl 1)), w') ∧ mcx w' ≤ 600002 ∧ msl w' ≤ 7302231 := by
  unfold s_okv at hok
  split at hok
  · rename_i rs hrs
    obtain ⟨q, hq, hqE, k, hk⟩ := s_run_ok (fun a => if a = 0 then some (L, xs) else none) _ _ _ _ _ _ _ _ _ hrs (x_rho L xs) hE (x_ror hL)
    have h1 := List.all_eq_true.mp hok q hq
    unfold s_okr at h1
    split at h1
    · rename_i x hv
      simp only [Bool.and_eq_true, decide_eq_true_eq] at h1
      obtain ⟨⟨rfl, h2⟩, h3⟩ := h1
      rw [hv] at hk
      obtain ⟨k2, hk2⟩ := x_pre ⟨rfl, rfl, rfl, rfl⟩ (x_ror hL) ⟨k, hk⟩
      exact ⟨k2, s_w (x_rho L xs) q.2.2, hk2, Nat.le_of_ble_eq_true h2, Nat.le_of_ble_eq_true h3⟩
    · cases h1
  · cases hok
theorem x_inp {L : Nat} {xs : Nat → Int32} {v a b c d : Int} (h1 : a ≤ (xs 1).toInt ∧ (xs 1).toInt ≤ b) (h2 : c ≤ (xs 2).toInt ∧ (xs 2).toInt ≤ d) (h6 : (6 : Int) ≤ (Int32.ofNat L).toInt ∧ (Int32.ofNat L).toInt ≤ 6) (h7 : v ≤ (xs 0 &&& 63).toInt ∧ (xs 0 &&& 63).toInt ≤ v) : s_in (x_rho L xs) (s_Ep v a b c d) :=
  ⟨⟨rfl, rfl, rfl, rfl⟩, fun k => match k with
    | 0 => x_full _
    | 1 => h1
    | 2 => h2
    | 3 => x_full _
    | 4 => x_full _
    | 5 => x_full _
    | 6 => h6
    | 7 => h7
    | _ + 8 => x_full _⟩
/-- from the law's entry to its end, for one script -/
def x_G (L : Nat) (xs : Nat → Int32) : Prop := ∃ k w', m_run (fun a => if a = 0 then some (L, xs) else none) k 60 275 0 [(0, .inr (.inr (some 0)))] [] (8, 0, 0, fun _ => (0, 0), fun _ _ => .inl 0) = some (.inl (some (.inl 1)), w') ∧ mcx w' ≤ 600002 ∧ msl w' ≤ 7302231
theorem x_g32 {L : Nat} {xs : Nat → Int32} (hL : L ≤ 6) (hE : s_in (x_rho L xs) x_E32) : x_G L xs := by
  obtain ⟨k, hk⟩ := x_pre ⟨rfl, rfl, rfl, rfl⟩ (x_ror hL) (x_32 hE (x_ror hL))
  exact ⟨k, s_w (x_rho L xs) x_A5, hk, Nat.le_of_ble_eq_true (show Nat.ble x_A5.2.1 600002 = true by decide +kernel), Nat.le_of_ble_eq_true (show Nat.ble x_A5.2.2.1 7302231 = true by decide +kernel)⟩
theorem x_p14 {L : Nat} {xs : Nat → Int32} (hL : L ≤ 6) (h6 : (6 : Int) ≤ (Int32.ofNat L).toInt ∧ (Int32.ofNat L).toInt ≤ 6) (h7 : (14 : Int) ≤ (xs 0 &&& 63).toInt ∧ (xs 0 &&& 63).toInt ≤ 14) : x_G L xs := by
  have h1 := x_full (xs 1)
  have h2 := x_full (xs 2)
  have hd : (xs 1).toInt ≤ -1 ∨ 10 ≤ (xs 1).toInt ∨ (xs 1).toInt = 0 ∨ (xs 1).toInt = 1 ∨ (xs 1).toInt = 2 ∨ (xs 1).toInt = 3 ∨ (xs 1).toInt = 4 ∨ (xs 1).toInt = 5 ∨ (xs 1).toInt = 6 ∨ (xs 1).toInt = 7 ∨ (xs 1).toInt = 8 ∨ (xs 1).toInt = 9 := by omega
  rcases hd with h | h | h | h | h | h | h | h | h | h | h | h
  · exact x_go hL t_14_n (x_inp (by omega) (by omega) h6 h7)
  · exact x_go hL t_14_p (x_inp (by omega) (by omega) h6 h7)
  · exact x_go hL t_14_0 (x_inp (by omega) (by omega) h6 h7)
  · exact x_go hL t_14_1 (x_inp (by omega) (by omega) h6 h7)
  · exact x_go hL t_14_2 (x_inp (by omega) (by omega) h6 h7)
  · exact x_go hL t_14_3 (x_inp (by omega) (by omega) h6 h7)
  · exact x_go hL t_14_4 (x_inp (by omega) (by omega) h6 h7)
  · exact x_go hL t_14_5 (x_inp (by omega) (by omega) h6 h7)
  · exact x_go hL t_14_6 (x_inp (by omega) (by omega) h6 h7)
  · exact x_go hL t_14_7 (x_inp (by omega) (by omega) h6 h7)
  · exact x_go hL t_14_8 (x_inp (by omega) (by omega) h6 h7)
  · exact x_go hL t_14_9 (x_inp (by omega) (by omega) h6 h7)
theorem x_p15 {L : Nat} {xs : Nat → Int32} (hL : L ≤ 6) (h6 : (6 : Int) ≤ (Int32.ofNat L).toInt ∧ (Int32.ofNat L).toInt ≤ 6) (h7 : (15 : Int) ≤ (xs 0 &&& 63).toInt ∧ (xs 0 &&& 63).toInt ≤ 15) : x_G L xs := by
  have h1 := x_full (xs 1)
  have h2 := x_full (xs 2)
  have hd : (xs 1).toInt ≤ -1 ∨ 12 ≤ (xs 1).toInt ∨ (xs 1).toInt = 0 ∨ (xs 1).toInt = 1 ∨ (xs 1).toInt = 2 ∨ (xs 1).toInt = 3 ∨ (xs 1).toInt = 4 ∨ (xs 1).toInt = 5 ∨ (xs 1).toInt = 6 ∨ (xs 1).toInt = 7 ∨ (xs 1).toInt = 8 ∨ (xs 1).toInt = 9 ∨ (xs 1).toInt = 10 ∨ (xs 1).toInt = 11 := by omega
  rcases hd with h | h | h | h | h | h | h | h | h | h | h | h | h | h
  · exact x_go hL t_15_n (x_inp (by omega) (by omega) h6 h7)
  · exact x_go hL t_15_p (x_inp (by omega) (by omega) h6 h7)
  · exact x_go hL t_15_0 (x_inp (by omega) (by omega) h6 h7)
  · exact x_go hL t_15_1 (x_inp (by omega) (by omega) h6 h7)
  · exact x_go hL t_15_2 (x_inp (by omega) (by omega) h6 h7)
  · exact x_go hL t_15_3 (x_inp (by omega) (by omega) h6 h7)
  · exact x_go hL t_15_4 (x_inp (by omega) (by omega) h6 h7)
  · exact x_go hL t_15_5 (x_inp (by omega) (by omega) h6 h7)
  · exact x_go hL t_15_6 (x_inp (by omega) (by omega) h6 h7)
  · exact x_go hL t_15_7 (x_inp (by omega) (by omega) h6 h7)
  · exact x_go hL t_15_8 (x_inp (by omega) (by omega) h6 h7)
  · exact x_go hL t_15_9 (x_inp (by omega) (by omega) h6 h7)
  · exact x_go hL t_15_10 (x_inp (by omega) (by omega) h6 h7)
  · exact x_go hL t_15_11 (x_inp (by omega) (by omega) h6 h7)
theorem x_p24 {L : Nat} {xs : Nat → Int32} (hL : L ≤ 6) (h6 : (6 : Int) ≤ (Int32.ofNat L).toInt ∧ (Int32.ofNat L).toInt ≤ 6) (h7 : (24 : Int) ≤ (xs 0 &&& 63).toInt ∧ (xs 0 &&& 63).toInt ≤ 24) : x_G L xs := by
  have h1 := x_full (xs 1)
  have h2 := x_full (xs 2)
  have hd : (xs 1).toInt ≤ -1 ∨ 12 ≤ (xs 1).toInt ∨ (xs 1).toInt = 0 ∨ (xs 1).toInt = 1 ∨ (xs 1).toInt = 2 ∨ (xs 1).toInt = 3 ∨ (xs 1).toInt = 4 ∨ (xs 1).toInt = 5 ∨ (xs 1).toInt = 6 ∨ (xs 1).toInt = 7 ∨ (xs 1).toInt = 8 ∨ (xs 1).toInt = 9 ∨ (xs 1).toInt = 10 ∨ (xs 1).toInt = 11 := by omega
  rcases hd with h | h | h | h | h | h | h | h | h | h | h | h | h | h
  · exact x_go hL t_24_n (x_inp (by omega) (by omega) h6 h7)
  · exact x_go hL t_24_p (x_inp (by omega) (by omega) h6 h7)
  · exact x_go hL t_24_0 (x_inp (by omega) (by omega) h6 h7)
  · exact x_go hL t_24_1 (x_inp (by omega) (by omega) h6 h7)
  · exact x_go hL t_24_2 (x_inp (by omega) (by omega) h6 h7)
  · exact x_go hL t_24_3 (x_inp (by omega) (by omega) h6 h7)
  · exact x_go hL t_24_4 (x_inp (by omega) (by omega) h6 h7)
  · exact x_go hL t_24_5 (x_inp (by omega) (by omega) h6 h7)
  · exact x_go hL t_24_6 (x_inp (by omega) (by omega) h6 h7)
  · exact x_go hL t_24_7 (x_inp (by omega) (by omega) h6 h7)
  · exact x_go hL t_24_8 (x_inp (by omega) (by omega) h6 h7)
  · exact x_go hL t_24_9 (x_inp (by omega) (by omega) h6 h7)
  · exact x_go hL t_24_10 (x_inp (by omega) (by omega) h6 h7)
  · exact x_go hL t_24_11 (x_inp (by omega) (by omega) h6 h7)
theorem x_p26 {L : Nat} {xs : Nat → Int32} (hL : L ≤ 6) (h6 : (6 : Int) ≤ (Int32.ofNat L).toInt ∧ (Int32.ofNat L).toInt ≤ 6) (h7 : (26 : Int) ≤ (xs 0 &&& 63).toInt ∧ (xs 0 &&& 63).toInt ≤ 26) : x_G L xs := by
  have h1 := x_full (xs 1)
  have h2 := x_full (xs 2)
  have hd : (xs 1).toInt ≤ -2 ∨ 12 ≤ (xs 1).toInt ∨ (xs 1).toInt = -1 ∨ (xs 1).toInt = 0 ∨ (xs 1).toInt = 1 ∨ (xs 1).toInt = 2 ∨ (xs 1).toInt = 3 ∨ (xs 1).toInt = 4 ∨ (xs 1).toInt = 5 ∨ (xs 1).toInt = 6 ∨ (xs 1).toInt = 7 ∨ (xs 1).toInt = 8 ∨ (xs 1).toInt = 9 ∨ (xs 1).toInt = 10 ∨ (xs 1).toInt = 11 := by omega
  rcases hd with h | h | h | h | h | h | h | h | h | h | h | h | h | h | h
  · exact x_go hL t_26_n (x_inp (by omega) (by omega) h6 h7)
  · exact x_go hL t_26_p (x_inp (by omega) (by omega) h6 h7)
  · exact x_go hL t_26_m1 (x_inp (by omega) (by omega) h6 h7)
  · exact x_go hL t_26_0 (x_inp (by omega) (by omega) h6 h7)
  · exact x_go hL t_26_1 (x_inp (by omega) (by omega) h6 h7)
  · exact x_go hL t_26_2 (x_inp (by omega) (by omega) h6 h7)
  · exact x_go hL t_26_3 (x_inp (by omega) (by omega) h6 h7)
  · exact x_go hL t_26_4 (x_inp (by omega) (by omega) h6 h7)
  · exact x_go hL t_26_5 (x_inp (by omega) (by omega) h6 h7)
  · exact x_go hL t_26_6 (x_inp (by omega) (by omega) h6 h7)
  · exact x_go hL t_26_7 (x_inp (by omega) (by omega) h6 h7)
  · exact x_go hL t_26_8 (x_inp (by omega) (by omega) h6 h7)
  · exact x_go hL t_26_9 (x_inp (by omega) (by omega) h6 h7)
  · exact x_go hL t_26_10 (x_inp (by omega) (by omega) h6 h7)
  · exact x_go hL t_26_11 (x_inp (by omega) (by omega) h6 h7)
theorem x_p36 {L : Nat} {xs : Nat → Int32} (hL : L ≤ 6) (h6 : (6 : Int) ≤ (Int32.ofNat L).toInt ∧ (Int32.ofNat L).toInt ≤ 6) (h7 : (36 : Int) ≤ (xs 0 &&& 63).toInt ∧ (xs 0 &&& 63).toInt ≤ 36) : x_G L xs := by
  have h1 := x_full (xs 1)
  have h2 := x_full (xs 2)
  have hd : (xs 1).toInt ≤ -1 ∨ 8 ≤ (xs 1).toInt ∨ (xs 1).toInt = 0 ∨ (xs 1).toInt = 1 ∨ (xs 1).toInt = 2 ∨ (xs 1).toInt = 3 ∨ (xs 1).toInt = 4 ∨ (xs 1).toInt = 5 ∨ (xs 1).toInt = 6 ∨ (xs 1).toInt = 7 := by omega
  rcases hd with h | h | h | h | h | h | h | h | h | h
  · exact x_go hL t_36_n (x_inp (by omega) (by omega) h6 h7)
  · exact x_go hL t_36_p (x_inp (by omega) (by omega) h6 h7)
  · have hd2 : (xs 2).toInt ≤ -1 ∨ 3 ≤ (xs 2).toInt ∨ (xs 2).toInt = 0 ∨ (xs 2).toInt = 1 ∨ (xs 2).toInt = 2 := by omega
    rcases hd2 with h3 | h3 | h3 | h3 | h3
    · exact x_go hL t_36_0_n (x_inp (by omega) (by omega) h6 h7)
    · exact x_go hL t_36_0_p (x_inp (by omega) (by omega) h6 h7)
    · exact x_go hL t_36_0_0 (x_inp (by omega) (by omega) h6 h7)
    · exact x_go hL t_36_0_1 (x_inp (by omega) (by omega) h6 h7)
    · exact x_go hL t_36_0_2 (x_inp (by omega) (by omega) h6 h7)
  · have hd2 : (xs 2).toInt ≤ -1 ∨ 3 ≤ (xs 2).toInt ∨ (xs 2).toInt = 0 ∨ (xs 2).toInt = 1 ∨ (xs 2).toInt = 2 := by omega
    rcases hd2 with h3 | h3 | h3 | h3 | h3
    · exact x_go hL t_36_1_n (x_inp (by omega) (by omega) h6 h7)
    · exact x_go hL t_36_1_p (x_inp (by omega) (by omega) h6 h7)
    · exact x_go hL t_36_1_0 (x_inp (by omega) (by omega) h6 h7)
    · exact x_go hL t_36_1_1 (x_inp (by omega) (by omega) h6 h7)
    · exact x_go hL t_36_1_2 (x_inp (by omega) (by omega) h6 h7)
  · have hd2 : (xs 2).toInt ≤ -1 ∨ 3 ≤ (xs 2).toInt ∨ (xs 2).toInt = 0 ∨ (xs 2).toInt = 1 ∨ (xs 2).toInt = 2 := by omega
    rcases hd2 with h3 | h3 | h3 | h3 | h3
    · exact x_go hL t_36_2_n (x_inp (by omega) (by omega) h6 h7)
    · exact x_go hL t_36_2_p (x_inp (by omega) (by omega) h6 h7)
    · exact x_go hL t_36_2_0 (x_inp (by omega) (by omega) h6 h7)
    · exact x_go hL t_36_2_1 (x_inp (by omega) (by omega) h6 h7)
    · exact x_go hL t_36_2_2 (x_inp (by omega) (by omega) h6 h7)
  · have hd2 : (xs 2).toInt ≤ -1 ∨ 3 ≤ (xs 2).toInt ∨ (xs 2).toInt = 0 ∨ (xs 2).toInt = 1 ∨ (xs 2).toInt = 2 := by omega
    rcases hd2 with h3 | h3 | h3 | h3 | h3
    · exact x_go hL t_36_3_n (x_inp (by omega) (by omega) h6 h7)
    · exact x_go hL t_36_3_p (x_inp (by omega) (by omega) h6 h7)
    · exact x_go hL t_36_3_0 (x_inp (by omega) (by omega) h6 h7)
    · exact x_go hL t_36_3_1 (x_inp (by omega) (by omega) h6 h7)
    · exact x_go hL t_36_3_2 (x_inp (by omega) (by omega) h6 h7)
  · have hd2 : (xs 2).toInt ≤ -1 ∨ 3 ≤ (xs 2).toInt ∨ (xs 2).toInt = 0 ∨ (xs 2).toInt = 1 ∨ (xs 2).toInt = 2 := by omega
    rcases hd2 with h3 | h3 | h3 | h3 | h3
    · exact x_go hL t_36_4_n (x_inp (by omega) (by omega) h6 h7)
    · exact x_go hL t_36_4_p (x_inp (by omega) (by omega) h6 h7)
    · exact x_go hL t_36_4_0 (x_inp (by omega) (by omega) h6 h7)
    · exact x_go hL t_36_4_1 (x_inp (by omega) (by omega) h6 h7)
    · exact x_go hL t_36_4_2 (x_inp (by omega) (by omega) h6 h7)
  · have hd2 : (xs 2).toInt ≤ -1 ∨ 3 ≤ (xs 2).toInt ∨ (xs 2).toInt = 0 ∨ (xs 2).toInt = 1 ∨ (xs 2).toInt = 2 := by omega
    rcases hd2 with h3 | h3 | h3 | h3 | h3
    · exact x_go hL t_36_5_n (x_inp (by omega) (by omega) h6 h7)
    · exact x_go hL t_36_5_p (x_inp (by omega) (by omega) h6 h7)
    · exact x_go hL t_36_5_0 (x_inp (by omega) (by omega) h6 h7)
    · exact x_go hL t_36_5_1 (x_inp (by omega) (by omega) h6 h7)
    · exact x_go hL t_36_5_2 (x_inp (by omega) (by omega) h6 h7)
  · have hd2 : (xs 2).toInt ≤ -1 ∨ 3 ≤ (xs 2).toInt ∨ (xs 2).toInt = 0 ∨ (xs 2).toInt = 1 ∨ (xs 2).toInt = 2 := by omega
    rcases hd2 with h3 | h3 | h3 | h3 | h3
    · exact x_go hL t_36_6_n (x_inp (by omega) (by omega) h6 h7)
    · exact x_go hL t_36_6_p (x_inp (by omega) (by omega) h6 h7)
    · exact x_go hL t_36_6_0 (x_inp (by omega) (by omega) h6 h7)
    · exact x_go hL t_36_6_1 (x_inp (by omega) (by omega) h6 h7)
    · exact x_go hL t_36_6_2 (x_inp (by omega) (by omega) h6 h7)
  · have hd2 : (xs 2).toInt ≤ -1 ∨ 3 ≤ (xs 2).toInt ∨ (xs 2).toInt = 0 ∨ (xs 2).toInt = 1 ∨ (xs 2).toInt = 2 := by omega
    rcases hd2 with h3 | h3 | h3 | h3 | h3
    · exact x_go hL t_36_7_n (x_inp (by omega) (by omega) h6 h7)
    · exact x_go hL t_36_7_p (x_inp (by omega) (by omega) h6 h7)
    · exact x_go hL t_36_7_0 (x_inp (by omega) (by omega) h6 h7)
    · exact x_go hL t_36_7_1 (x_inp (by omega) (by omega) h6 h7)
    · exact x_go hL t_36_7_2 (x_inp (by omega) (by omega) h6 h7)
theorem x_all {L : Nat} {xs : Nat → Int32} (hL : L ≤ 6) (h6 : (6 : Int) ≤ (Int32.ofNat L).toInt ∧ (Int32.ofNat L).toInt ≤ 6) (v : Nat) (hv : v < 42) (h7 : (v : Int) ≤ (xs 0 &&& 63).toInt ∧ (xs 0 &&& 63).toInt ≤ (v : Int)) : x_G L xs := match v, hv, h7 with
  | 0, _, h7 => x_go hL t_0 (x_in h6 h7)
  | 1, _, h7 => x_go hL t_1 (x_in h6 h7)
  | 2, _, h7 => x_go hL t_2 (x_in h6 h7)
  | 3, _, h7 => x_go hL t_3 (x_in h6 h7)
  | 4, _, h7 => x_go hL t_4 (x_in h6 h7)
  | 5, _, h7 => x_go hL t_5 (x_in h6 h7)
  | 6, _, h7 => x_go hL t_6 (x_in h6 h7)
  | 7, _, h7 => x_go hL t_7 (x_in h6 h7)
  | 8, _, h7 => x_go hL t_8 (x_in h6 h7)
  | 9, _, h7 => x_go hL t_9 (x_in h6 h7)
  | 10, _, h7 => x_go hL t_10 (x_in h6 h7)
  | 11, _, h7 => x_go hL t_11 (x_in h6 h7)
  | 12, _, h7 => x_go hL t_12 (x_in h6 h7)
  | 13, _, h7 => x_go hL t_13 (x_in h6 h7)
  | 14, _, h7 => x_p14 hL h6 h7
  | 15, _, h7 => x_p15 hL h6 h7
  | 16, _, h7 => x_go hL t_16 (x_in h6 h7)
  | 17, _, h7 => x_go hL t_17 (x_in h6 h7)
  | 18, _, h7 => x_go hL t_18 (x_in h6 h7)
  | 19, _, h7 => x_go hL t_19 (x_in h6 h7)
  | 20, _, h7 => x_go hL t_20 (x_in h6 h7)
  | 21, _, h7 => x_go hL t_21 (x_in h6 h7)
  | 22, _, h7 => x_go hL t_22 (x_in h6 h7)
  | 23, _, h7 => x_go hL t_23 (x_in h6 h7)
  | 24, _, h7 => x_p24 hL h6 h7
  | 25, _, h7 => x_go hL t_25 (x_in h6 h7)
  | 26, _, h7 => x_p26 hL h6 h7
  | 27, _, h7 => x_go hL t_27 (x_in h6 h7)
  | 28, _, h7 => x_go hL t_28 (x_in h6 h7)
  | 29, _, h7 => x_go hL t_29 (x_in h6 h7)
  | 30, _, h7 => x_go hL t_30 (x_in h6 h7)
  | 31, _, h7 => x_go hL t_31 (x_in h6 h7)
  | 32, _, h7 => x_g32 hL (x_in h6 h7)
  | 33, _, h7 => x_go hL t_33 (x_in h6 h7)
  | 34, _, h7 => x_go hL t_34 (x_in h6 h7)
  | 35, _, h7 => x_go hL t_35 (x_in h6 h7)
  | 36, _, h7 => x_p36 hL h6 h7
  | 37, _, h7 => x_go hL t_37 (x_in h6 h7)
  | 38, _, h7 => x_go hL t_38 (x_in h6 h7)
  | 39, _, h7 => x_go hL t_39 (x_in h6 h7)
  | 40, _, h7 => x_go hL t_40 (x_in h6 h7)
  | 41, _, h7 => x_go hL t_41 (x_in h6 h7)
  | n + 42, h, _ => absurd h (by omega)
/-- from the entry, for every script of at most 6 ints, the law comes to its end with true -/
theorem whole_start {p : Program} {e : Env} {s : State} {m : MethodId} {below : List Frame} {meth : Method} {c : Code} (l : Launch) (hflags : l.flags = flags0) {b L : Nat} {xs : Nat → Int32} (hL : L ≤ 6) (C0 : lw_At p s m meth c b L xs) : W p l e room_1 s m #[Value.ref b] below meth c s.heap [] 0 0 (lw_Z below #[Value.ref b] s) (entryFrame m ([Value.ref b] : List Value).toArray 8) := by
  have hLi : (Int32.ofNat L).toInt = (L : Int) := nI_toInt (by omega)
  obtain ⟨j, hj, h7⟩ := x_six (xs 0)
  have hG : x_G L xs := by
    rcases Nat.lt_or_ge L 6 with h6 | h6
    · exact x_go hL t_short (x_in (L := L) (xs := xs) (by omega) (by omega))
    · rcases Nat.lt_or_ge j 42 with hj2 | hj2
      · exact x_all hL (by omega) j hj2 (by omega)
      · exact x_go hL t_42 (x_in (L := L) (xs := xs) (by omega) (by omega))
  obtain ⟨k, w', hk, hc, hs⟩ := hG
  exact x_end l hflags C0 hk hc hs
set_option maxHeartbeats 4000000 in
theorem lw_walk (l : Launch) (hflags : l.flags = flags0) (b : Addr) (xs : List Int32) : MetFree l x (headSpec (Jvm.Cond.code x code maxLocals ret :: tables_1) room_1) (lw_P b xs) (fun _ _ _ _ _ => True) lw_Q := by
  refine MetFree.of_bodyS (code := code) (maxLocals := maxLocals) (ret := ret) (by decide) ?_ ?_
  · intro args s m h hn
    obtain ⟨meth, c, h1, h2, h3, h4, h5, h6, -, -⟩ := Cond.code_spec hn (atoms_spec (ws := Jvm.Cond.code x code maxLocals ret :: tables_1) h _ List.mem_cons_self)
    exact ⟨meth, c, h1, h2, h3, h4, h5, h6⟩
  · intro p e s m args below meth c s₁ B hml0 hP _
    obtain ⟨rfl, hx, hbd, hgv⟩ := hP
    obtain ⟨scr, harrAt, hlist, hof, hsmall⟩ := hx
    obtain ⟨hcb, hkn, -, -⟩ := State.arrayAt?_spec harrAt
    have hown : s.vm.findClass R_law = some m.cls := findClass_of_methodNamed B.named
    have hts0 : ∀ c ∈ (Jvm.Cond.code x code maxLocals ret :: tables_1), c.before #[Value.ref b] s = true := atoms_spec (ws := Jvm.Cond.code x code maxLocals ret :: tables_1) B.pre
    have hts : ∀ w ∈ lw_tbl, w.before #[Value.ref b] s = true := k2_hts_sels lw_privs (fun w hw => hts0 w (List.mem_cons_of_mem _ hw)) lw_privs_ok
    have hml : c.maxLocals = 8 := B.maxLocals_eq (hts0 _ List.mem_cons_self)
    have X₀ : Stand p l e room_1 s m #[Value.ref b] below meth c s₁ [] 0 0 := Stand.of_body B
    have hh0 : s₁.heap = s.heap := by rw [B.state]; rfl
    have hsz : scr.slots.size = xs.length := by rw [← Array.length_toList, hlist, List.length_map]
    have hval : ∀ j : Nat, j < xs.length → scr.slots[j]? = some (.int (xs.getD j 0)) := fun j hj => by
      rw [← Array.getElem?_toList, hlist]
      simp [hj]
    have hbl : b < s.heap.size := (Array.getElem?_eq_some_iff.mp hcb).1
    have hX : va_X b xs.length (fun j => xs.getD j 0) s s.heap := ⟨scr, hcb, hof, hkn, hsz, hval⟩
    have K : W p l e room_1 s m #[Value.ref b] below meth c s₁.heap [] 0 0 (lw_Z below #[Value.ref b] s) (entryFrame m ([Value.ref b] : List Value).toArray 8) := by
      rw [hh0]
      exact whole_start l hflags hbd ⟨B.exec, B.bytes, B.returns, hml, hown, hts, hX, hbl, B.notSynchronized, hgv⟩
    obtain ⟨t, a1, o, b1, b2, b3⟩ := K s₁ rfl X₀
    exact ⟨t, o, a1, b1, b2, b3⟩
theorem lw_pre_spec {args : Array Value} {s : State} (h : (Jvm.Cond.and given_1 narrow_1).before args s = true) (hr : rest_1_c.before args s = true) : ∃ (b : Addr) (xs : List Int32), lw_P b xs args s := by
  have hs := flat_of_before _ h
  have hq := flat_of_before _ hr
  have hc : (Cond.count 1).before args s = true := hs _ (by decide +kernel)
  have harr : (Cond.arrayOf (.arg 0) .int).before args s = true := hs _ (by decide +kernel)
  have hle : (Cond.le (.length (.arg 0)) (.int 6)).before args s = true := hs _ (by decide +kernel)
  have hlen : (Cond.isInt (.length (.arg 0))).before args s = true := hq _ (by decide +kernel)
  have hall : (Cond.all (.arg 0) (.isInt (.elem (.arg 0) (.index 0)))).before args s = true := hq _ (by decide +kernel)
  obtain ⟨b, xs, hb, hx⟩ := State.ints_of_pre rfl harr hlen hall
  have hsm : xs.length < 2 ^ 31 := hx.choose_spec.2.2.2
  have hev : (Term.length (.arg 0)).eval args s none [] s = some (.int xs.length.toInt32) := hx.length_eval hb
  have hv := Cond.le_ints hev (show (Term.int 6).eval args s none [] s = some (.int 6) from rfl)
  have hd : xs.length.toInt32 ≤ 6 := by
    simpa [Cond.before, Cond.holds, hv] using hle
  have hN : xs.length ≤ 6 := (Int32.ofNat_le_ofNat hsm (by decide)).mp (show Int32.ofNat xs.length ≤ Int32.ofNat 6 from hd)
  exact ⟨b, xs, Cond.one_arg hc (show args[0]? = some (.ref b) from hb), hx, hN, h⟩
theorem lw_comes (l : Launch) (hflags : l.flags = flags0) : Comes l x (Jvm.Cond.code x code maxLocals ret :: tables_1) room_1 (fun tb e args s => Calls_1 tb e args s ∧ rest_1 tb e args s ∧ Pre_1 tb e args s)
    (fun _ _ args s o t => lw_Q args s o t) := by
  intro p e ha hc hk s m args below hf hfit hheap happ hpre
  obtain ⟨b, xs, hP⟩ := lw_pre_spec hpre.2.2 hpre.2.1
  obtain ⟨k, o, h1, h2, h3, hQ⟩ := lw_walk l hflags b xs p e ha hc hk s m args below hf ((Spec.applies_iff_loose hf).mp happ).1 hP trivial
  exact ⟨k, o, h1, h2, h3, hQ⟩
theorem lw_frame {s t : State} {o : Outcome} {args : Array Value} (h : Framed s o t [] 600002 7302231) :
    Framed s o t (fieldLocs frame_1_writes args s ++ arrayLocs frame_1_arrays args s ++ staticLocs frame_1_statics s) 600002 7302231 := h
theorem lw_limb (L : Cond) (hL : ∀ (args : Array Value) (s t : State), L.after args s (.returned (some (.int 1))) t = true) :
    ArmFor flags0 classFile x code maxLocals ret World_1 tables_1 room_1 Calls_1 rest_1 Pre_1
      (fun tb e a s o t => postC L tb e a s o t ∧ Framed s o t (fieldLocs frame_1_writes a s ++ arrayLocs frame_1_arrays a s ++ staticLocs frame_1_statics s) 600002 7302231) := by
  intro l hflags _ _ p e ha hc hk s m args below hf hfit hheap happ hpre
  obtain ⟨k, o, h1, h2, h3, rfl, hF⟩ := lw_comes l hflags p e ha hc hk s m args below hf hfit hheap happ hpre
  exact ⟨k, _, h1, h2, h3, hL args s _, lw_frame hF⟩
theorem i_vc : Claimed_1_1 ∧ Claimed_1_2 := ⟨lw_limb limb_1_1 (fun args s t => by simp [limb_1_1, Cond.after, Cond.holds, Cond.value]), lw_limb limb_1_2 (fun args s t => Cond.after_iff.mpr (by
  first | (rw [show limb_1_2 = Cond.eq .result (.int 1) from rfl, Cond.eq_ints (x := 1) (y := 1) rfl rfl]; simp; done) | (simp [limb_1_2, Cond.value, Term.eval]; done)))⟩
