theorem e_mokc0 : ((List.range 16).all fun k => e_mok (0 + k)) = true := by decide +kernel
theorem e_mokc1 : ((List.range 16).all fun k => e_mok (16 + k)) = true := by decide +kernel
theorem e_mokc2 : ((List.range 16).all fun k => e_mok (32 + k)) = true := by decide +kernel
theorem e_mokc3 : ((List.range 16).all fun k => e_mok (48 + k)) = true := by decide +kernel
theorem e_mokc4 : ((List.range 16).all fun k => e_mok (64 + k)) = true := by decide +kernel
theorem e_mokc5 : ((List.range 16).all fun k => e_mok (80 + k)) = true := by decide +kernel
theorem e_mokc6 : ((List.range 16).all fun k => e_mok (96 + k)) = true := by decide +kernel
theorem e_mokc7 : ((List.range 16).all fun k => e_mok (112 + k)) = true := by decide +kernel
theorem e_mokc8 : ((List.range 16).all fun k => e_mok (128 + k)) = true := by decide +kernel
theorem e_mokc9 : ((List.range 16).all fun k => e_mok (144 + k)) = true := by decide +kernel
theorem e_mokc10 : ((List.range 16).all fun k => e_mok (160 + k)) = true := by decide +kernel
theorem e_mokc11 : ((List.range 16).all fun k => e_mok (176 + k)) = true := by decide +kernel
theorem e_mokc12 : ((List.range 16).all fun k => e_mok (192 + k)) = true := by decide +kernel
theorem e_mokc13 : ((List.range 16).all fun k => e_mok (208 + k)) = true := by decide +kernel
theorem e_mokc14 : ((List.range 16).all fun k => e_mok (224 + k)) = true := by decide +kernel
theorem e_mokc15 : ((List.range 16).all fun k => e_mok (240 + k)) = true := by decide +kernel
theorem e_mokc16 : ((List.range 16).all fun k => e_mok (256 + k)) = true := by decide +kernel
theorem e_mokc17 : ((List.range 16).all fun k => e_mok (272 + k)) = true := by decide +kernel
theorem e_mokc18 : ((List.range 16).all fun k => e_mok (288 + k)) = true := by decide +kernel
theorem e_mokc19 : ((List.range 16).all fun k => e_mok (304 + k)) = true := by decide +kernel
theorem e_mok_all (v : Nat) : e_mok v = true := by
  have key : ∀ n, ((List.range 16).all fun k => e_mok (16 * n + k)) = true := fun n => match n with
    | 0 => e_mokc0
    | 1 => e_mokc1
    | 2 => e_mokc2
    | 3 => e_mokc3
    | 4 => e_mokc4
    | 5 => e_mokc5
    | 6 => e_mokc6
    | 7 => e_mokc7
    | 8 => e_mokc8
    | 9 => e_mokc9
    | 10 => e_mokc10
    | 11 => e_mokc11
    | 12 => e_mokc12
    | 13 => e_mokc13
    | 14 => e_mokc14
    | 15 => e_mokc15
    | 16 => e_mokc16
    | 17 => e_mokc17
    | 18 => e_mokc18
    | 19 => e_mokc19
    | n + 20 => by
      refine List.all_eq_true.mpr fun k hk => ?_
      have hk2 := List.mem_range.mp hk
      unfold e_mok
      have e1 : (16 * (n + 20) + k) / 16 = n + 20 := by omega
      rw [e1]
      rfl
  have h := List.all_eq_true.mp (key (v / 16)) (v % 16) (List.mem_range.mpr (by omega))
  rw [show 16 * (v / 16) + v % 16 = v by omega] at h
  exact h
theorem e_eokc : ((List.range 320).all fun v => e_eok v && decide (0 < e_ht v)) = true := by decide +kernel
theorem e_eok_all (v : Nat) : e_eok v = true ∧ 0 < e_ht v := by
  by_cases hv : v < 320
  · have h := List.all_eq_true.mp e_eokc v (List.mem_range.mpr hv)
    rw [Bool.and_eq_true] at h
    exact ⟨h.1, of_decide_eq_true h.2⟩
  · obtain ⟨n, hn⟩ : ∃ n, v / 16 = n + 20 := ⟨v / 16 - 20, by omega⟩
    refine ⟨?_, ?_⟩
    · unfold e_eok e_lb
      rw [hn]; rfl
    · unfold e_ht
      rw [hn]; exact Nat.zero_lt_one
