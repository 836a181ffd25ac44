theorem x_mi : (a_miL.all fun q => Nat.ble 8 q.1 && q.2.all fun s => (List.range (s.2.1 + 1)).all fun k => decide (k < s.1) || (decide (s.2.2.1 ≤ x_i q.1 k) && decide (x_i q.1 k ≤ s.2.2.2))) = true := by decide +kernel
theorem x_aM {L : Nat} {xs : Nat → Int32} : a_M (x_M L xs) := by
  intro id k h5
  have h32 : -2147483648 ≤ x_M L xs id k ∧ x_M L xs id k ≤ 2147483647 := by
    unfold x_M
    by_cases c0 : id = 0
    · rw [if_pos c0]; exact e_rng _
    · rw [if_neg c0]
      rcases Nat.lt_or_ge id 5 with c1 | c1
      · rw [if_pos c1]; exact e_rng _
      · rw [if_neg (Nat.not_lt.mpr c1), if_neg h5]
        rcases Nat.lt_or_ge id 8 with c2 | c2
        · rw [if_pos c2]; decide
        · rw [if_neg (Nat.not_lt.mpr c2)]; exact x_i32 (by omega) k
  refine ⟨?_, ?_, fun s hs h1 h2 => ?_⟩
  · unfold a_lo; split <;> omega
  · unfold a_hi; split <;> omega
  · unfold a_mi at hs
    cases hq : q_find a_miL id with
    | none => rw [hq] at hs; cases hs
    | some l =>
      rw [hq] at hs
      have hm := List.all_eq_true.mp x_mi _ (q_find_mem hq)
      rw [Bool.and_eq_true] at hm
      have hs1 := List.all_eq_true.mp hm.2 s hs
      have hk := List.all_eq_true.mp hs1 k (List.mem_range.mpr (by omega))
      rw [x_M8 (Nat.le_of_ble_eq_true hm.1)]
      simp only [Bool.and_eq_true, Bool.or_eq_true, decide_eq_true_eq] at hk
      rcases hk with hk | hk
      · omega
      · exact hk
theorem x_J {L : Nat} {xs : Nat → Int32} : r_J (x_M L xs) := by
  have e1 : ∀ i, r_G (x_M L xs) i = 0 := fun i => (x_M8 (by decide)).trans (x_i0 (by decide) (by decide +kernel) _)
  have e7 : ∀ j, x_M L xs 197 j = 0 := fun j => (x_M8 (by decide)).trans (x_i0 (by decide) (by decide +kernel) _)
  have e9 : x_M L xs 192 9 = 0 := (x_M8 (by decide)).trans (by decide +kernel)
  have e20 : x_M L xs 192 20 = -1 := (x_M8 (by decide)).trans (by decide +kernel)
  refine ⟨x_aM, fun j hj => by rw [e7]; decide, ?_, fun h => absurd e9 h, e20⟩
  refine ⟨by rw [e1]; decide, by rw [e1]; decide, fun x x0 x1 => by rw [e1] at x1; omega, by rw [e1]; decide, by rw [e1]; decide, fun h _ _ => ?_, by rw [e1]; decide, by rw [e1]; decide⟩
  rw [e1, e1]
  decide
theorem x_rels : ((p_P.all fun q => decide (x_i q.1 q.2.1 = x_i 193 q.2.2) && decide (x_i (q.1 + 68) q.2.1 = x_i 194 q.2.2)) && decide (x_i 8 2 = x_i 192 9)) = true := by decide +kernel
theorem x_R {L : Nat} {xs : Nat → Int32} : p_R (x_M L xs) := by
  have h := x_rels
  rw [Bool.and_eq_true] at h
  obtain ⟨h1, h2⟩ := h
  have h3 : ∀ q ∈ p_P, x_i q.1 q.2.1 = x_i 193 q.2.2 ∧ x_i (q.1 + 68) q.2.1 = x_i 194 q.2.2 := fun q hq => by
    have := List.all_eq_true.mp h1 q hq
    simpa only [Bool.and_eq_true, decide_eq_true_eq] using this
  refine ⟨fun q hq => ?_, fun q hq => ?_, ?_⟩
  · have b := p_bd q hq
    rw [x_M8 (by omega), x_M8 (by decide)]
    exact (h3 q hq).1
  · rw [x_M8 (by omega), x_M8 (by decide)]
    exact (h3 q hq).2
  · rw [x_M8 (by decide), x_M8 (by decide)]
    exact of_decide_eq_true h2
theorem x_h0 : (x_i 10 0 = 0 ∧ x_i 78 0 = 0 ∧ x_i 165 0 = 0) ∧ ∀ d : Fin 8, x_i (146 + 2 * d.val) 0 = 0 ∧ x_i (146 + 2 * d.val) 1 = 0 := by decide +kernel
theorem x_HR {L : Nat} {xs : Nat → Int32} : h_R (x_M L xs) := by
  obtain ⟨⟨a1, a2, a3⟩, a4⟩ := x_h0
  have e1 : ∀ i, r_G (x_M L xs) i = 0 := fun i => (x_M8 (by decide)).trans (x_i0 (by decide) (by decide +kernel) _)
  have e2 : ∀ i, r_Gi (x_M L xs) i = 0 := fun i => (x_M8 (by decide)).trans (x_i0 (by decide) (by decide +kernel) _)
  refine ⟨x_R, ⟨?_, by rw [e1]; decide, fun q hq => ?_⟩, ⟨?_, by rw [e2]; decide, fun q hq => ?_⟩, fun d hd => Or.inl ⟨?_, ?_, ?_⟩, ?_⟩
  · rw [e1]
    exact (x_M8 (by decide)).trans a1
  · rw [e1] at hq
    omega
  · rw [e2]
    exact (x_M8 (by decide)).trans a2
  · rw [e2] at hq
    omega
  · exact (x_M8 (by decide)).trans (x_i0 (by decide) (by decide +kernel) _)
  · exact (x_M8 (by omega)).trans (a4 ⟨d, hd⟩).1
  · exact (x_M8 (by omega)).trans (a4 ⟨d, hd⟩).2
  · exact (x_M8 (by decide)).trans a3
/-- from the law's loop to its end -/
theorem x_fin {L : Nat} {xs : Nat → Int32} (hL : L ≤ 3072) : ∃ k w', m_run (x_ro L xs) k 60 274 23 (sl_val x_r0 x_L1) [] x_w3 = some (.inl (some (.inl 1)), w') ∧ mcx w' ≤ 601024 ∧ msl w' ≤ 7293034 := by
  obtain ⟨M', hE, h5, h6⟩ := l_loop (n := (L : Int)) ⟨by omega, by omega⟩ _ 0 0 0 0 (x_M L xs) x_J x_HR rfl (Int.le_of_eq (rfl : (0 : Int) = x_M L xs 5 0)) (Nat.le_refl _) (by decide) (by omega)
  have m50 : x_M L xs 5 0 = 0 := rfl
  rw [m50] at h6
  have hq : e_lb 274 23 = some ([(0, 2), (1, 2), (2, 2), (3, 2), (4, 0)], e_t274_23) := rfl
  have hLr : e_lr (q_nl (e_vm 274)) [(0, 2), (1, 2), (2, 2), (3, 2), (4, 0)] [0, 8, 192, 213, 0, 0, 0, 0] (sl_val x_r0 x_L1) := by
    refine ⟨by decide +kernel, fun i t hi => ?_⟩
    have hm := q_find_mem hi
    simp only [List.mem_cons, Prod.mk.injEq, List.not_mem_nil, or_false] at hm
    rcases hm with ⟨rfl, rfl⟩ | ⟨rfl, rfl⟩ | ⟨rfl, rfl⟩ | ⟨rfl, rfl⟩ | ⟨rfl, rfl⟩
    · exact ⟨.inr (.inr (some 0)), rfl, Or.inr ⟨0, rfl, rfl⟩⟩
    · exact ⟨.inr (.inr (some 8)), rfl, Or.inr ⟨8, rfl, rfl⟩⟩
    · exact ⟨.inr (.inr (some 192)), rfl, Or.inr ⟨192, rfl, rfl⟩⟩
    · exact ⟨.inr (.inr (some 213)), rfl, Or.inr ⟨213, rfl, rfl⟩⟩
    · exact ⟨.inl 0, rfl, 0, rfl, rfl⟩
  obtain ⟨k, o, w', hk, hw, ho⟩ := e_V_ok (x_ro L xs) e_mok_all (fun v => (e_eok_all v).1) (fun v => (e_eok_all v).2) hE hq (d := 60) (by decide +kernel) hLr (x_wr (xs := xs) hL)
  have hrt : e_rt (e_vm 274) = some 3 := by decide +kernel
  have hth : e_thr 274 = false := by decide +kernel
  rw [hrt, hth] at ho
  have hvm : e_vm 274 = 274 := by decide +kernel
  rw [hvm] at hk
  obtain ⟨-, -, -, -, hcx, hsl, -⟩ := hw
  rcases ho with ⟨ov, rfl, v, rfl, hv⟩ | ⟨h, -⟩
  · obtain ⟨-, y, rfl, hy⟩ := hv
    have hy1 : y = 1 := Int32.toInt_inj.mp (by rw [hy]; rfl)
    subst hy1
    refine ⟨k, w', hk, ?_, ?_⟩
    · unfold e_C0 at hcx
      dsimp only at hcx h5 h6
      omega
    · unfold e_S0 at hsl
      dsimp only at hsl h5 h6
      omega
  · cases h
theorem x_go {L : Nat} {xs : Nat → Int32} (hL : L ≤ 3072) : ∃ k w', m_run (x_ro L xs) k 60 274 0 [(0, .inr (.inr (some 0)))] [] (8, 0, 0, fun _ => (0, 0), fun _ _ => .inl 0) = some (.inl (some (.inl 1)), w') ∧ mcx w' ≤ 601024 ∧ msl w' ≤ 7293034 := by
  obtain ⟨k, w', hk, h1, h2⟩ := x_fin (xs := xs) hL
  obtain ⟨k2, hk2⟩ := x_pre (ro := x_ro L xs) x_d0 trivial ⟨k, hk⟩
  exact ⟨k2, w', hk2, h1, h2⟩

