/-! the relation: what the class's HOUSE holds of roof, trade and room is what the reference's row holds, now and in the image -/
def p_P : List (Nat × Nat × Nat) := (List.range 10).flatMap (fun k => [(27, k, 1120 + 3 * k), (28, k, 1121 + 3 * k), (29, k, 1122 + 3 * k)]) ++ ((List.range 12).flatMap (fun k => [(30, k, 1150 + 2 * k), (31, k, 1151 + 2 * k), (34, k, 1174 + 2 * k), (35, k, 1175 + 2 * k)]) ++ [(33, 2, 1199)])
def p_rel (f : Nat → Nat → Int) (g : Nat → Int) : Prop := ∀ q ∈ p_P, f q.1 q.2.1 = g q.2.2
def p_R (M : EM) : Prop := p_rel M (M 193) ∧ (∀ q ∈ p_P, M (q.1 + 68) q.2.1 = M 194 q.2.2) ∧ M 8 2 = M 192 9
theorem p_inj : ∀ q ∈ p_P, ∀ q' ∈ p_P, (q.1 = q'.1 ∧ q.2.1 = q'.2.1) ↔ q.2.2 = q'.2.2 := by decide +kernel
theorem p_bd : ∀ q ∈ p_P, 27 ≤ q.1 ∧ q.1 ≤ 35 ∧ q.2.2 < 1330 := by decide +kernel
theorem p_cov : ∀ q ∈ p_P, ∃ w ∈ p_D48, w.1 = q.1 ∧ w.2.1 ≤ q.2.1 ∧ q.2.1 ≤ w.2.2 := by decide +kernel
theorem p_rel_up {f : Nat → Nat → Int} {g : Nat → Int} {c k r : Nat} {v : Int} (h : p_rel f g) (hm : (c, k, r) ∈ p_P) : p_rel (e_up f c k v) (fun i => if i = r then v else g i) := by
  intro q hq
  have hi := p_inj q hq _ hm
  by_cases c0 : q.2.2 = r
  · have c1 := hi.mpr c0
    show e_up f c k v q.1 q.2.1 = (if q.2.2 = r then v else g q.2.2)
    rw [if_pos c0, c1.1, c1.2, c_up_s]
  · have c1 : ¬ (q.1 = c ∧ q.2.1 = k) := fun e => c0 (hi.mp e)
    show e_up f c k v q.1 q.2.1 = (if q.2.2 = r then v else g q.2.2)
    rw [if_neg c0, c_up_n c1]
    exact h q hq
theorem p_193 (M : EM) (r : Nat) (v : Int) : e_up M 193 r v 193 = fun i => if i = r then v else M 193 i := by
  funext i
  unfold e_up
  simp
/-- the class's side is not touched by the reference's row -/
theorem p_rel_193 {M : EM} {g : Nat → Int} {r : Nat} {v : Int} (h : p_rel M g) : p_rel (e_up M 193 r v) g := by
  intro q hq
  have := p_bd q hq
  rw [c_up_n (fun e => by omega)]
  exact h q hq
def p_k1 : List (Nat × Nat) := p_P.flatMap (fun q => [(q.1, q.2.1), (193, q.2.2)])
def p_k2 : List (Nat × Nat) := p_P.flatMap (fun q => [(q.1 + 68, q.2.1), (194, q.2.2)]) ++ [(8, 2), (192, 9)]
def p_av (K : List (Nat × Nat)) (W : AW) : Bool := K.all (fun c => W.all (fun w => !(decide (w.1 = c.1 ∧ w.2.1 ≤ c.2 ∧ c.2 ≤ w.2.2))))
theorem p_av_ok {K : List (Nat × Nat)} {W : AW} {M M' : EM} (h : p_av K W = true) (hf : a_fr W M M') : ∀ c ∈ K, M' c.1 c.2 = M c.1 c.2 := fun c hc => hf _ _ (fun w hw e => by
  have h1 := List.all_eq_true.mp (List.all_eq_true.mp h c hc) w hw
  rw [Bool.not_eq_true', decide_eq_false_iff_not] at h1
  exact h1 e)
theorem p_k1_ok {M M' : EM} (h : ∀ c ∈ p_k1, M' c.1 c.2 = M c.1 c.2) (hr : p_rel M (M 193)) : p_rel M' (M' 193) := fun q hq => by
  have h1 := h (q.1, q.2.1) (List.mem_flatMap.mpr ⟨q, hq, by simp⟩)
  have h2 := h (193, q.2.2) (List.mem_flatMap.mpr ⟨q, hq, by simp⟩)
  dsimp only at h1 h2
  rw [h1, h2]
  exact hr q hq
theorem p_k2_ok {M M' : EM} (h : ∀ c ∈ p_k2, M' c.1 c.2 = M c.1 c.2) (hr : (∀ q ∈ p_P, M (q.1 + 68) q.2.1 = M 194 q.2.2) ∧ M 8 2 = M 192 9) : (∀ q ∈ p_P, M' (q.1 + 68) q.2.1 = M' 194 q.2.2) ∧ M' 8 2 = M' 192 9 := by
  refine ⟨fun q hq => ?_, ?_⟩
  · have h1 := h (q.1 + 68, q.2.1) (List.mem_append.mpr (Or.inl (List.mem_flatMap.mpr ⟨q, hq, by simp⟩)))
    have h2 := h (194, q.2.2) (List.mem_append.mpr (Or.inl (List.mem_flatMap.mpr ⟨q, hq, by simp⟩)))
    dsimp only at h1 h2
    rw [h1, h2]
    exact hr.1 q hq
  · have h1 := h (8, 2) (List.mem_append.mpr (Or.inr (by simp)))
    have h2 := h (192, 9) (List.mem_append.mpr (Or.inr (by simp)))
    dsimp only at h1 h2
    rw [h1, h2]
    exact hr.2
/-- a call that keeps off -/
theorem p_keep {W : AW} {M M' : EM} (h1 : p_av p_k1 W = true) (h2 : p_av p_k2 W = true) (hf : a_fr W M M') (hR : p_R M) : p_R M' := by
  obtain ⟨r1, r2, r3⟩ := hR
  obtain ⟨s1, s2⟩ := p_k2_ok (p_av_ok h2 hf) ⟨r2, r3⟩
  exact ⟨p_k1_ok (p_av_ok h1 hf) r1, s1, s2⟩
theorem p_up_k2 {M : EM} {a k : Nat} {v : Int} (h : p_k2.all (fun c => decide (c.1 ≠ a)) = true) : ∀ c ∈ p_k2, e_up M a k v c.1 c.2 = M c.1 c.2 := fun c hc => c_up_n (fun e => by
  have := of_decide_eq_true (List.all_eq_true.mp h c hc)
  exact this e.1)
theorem p_inW : ∀ j : Nat, j < 10 → (27, j, 1120 + 3 * j) ∈ p_P ∧ (28, j, 1120 + 3 * j + 1) ∈ p_P ∧ (29, j, 1120 + 3 * j + 2) ∈ p_P := by decide +kernel
theorem p_inS1 : ∀ j : Nat, j < 12 → (30, j, 1150 + 2 * j) ∈ p_P ∧ (31, j, 1150 + 2 * j + 1) ∈ p_P := by decide +kernel
theorem p_inT1 : ∀ j : Nat, j < 12 → (34, j, 1174 + 2 * j) ∈ p_P ∧ (35, j, 1174 + 2 * j + 1) ∈ p_P := by decide +kernel
theorem p_inS (j : Nat) (h : j < 12) : (30, j, 1150 + 2 * j) ∈ p_P ∧ (31, j, 1150 + 2 * j + 1) ∈ p_P ∧ (34, j, 1174 + 2 * j) ∈ p_P ∧ (35, j, 1174 + 2 * j + 1) ∈ p_P := ⟨(p_inS1 j h).1, (p_inS1 j h).2, (p_inT1 j h).1, (p_inT1 j h).2⟩
theorem p_inR : (33, 2, 1199) ∈ p_P := by decide +kernel
theorem p_a2 : p_k2.all (fun c => decide (c.1 ≠ 193) && decide (c.1 < 27 ∨ 35 < c.1)) = true := by decide +kernel
theorem p_u2 {M : EM} {a k : Nat} {v : Int} (h : a = 193 ∨ (27 ≤ a ∧ a ≤ 35)) : ∀ c ∈ p_k2, e_up M a k v c.1 c.2 = M c.1 c.2 := fun c hc => c_up_n (fun e => by
  have := List.all_eq_true.mp p_a2 c hc
  simp only [Bool.and_eq_true, decide_eq_true_eq] at this
  omega)
theorem p_k2_up {M : EM} {a k : Nat} {v : Int} (h : a = 193 ∨ (27 ≤ a ∧ a ≤ 35)) (hr : (∀ q ∈ p_P, M (q.1 + 68) q.2.1 = M 194 q.2.2) ∧ M 8 2 = M 192 9) : (∀ q ∈ p_P, (e_up M a k v) (q.1 + 68) q.2.1 = (e_up M a k v) 194 q.2.2) ∧ (e_up M a k v) 8 2 = (e_up M a k v) 192 9 := p_k2_ok (p_u2 h) hr
theorem p_up193 {M : EM} {a k : Nat} {v : Int} (h : a ≠ 193) : e_up M a k v 193 = M 193 := by
  funext i
  exact c_up_n (fun e => h e.1.symm)
theorem p_wall_R {k x y h : Int} {M : EM} (hR : p_R M) : ∃ r M1 M2, E_C 118 [8, k, x, y, h] M = some (r, M1) ∧ E_C 220 [192, k, x, y, h] M1 = some (r, M2) ∧ p_R M2 := by
  by_cases q : (0 ≤ k ∧ k ≤ 9) ∧ (0 ≤ x ∧ x ≤ 19) ∧ (0 ≤ y ∧ y ≤ 11) ∧ 0 ≤ h ∧ h ≤ 30
  · obtain ⟨j, rfl⟩ : ∃ j : Nat, k = (j : Int) := ⟨k.toNat, by omega⟩
    have hj : j < 10 := by omega
    obtain ⟨i0, i1, i2⟩ := p_inW j hj
    obtain ⟨r1, r2⟩ := hR
    have e0 : (1120 + 3 * (j : Int)).toNat = 1120 + 3 * j := by omega
    have e1 : (1120 + 3 * (j : Int) + 1).toNat = 1120 + 3 * j + 1 := by omega
    have e2 : (1120 + 3 * (j : Int) + 2).toNat = 1120 + 3 * j + 2 := by omega
    have g1 : p_wl3 M j x y h 193 = M 193 := by
      unfold p_wl3
      rw [p_up193 (by decide), p_up193 (by decide), p_up193 (by decide)]
    refine ⟨M 29 j, p_wl3 M j x y h, r_wl3 (p_wl3 M j x y h) j x y h, ?_, ?_, ?_, ?_⟩
    · rw [p_wall, if_pos q]
      rfl
    · rw [r_wall_eq, if_pos q]
      unfold r_G
      rw [g1, e2, ← r1 _ i2]
    · have f := p_rel_up (v := h) (p_rel_up (v := y) (p_rel_up (v := x) r1 i0) i1) i2
      unfold r_wl3
      rw [e0, e1, e2]
      refine p_rel_193 (p_rel_193 (p_rel_193 ?_))
      rw [p_193, p_193, p_193, g1]
      exact f
    · unfold r_wl3
      refine p_k2_up (Or.inl rfl) (p_k2_up (Or.inl rfl) (p_k2_up (Or.inl rfl) ?_))
      unfold p_wl3
      exact p_k2_up (Or.inr (by decide)) (p_k2_up (Or.inr (by decide)) (p_k2_up (Or.inr (by decide)) r2))
  · exact ⟨-1, M, M, by rw [p_wall, if_neg q], by rw [r_wall_eq, if_neg q], hR⟩
