section
/-! what a byte writes -/
section WMM
variable {M : EM} {c : Int} {i : Nat}
theorem w_M_o {id : Nat} (h : id < 162 ∨ 169 < id) : w_M M c id i = M id i := by
  unfold w_M w_M0 w_M1 w_M2 w_M3 w_M4 w_M5 w_M6
  have h2 : id ≠ 162 := by omega
  have h3 : id ≠ 163 := by omega
  have h4 : id ≠ 164 := by omega
  have h5 : id ≠ 165 := by omega
  have h6 : id ≠ 166 := by omega
  have h7 : id ≠ 167 := by omega
  have h8 : id ≠ 168 := by omega
  have h9 : id ≠ 169 := by omega
  (repeat' split) <;> simp [e_up, h2, h3, h4, h5, h6, h7, h8, h9]
theorem w_M_01 (h : i < 2) : w_M M c 162 i = M 162 i := by
  unfold w_M w_M0 w_M1 w_M2 w_M3 w_M4 w_M5 w_M6
  have h2 : i ≠ 2 := by omega
  have h3 : i ≠ 3 := by omega
  have h4 : i ≠ 4 := by omega
  have h5 : i ≠ 5 := by omega
  have h6 : i ≠ 6 := by omega
  have h7 : i ≠ 7 := by omega
  have h8 : i ≠ 8 := by omega
  (repeat' split) <;> simp [e_up, h2, h3, h4, h5, h6, h7, h8]
theorem w_M_f (hi : 2 ≤ i ∧ i ≤ 8) : w_M M c 162 i = w_nx (M 162) c i := by
  have hi' : i = 2 ∨ i = 3 ∨ i = 4 ∨ i = 5 ∨ i = 6 ∨ i = 7 ∨ i = 8 := by omega
  unfold w_M w_M0 w_M1 w_M2 w_M3 w_M4 w_M5 w_M6 w_nx
  by_cases q0 : M 162 2 = 0
  · rw [if_pos q0, if_pos q0]
    rcases hi' with rfl | rfl | rfl | rfl | rfl | rfl | rfl <;> simp [e_up]
  rw [if_neg q0, if_neg q0]
  by_cases q1 : M 162 2 = 1
  · rw [if_pos q1, if_pos q1]
    by_cases q2 : 48 ≤ c ∧ c ≤ 57
    · rw [if_pos q2, if_pos q2]
      have e : (c - 48 = 0) = (c = 48) := by apply propext; omega
      rcases hi' with rfl | rfl | rfl | rfl | rfl | rfl | rfl <;> simp [e_up, e]
    · rw [if_neg q2, if_neg q2]
      rcases hi' with rfl | rfl | rfl | rfl | rfl | rfl | rfl <;> simp [e_up]
  rw [if_neg q1, if_neg q1]
  by_cases q2 : M 162 2 = 2 ∧ 48 ≤ c ∧ c ≤ 57
  · rw [if_pos q2, if_pos q2]
    rcases hi' with rfl | rfl | rfl | rfl | rfl | rfl | rfl <;> simp [e_up]
  rw [if_neg q2, if_neg q2]
  by_cases q3 : c = 47
  · rw [if_pos q3, if_pos q3]
    rcases hi' with rfl | rfl | rfl | rfl | rfl | rfl | rfl <;> simp [e_up]
  rw [if_neg q3, if_neg q3]
  by_cases q4 : c = 93
  · rw [if_pos q4, if_pos q4]
    rcases hi' with rfl | rfl | rfl | rfl | rfl | rfl | rfl <;> simp [e_up]
  rw [if_neg q4, if_neg q4]
  by_cases q5 : c = 32
  · rw [if_pos q5, if_pos q5]
    by_cases q6 : M 162 5 = 0
    · rw [if_pos q6]
      rcases hi' with rfl | rfl | rfl | rfl | rfl | rfl | rfl <;> simp [e_up, q6]
    · rw [if_neg q6]
      rcases hi' with rfl | rfl | rfl | rfl | rfl | rfl | rfl <;> simp [e_up, q6]
  rw [if_neg q5, if_neg q5]
  rcases hi' with rfl | rfl | rfl | rfl | rfl | rfl | rfl <;> simp [e_up]
theorem w_M_63 : w_M M c 163 i = if M 162 2 = 0 ∧ i = (M 162 7).toNat then M 162 1 else M 163 i := by
  unfold w_M w_M0 w_M1 w_M2 w_M3 w_M4 w_M5 w_M6
  by_cases q0 : M 162 2 = 0
  · rw [if_pos q0]
    simp [e_up, q0]
  · rw [if_neg q0]
    simp only [q0, false_and, if_false]
    (repeat' split) <;> simp [e_up]
theorem w_M_64 : w_M M c 164 i = if M 162 2 = 0 ∧ i = (M 162 7).toNat then c else M 164 i := by
  unfold w_M w_M0 w_M1 w_M2 w_M3 w_M4 w_M5 w_M6
  by_cases q0 : M 162 2 = 0
  · rw [if_pos q0]
    simp [e_up, q0]
  · rw [if_neg q0]
    simp only [q0, false_and, if_false]
    (repeat' split) <;> simp [e_up]
theorem w_M_5 (hq : M 162 2 ≠ 0 ∧ M 162 2 ≠ 1 ∧ c = 59) : w_M M c = w_M5 M := by
  obtain ⟨a, b, d⟩ := hq
  unfold w_M
  rw [if_neg a, if_neg b, if_neg (by omega), if_neg (by omega), if_neg (by omega), if_neg (by omega)]
theorem w_M_65 (h : w_ok (M 162) c) : w_M M c 165 i = if (M 162 2 ≠ 0 ∧ M 162 2 ≠ 1 ∧ c = 59) ∧ i = (M 162 7 + 1).toNat then M 162 8 else M 165 i := by
  by_cases q : M 162 2 ≠ 0 ∧ M 162 2 ≠ 1 ∧ c = 59
  · rw [w_M_5 q]
    unfold w_M5
    simp [e_up, q]
  · rw [if_neg (fun e => q e.1)]
    unfold w_ok at h
    unfold w_M w_M0 w_M1 w_M2 w_M3 w_M4 w_M6
    by_cases q0 : M 162 2 = 0
    · rw [if_pos q0]; simp [e_up]
    rw [if_neg q0] at h ⊢
    by_cases q1 : M 162 2 = 1
    · rw [if_pos q1]
      split <;> simp [e_up]
    rw [if_neg q1] at h ⊢
    by_cases q2 : M 162 2 = 2 ∧ 48 ≤ c ∧ c ≤ 57
    · rw [if_pos q2]; simp [e_up]
    rw [if_neg q2]
    by_cases q3 : c = 47
    · rw [if_pos q3]; simp [e_up]
    rw [if_neg q3]
    by_cases q4 : c = 93
    · rw [if_pos q4]; simp [e_up]
    rw [if_neg q4]
    by_cases q5 : c = 32
    · rw [if_pos q5]; split <;> simp [e_up]
    exact absurd ⟨q0, q1, by omega⟩ q
theorem w_M_66 (h : w_ok (M 162) c) : w_M M c 166 i = if (M 162 2 ≠ 0 ∧ M 162 2 ≠ 1 ∧ c = 59) ∧ i = (M 162 7).toNat then M 162 6 else M 166 i := by
  by_cases q : M 162 2 ≠ 0 ∧ M 162 2 ≠ 1 ∧ c = 59
  · rw [w_M_5 q]
    unfold w_M5
    simp [e_up, q]
  · rw [if_neg (fun e => q e.1)]
    unfold w_ok at h
    unfold w_M w_M0 w_M1 w_M2 w_M3 w_M4 w_M6
    by_cases q0 : M 162 2 = 0
    · rw [if_pos q0]; simp [e_up]
    rw [if_neg q0] at h ⊢
    by_cases q1 : M 162 2 = 1
    · rw [if_pos q1]
      split <;> simp [e_up]
    rw [if_neg q1] at h ⊢
    by_cases q2 : M 162 2 = 2 ∧ 48 ≤ c ∧ c ≤ 57
    · rw [if_pos q2]; simp [e_up]
    rw [if_neg q2]
    by_cases q3 : c = 47
    · rw [if_pos q3]; simp [e_up]
    rw [if_neg q3]
    by_cases q4 : c = 93
    · rw [if_pos q4]; simp [e_up]
    rw [if_neg q4]
    by_cases q5 : c = 32
    · rw [if_pos q5]; split <;> simp [e_up]
    exact absurd ⟨q0, q1, by omega⟩ q
theorem w_M_67 : w_M M c 167 i = if (M 162 2 = 1 ∧ 48 ≤ c ∧ c ≤ 57) ∧ i = (M 162 8).toNat then c - 48 else if (M 162 2 = 2 ∧ 48 ≤ c ∧ c ≤ 57) ∧ i = (M 162 8 - 1).toNat then 10 * M 167 (M 162 8 - 1).toNat + c - 48 else M 167 i := by
  unfold w_M w_M0 w_M1 w_M2 w_M3 w_M4 w_M5 w_M6
  by_cases q0 : M 162 2 = 0
  · rw [if_pos q0]
    simp [e_up, q0]
  rw [if_neg q0]
  by_cases q1 : M 162 2 = 1
  · rw [if_pos q1]
    by_cases q2 : 48 ≤ c ∧ c ≤ 57
    · rw [if_pos q2]
      simp [e_up, q1, q2]
    · rw [if_neg q2]
      simp [e_up, q1, q2]
  rw [if_neg q1]
  by_cases q2 : M 162 2 = 2 ∧ 48 ≤ c ∧ c ≤ 57
  · rw [if_pos q2]
    simp [e_up, q2]
  rw [if_neg q2]
  simp only [q1, q2, false_and, if_false]
  (repeat' split) <;> simp [e_up]
theorem w_M_68 : w_M M c 168 i = if (M 162 2 = 1 ∧ 48 ≤ c ∧ c ≤ 57) ∧ i = (M 162 8).toNat then M 162 6 - 1 else M 168 i := by
  unfold w_M w_M0 w_M1 w_M2 w_M3 w_M4 w_M5 w_M6
  by_cases q0 : M 162 2 = 0
  · rw [if_pos q0]
    simp [e_up, q0]
  rw [if_neg q0]
  by_cases q1 : M 162 2 = 1
  · rw [if_pos q1]
    by_cases q2 : 48 ≤ c ∧ c ≤ 57
    · rw [if_pos q2]
      simp [e_up, q1, q2]
    · rw [if_neg q2]
      simp [e_up, q1, q2]
  rw [if_neg q1]
  simp only [q1, false_and, if_false]
  (repeat' split) <;> simp [e_up]
theorem w_M_69 : w_M M c 169 i = if (M 162 2 = 1 ∧ 48 ≤ c ∧ c ≤ 57) ∧ i = (M 162 8).toNat then M 162 5 else M 169 i := by
  unfold w_M w_M0 w_M1 w_M2 w_M3 w_M4 w_M5 w_M6
  by_cases q0 : M 162 2 = 0
  · rw [if_pos q0]
    simp [e_up, q0]
  rw [if_neg q0]
  by_cases q1 : M 162 2 = 1
  · rw [if_pos q1]
    by_cases q2 : 48 ≤ c ∧ c ≤ 57
    · rw [if_pos q2]
      simp [e_up, q1, q2]
    · rw [if_neg q2]
      simp [e_up, q1, q2]
  rw [if_neg q1]
  simp only [q1, false_and, if_false]
  (repeat' split) <;> simp [e_up]
end WMM
/-- what stands in the reader's rows after k bytes -/
def w_K (b : Nat → Int) (k : Nat) (M : EM) : Prop :=
  (M 162 2 = w_T b k 2 ∧ M 162 7 = w_T b k 7 ∧ M 162 8 = w_T b k 8 ∧ (w_T b k 2 ≠ 0 → M 162 3 = w_T b k 3 ∧ M 162 4 = w_T b k 4 ∧ M 162 5 = w_T b k 5 ∧ M 162 6 = w_T b k 6)) ∧
  (∀ j, j < k → w_T b j 2 = 0 → M 163 (w_T b j 7).toNat = j ∧ M 164 (w_T b j 7).toNat = b j) ∧
  (∀ j, j ≤ k → w_T b j 2 = 0 → M 165 (w_T b j 7).toNat = w_T b j 8 ∧ (0 < j → M 166 (w_T b j 7 - 1).toNat = w_T b j 6)) ∧
  (∀ j, j < k → w_N b j → M 167 (w_T b j 8).toNat = w_v b k j ∧ M 168 (w_T b j 8).toNat = w_T b j 6 - 1 ∧ M 169 (w_T b j 8).toNat = w_T b j 5)
theorem w_ok_c {s t : Nat → Int} {c : Int} (h2 : s 2 = t 2) (h : t 2 ≠ 0 → s 3 = t 3 ∧ s 4 = t 4 ∧ s 5 = t 5) : w_ok s c ↔ w_ok t c := by
  unfold w_ok
  rw [h2]
  by_cases q : t 2 = 0
  · rw [if_pos q, if_pos q]
  · obtain ⟨a, b, d⟩ := h q
    rw [a, b, d]
theorem w_Kok {b : Nat → Int} {k : Nat} {M : EM} (hK : w_K b k M) (c : Int) : w_ok (M 162) c ↔ w_ok (w_T b k) c := by
  obtain ⟨⟨f2, f7, f8, ff⟩, -⟩ := hK
  exact w_ok_c f2 (fun h => ⟨(ff h).1, (ff h).2.1, (ff h).2.2.1⟩)
theorem w_Kn {b : Nat → Int} {k : Nat} {M : EM} (hK : w_K b k M) (hA : w_A b k) (ok : w_ok (w_T b k) (b k)) (h1 : M 162 1 = k) : w_K b (k + 1) (w_M M (b k)) := by
  have ok' := (w_Kok hK (b k)).mpr ok
  have hI := w_Ii hA
  have hI1 := w_Ii (w_As hA ok)
  have hA1 := w_As hA ok
  obtain ⟨⟨f2, f7, f8, ff⟩, ks, ke, kn⟩ := hK
  have e2 := w_M_f (M := M) (c := b k) (i := 2) (by omega)
  have e3 := w_M_f (M := M) (c := b k) (i := 3) (by omega)
  have e4 := w_M_f (M := M) (c := b k) (i := 4) (by omega)
  have e5 := w_M_f (M := M) (c := b k) (i := 5) (by omega)
  have e6 := w_M_f (M := M) (c := b k) (i := 6) (by omega)
  have e7 := w_M_f (M := M) (c := b k) (i := 7) (by omega)
  have e8 := w_M_f (M := M) (c := b k) (i := 8) (by omega)
  have t2 : w_M M (b k) 162 2 = w_T b (k + 1) 2 := by rw [e2, w_Tn, w_nx2, w_nx2, f2]
  have t7 : w_M M (b k) 162 7 = w_T b (k + 1) 7 := by rw [e7, w_Tn, w_nx7 ok', w_nx7 ok, f2, f7]
  have t8 : w_M M (b k) 162 8 = w_T b (k + 1) 8 := by rw [e8, w_Tn, w_nx8, w_nx8, f2, f8]
  unfold w_I at hI hI1
  refine ⟨⟨t2, t7, t8, fun hz => ?_⟩, fun j hj z => ?_, fun j hj z => ?_, fun j hj z => ?_⟩
  · rw [e3, e4, e5, e6, w_Tn, w_nx3, w_nx3, w_nx4, w_nx4, w_nx5, w_nx5, w_nx6, w_nx6, f2]
    by_cases q : w_T b k 2 = 0
    · simp only [q, if_true, and_self]
    · obtain ⟨a3, a4, a5, a6⟩ := ff q
      rw [a3, a4, a5, a6]
      exact ⟨rfl, rfl, rfl, rfl⟩
  · rw [w_M_63, w_M_64, f2, f7, h1]
    by_cases q : j = k
    · subst q
      rw [if_pos ⟨z, rfl⟩, if_pos ⟨z, rfl⟩]
      exact ⟨rfl, rfl⟩
    · have hn : ¬ (w_T b k 2 = 0 ∧ (w_T b j 7).toNat = (w_T b k 7).toNat) := by
        intro hc
        have := w_S7 hA (show j < k by omega) hc.1
        have := w_Ii (w_Al hA (show j ≤ k by omega))
        unfold w_I at this
        omega
      rw [if_neg hn, if_neg hn]
      exact ks j (by omega) z
  · rw [w_M_65 ok', w_M_66 ok', f2, f7, f8]
    by_cases q : j = k + 1
    · subst q
      have z' := z
      rw [w_Tn, w_nx2] at z'
      have hq : w_T b k 2 ≠ 0 ∧ w_T b k 2 ≠ 1 ∧ b k = 59 := by
        by_cases q0 : w_T b k 2 = 0
        · rw [if_pos q0] at z'; omega
        rw [if_neg q0] at z'
        by_cases q1 : w_T b k 2 = 1
        · rw [if_pos q1] at z'
          split at z'
          · split at z' <;> omega
          · omega
        rw [if_neg q1] at z'
        by_cases q2 : w_T b k 2 = 2 ∧ 48 ≤ b k ∧ b k ≤ 57
        · rw [if_pos q2] at z'; omega
        rw [if_neg q2] at z'
        by_cases q3 : b k = 47
        · rw [if_pos q3] at z'; omega
        rw [if_neg q3] at z'
        by_cases q4 : b k = 93
        · rw [if_pos q4] at z'; omega
        rw [if_neg q4] at z'
        by_cases q5 : b k = 32
        · rw [if_pos q5] at z'; omega
        unfold w_ok at ok
        rw [if_neg q0, if_neg q1] at ok
        exact ⟨q0, q1, by omega⟩
      have e7 : w_T b (k + 1) 7 = w_T b k 7 + 1 := by rw [w_Tn, w_nx7 ok, if_pos hq]
      have e8 : w_T b (k + 1) 8 = w_T b k 8 := by rw [w_Tn, w_nx8, if_neg (fun e => hq.2.1 e.1)]
      have e6 : w_T b (k + 1) 6 = w_T b k 6 := by
        rw [w_Tn, w_nx6, if_neg hq.1, if_neg hq.2.1, if_neg (by omega), if_neg (by omega)]
      rw [e7, e8, e6, if_pos ⟨hq, rfl⟩, if_pos ⟨hq, by omega⟩]
      exact ⟨rfl, fun _ => (ff hq.1).2.2.2⟩
    · have i7 := w_m7 hA (show j ≤ k by omega)
      have ij := w_Ii (w_Al hA (show j ≤ k by omega))
      unfold w_I at ij
      obtain ⟨g1, g2⟩ := ke j (by omega) z
      rw [if_neg (fun e => by have := e.2; omega)]
      refine ⟨g1, fun hp => ?_⟩
      have i0 : 1 ≤ w_T b j 7 := by
        have := w_S7 (b := b) (k := 0) (j := j) (w_Al hA (by omega)) hp z
        have e : w_T b 0 7 = 0 := rfl
        omega
      rw [if_neg (fun e => by have := e.2; omega)]
      exact g2 hp
  · rw [w_M_67, w_M_68, w_M_69, f2, f8]
    by_cases q : j = k
    · subst q
      obtain ⟨z1, z2⟩ := z
      obtain ⟨a3, a4, a5, a6⟩ := ff (by omega)
      rw [if_pos ⟨⟨z1, z2⟩, rfl⟩, if_pos ⟨⟨z1, z2⟩, rfl⟩, if_pos ⟨⟨z1, z2⟩, rfl⟩, a5, a6]
      refine ⟨?_, rfl, rfl⟩
      unfold w_v
      rw [if_neg (by omega)]
    · obtain ⟨g1, g2, g3⟩ := kn j (by omega) z
      have l8 := w_N8 z (show j < k by omega)
      have ij := w_Ii (w_Al hA (show j ≤ k by omega))
      unfold w_I at ij
      have hn : ¬ ((w_T b k 2 = 1 ∧ 48 ≤ b k ∧ b k ≤ 57) ∧ (w_T b j 8).toNat = (w_T b k 8).toNat) := fun e => by have := e.2; omega
      rw [if_neg hn, if_neg hn, if_neg hn]
      refine ⟨?_, g2, g3⟩
      by_cases c2 : (w_T b k 2 = 2 ∧ 48 ≤ b k ∧ b k ≤ 57) ∧ (w_T b j 8).toNat = (w_T b k 8 - 1).toNat
      · rw [if_pos c2]
        obtain ⟨⟨c2, c3⟩, c4⟩ := c2
        obtain ⟨i, rfl, n1, n2⟩ := w_more hA c2
        have e8 := w_n8 n1
        have hji : j = i := by
          by_cases h : j = i
          · exact h
          · have := w_N8 z (show j < i by omega); omega
        subst hji
        rw [← c4, g1]
        unfold w_v
        have d1 : ¬ (b j ≠ 48 ∧ j + 1 < j + 1 ∧ 48 ≤ b (j + 1) ∧ b (j + 1) ≤ 57) := by omega
        have d2 : b j ≠ 48 ∧ j + 1 < j + 1 + 1 ∧ 48 ≤ b (j + 1) ∧ b (j + 1) ≤ 57 := by omega
        rw [if_neg d1, if_pos d2]
      · rw [if_neg c2, g1]
        unfold w_v
        by_cases h : k > j + 1
        · by_cases c3 : b j ≠ 48 ∧ 48 ≤ b (j + 1) ∧ b (j + 1) ≤ 57
          · have h1 : b j ≠ 48 ∧ j + 1 < k ∧ 48 ≤ b (j + 1) ∧ b (j + 1) ≤ 57 := ⟨c3.1, h, c3.2⟩
            have h2 : b j ≠ 48 ∧ j + 1 < k + 1 ∧ 48 ≤ b (j + 1) ∧ b (j + 1) ≤ 57 := ⟨c3.1, by omega, c3.2⟩
            rw [if_pos h1, if_pos h2]
          · have h1 : ¬ (b j ≠ 48 ∧ j + 1 < k ∧ 48 ≤ b (j + 1) ∧ b (j + 1) ≤ 57) := fun e => c3 ⟨e.1, e.2.2⟩
            have h2 : ¬ (b j ≠ 48 ∧ j + 1 < k + 1 ∧ 48 ≤ b (j + 1) ∧ b (j + 1) ≤ 57) := fun e => c3 ⟨e.1, e.2.2⟩
            rw [if_neg h1, if_neg h2]
        · have hk : k = j + 1 := by omega
          subst hk
          rw [if_neg (by omega)]
          by_cases c3 : b j ≠ 48 ∧ 48 ≤ b (j + 1) ∧ b (j + 1) ≤ 57
          · exfalso
            apply c2
            have e8 := w_n8 z
            refine ⟨⟨?_, c3.2⟩, by omega⟩
            rw [w_Tn, w_nx2, if_neg (by have := z.1; omega), if_pos z.1, if_pos z.2, if_neg c3.1]
          · rw [if_neg (by omega)]
end
section
/-! the reading of the shape: exactly -/
theorem w_sh {h : Int} (hh : h ∈ a_SH) : e_isO 8 h ∧ 8 ≤ h + 1 ∧ (h + 1).toNat < e_N ∧ e_sh (h + 1).toNat = (100, 120) ∧ e_gr h.toNat 6 = h + 1 ∧ 146 ≤ h ∧ h ≤ 160 := by
  have h2 : ∀ x ∈ a_SH, e_isO 8 x ∧ 8 ≤ x + 1 ∧ (x + 1).toNat < e_N ∧ e_sh (x + 1).toNat = (100, 120) ∧ e_gr x.toNat 6 = x + 1 ∧ 146 ≤ x ∧ x ≤ 160 := by decide +kernel
  exact h2 h hh
theorem w_K_up {b : Nat → Int} {k : Nat} {M : EM} {v : Int} (h : w_K b k M) : w_K b k (e_up M 162 1 v) := by
  have e1 : ∀ i, e_up M 162 1 v 163 i = M 163 i := fun i => c_up_n (fun q => absurd q.1 (by decide))
  have e2 : ∀ i, e_up M 162 1 v 164 i = M 164 i := fun i => c_up_n (fun q => absurd q.1 (by decide))
  have e3 : ∀ i, e_up M 162 1 v 165 i = M 165 i := fun i => c_up_n (fun q => absurd q.1 (by decide))
  have e4 : ∀ i, e_up M 162 1 v 166 i = M 166 i := fun i => c_up_n (fun q => absurd q.1 (by decide))
  have e5 : ∀ i, e_up M 162 1 v 167 i = M 167 i := fun i => c_up_n (fun q => absurd q.1 (by decide))
  have e6 : ∀ i, e_up M 162 1 v 168 i = M 168 i := fun i => c_up_n (fun q => absurd q.1 (by decide))
  have e7 : ∀ i, e_up M 162 1 v 169 i = M 169 i := fun i => c_up_n (fun q => absurd q.1 (by decide))
  have f : ∀ j, j ≠ 1 → e_up M 162 1 v 162 j = M 162 j := fun j hj => c_up_n (fun q => hj q.2)
  unfold w_K at h ⊢
  simp only [e1, e2, e3, e4, e5, e6, e7, f 2 (by decide), f 3 (by decide), f 4 (by decide), f 5 (by decide), f 6 (by decide), f 7 (by decide), f 8 (by decide)]
  exact h
/-- what the reading leaves -/
def w_RS (b : Nat → Int) (n : Nat) (r : Int) (M M' : EM) : Prop := (∀ id i, id < 162 ∨ 169 < id → M' id i = M id i) ∧ M' 165 0 = 0 ∧ ((r = 1 ∧ w_A b n ∧ w_T b n 2 = 0 ∧ 0 < w_T b n 7 ∧ w_K b n M') ∨ (r = 0 ∧ ∃ k' : Nat, M' 162 1 = k' ∧ w_F b n k'))
theorem w_K0 {b : Nat → Int} {k : Nat} {M : EM} (h : w_K b k M) : M 165 0 = 0 := (h.2.2.1 0 (Nat.zero_le _) rfl).1
theorem w_rs28 {h : Int} (hh : h ∈ a_SH) {b : Nat → Int} {n : Nat} (hn : n ≤ 120) (hb : ∀ i, -2147483648 ≤ b i ∧ b i ≤ 2147483647) : ∀ (m k : Nat) (M : EM), k + m = n → M 162 0 = n → M 162 1 = k → (∀ i : Nat, i < n → M (h + 1).toNat i = b i) → w_A b k → w_K b k M → ∃ r M', E_V 59 28 [162, h] M = some (r, M') ∧ w_RS b n r M M' := by
  obtain ⟨s1, s2, s3, s4, s5, s6, s7⟩ := w_sh hh
  have g6 : ∀ M, e_gf 518 [h] M = some (h + 1) := fun M => (c_gr s1 (by decide +kernel)).trans (congrArg some s5)
  intro m
  induction m with
  | zero =>
    intro k M hk m0 m1 hB hA hK
    have e : k = n := by omega
    subst e
    have K := hK
    obtain ⟨⟨f2, f7, f8, ff⟩, -⟩ := K
    have hlt : ¬ (M 162 1 < M 162 0) := by omega
    by_cases q1 : w_T b k 2 = 0
    · by_cases q2 : w_T b k 7 > 0
      · refine ⟨1, M, ?_, fun _ _ _ => rfl, w_K0 hK, Or.inl ⟨rfl, hA, q1, q2, hK⟩⟩
        rw [E_V_eq]
        show e_tv E_C (E_V 59) e_t59_28 [162, h] M = _
        unfold e_t59_28
        simp [zq_a, zq_b, zq_c, zq_d, zq_e, zq_f, zq_g, zq_h, zq_i, zq_j, zq_k, zq_l, zq_m, zq_n, zq_o, zq_p, zq_q, zq_r, zq_s, zq_t, zq_u, zq_v, zq_w, zq_x, zq_y, zq_z, zq_A, zq_B, zq_C, zq_D, zq_E, zq_F, zq_G, zq_H, zq_I, zq_J, zq_K, zq_L, ↓zq_M, ↓zq_N, ↓zq_O, ↓zq_P, ↓zq_Q, ↓zq_R, zq_S, zq_T, zq_U, zq_V, zq_W, zq_X, zq_Y, zq_Z, zq_0, zq_1, zq_2, zq_3, zq_4, zq_5, ↓zq_6, ↓zq_7, ↓zq_8, ↓zq_9, ↓zq_aa, zq_ab, zq_ac, zq_ad, zq_ae, zq_af, zq_ag, ↓zq_ah, ↓zq_ai, ↓zq_aj, zq_ak, ↓zq_al, ↓zq_am, e_b1, e_b2, x_o1, x_o2, w_f0, w_f1, w_f2, w_f7, hlt, f2, f7, q1, q2]
      · refine ⟨0, M, ?_, fun _ _ _ => rfl, w_K0 hK, Or.inr ⟨rfl, k, m1, hA, Nat.le_refl _, fun h => absurd h (Nat.lt_irrefl _), fun _ h => q2 h.2⟩⟩
        rw [E_V_eq]
        show e_tv E_C (E_V 59) e_t59_28 [162, h] M = _
        unfold e_t59_28
        simp [zq_a, zq_b, zq_c, zq_d, zq_e, zq_f, zq_g, zq_h, zq_i, zq_j, zq_k, zq_l, zq_m, zq_n, zq_o, zq_p, zq_q, zq_r, zq_s, zq_t, zq_u, zq_v, zq_w, zq_x, zq_y, zq_z, zq_A, zq_B, zq_C, zq_D, zq_E, zq_F, zq_G, zq_H, zq_I, zq_J, zq_K, zq_L, ↓zq_M, ↓zq_N, ↓zq_O, ↓zq_P, ↓zq_Q, ↓zq_R, zq_S, zq_T, zq_U, zq_V, zq_W, zq_X, zq_Y, zq_Z, zq_0, zq_1, zq_2, zq_3, zq_4, zq_5, ↓zq_6, ↓zq_7, ↓zq_8, ↓zq_9, ↓zq_aa, zq_ab, zq_ac, zq_ad, zq_ae, zq_af, zq_ag, ↓zq_ah, ↓zq_ai, ↓zq_aj, zq_ak, ↓zq_al, ↓zq_am, e_b1, e_b2, x_o1, x_o2, w_f0, w_f1, w_f2, w_f7, hlt, f2, f7, q1, q2]
    · refine ⟨0, M, ?_, fun _ _ _ => rfl, w_K0 hK, Or.inr ⟨rfl, k, m1, hA, Nat.le_refl _, fun h => absurd h (Nat.lt_irrefl _), fun _ h => q1 h.1⟩⟩
      rw [E_V_eq]
      show e_tv E_C (E_V 59) e_t59_28 [162, h] M = _
      unfold e_t59_28
      simp [zq_a, zq_b, zq_c, zq_d, zq_e, zq_f, zq_g, zq_h, zq_i, zq_j, zq_k, zq_l, zq_m, zq_n, zq_o, zq_p, zq_q, zq_r, zq_s, zq_t, zq_u, zq_v, zq_w, zq_x, zq_y, zq_z, zq_A, zq_B, zq_C, zq_D, zq_E, zq_F, zq_G, zq_H, zq_I, zq_J, zq_K, zq_L, ↓zq_M, ↓zq_N, ↓zq_O, ↓zq_P, ↓zq_Q, ↓zq_R, zq_S, zq_T, zq_U, zq_V, zq_W, zq_X, zq_Y, zq_Z, zq_0, zq_1, zq_2, zq_3, zq_4, zq_5, ↓zq_6, ↓zq_7, ↓zq_8, ↓zq_9, ↓zq_aa, zq_ab, zq_ac, zq_ad, zq_ae, zq_af, zq_ag, ↓zq_ah, ↓zq_ai, ↓zq_aj, zq_ak, ↓zq_al, ↓zq_am, e_b1, e_b2, x_o1, x_o2, w_f0, w_f1, w_f2, w_f7, hlt, f2, f7, q1]
  | succ m ih =>
    intro k M hk m0 m1 hB hA hK
    have hlt : M 162 1 < M 162 0 := by omega
    have K := hK
    obtain ⟨⟨f2, f7, f8, ff⟩, -, -, kn⟩ := K
    have hI := w_Ii hA
    unfold w_I at hI
    have at0 : E_C 146 [h + 1, (k : Int)] M = some (b k, M) := by
      rw [p_at (n := 120) ⟨s2, s3, s4⟩ ⟨by omega, by omega⟩]
      exact congrArg some (congrArg (·, M) (hB k (by omega)))
    have go := w_goOn (c := b k) (M := M) (hb k) (by omega) (by omega) (by omega) (fun h => by rw [f2] at h; obtain ⟨-, -, -, a6⟩ := ff h; omega) (fun h2 => by
      rw [f2] at h2
      obtain ⟨j, rfl, n1, n2⟩ := w_more hA h2
      obtain ⟨g1, -, -⟩ := kn j (by omega) n1
      have e8 := w_n8 n1
      have ej := w_Ii (w_Al hA (show j ≤ j + 1 by omega))
      unfold w_I at ej
      have hx : M 162 8 - 1 = w_T b j 8 := by omega
      rw [hx, g1]
      have hv : w_v b (j + 1) j = b j - 48 := by unfold w_v; rw [if_neg (by omega)]
      rw [hv]
      have := n1.2
      omega)
    by_cases ok : w_ok (w_T b k) (b k)
    · have k0 := go.1 ((w_Kok hK _).mpr ok)
      have K1 := w_Kn hK hA ok m1
      have p1 : w_M M (b k) 162 1 = k := (w_M_01 (by decide)).trans m1
      have p0 : w_M M (b k) 162 0 = n := (w_M_01 (by decide)).trans m0
      have ww : e_w ((k : Int) + 1) = (k : Int) + 1 := a_w_id (by omega) (by omega)
      have K2 := w_K_up (v := (k : Int) + 1) K1
      have fo : ∀ id i, id < 162 ∨ 169 < id → e_up (w_M M (b k)) 162 1 ((k : Int) + 1) id i = M id i := fun id i hi => (c_up_n (fun q => by have := q.1; omega)).trans (w_M_o hi)
      obtain ⟨r, M', k1, c1, c2, c3⟩ := ih (k + 1) (e_up (w_M M (b k)) 162 1 ((k : Int) + 1)) (by omega) (by rw [c_up_n (by decide)]; exact p0) (by rw [c_up_s]; omega) (fun i hi => by rw [fo _ _ (by omega)]; exact hB i hi) (w_As hA ok) K2
      refine ⟨r, M', ?_, fun id i hi => (c1 id i hi).trans (fo id i hi), c2, c3⟩
      rw [m1] at hlt
      rw [m0] at hlt
      rw [E_V_eq]
      show e_tv E_C (E_V 59) e_t59_28 [162, h] M = _
      unfold e_t59_28
      simp [zq_a, zq_b, zq_c, zq_d, zq_e, zq_f, zq_g, zq_h, zq_i, zq_j, zq_k, zq_l, zq_m, zq_n, zq_o, zq_p, zq_q, zq_r, zq_s, zq_t, zq_u, zq_v, zq_w, zq_x, zq_y, zq_z, zq_A, zq_B, zq_C, zq_D, zq_E, zq_F, zq_G, zq_H, zq_I, zq_J, zq_K, zq_L, ↓zq_M, ↓zq_N, ↓zq_O, ↓zq_P, ↓zq_Q, ↓zq_R, zq_S, zq_T, zq_U, zq_V, zq_W, zq_X, zq_Y, zq_Z, zq_0, zq_1, zq_2, zq_3, zq_4, zq_5, ↓zq_6, ↓zq_7, ↓zq_8, ↓zq_9, ↓zq_aa, zq_ab, zq_ac, zq_ad, zq_ae, zq_af, zq_ag, ↓zq_ah, ↓zq_ai, ↓zq_aj, zq_ak, ↓zq_al, ↓zq_am, e_b1, e_b2, x_o1, x_o2, w_f0, w_f1, w_p1, g6, m0, m1, hlt, at0, k0, p1, ww, k1]
    · have k0 := go.2 (fun h => ok ((w_Kok hK _).mp h))
      refine ⟨0, M, ?_, fun _ _ _ => rfl, w_K0 hK, Or.inr ⟨rfl, k, m1, hA, by omega, fun _ => ok, fun h => by omega⟩⟩
      rw [m1] at hlt
      rw [m0] at hlt
      rw [E_V_eq]
      show e_tv E_C (E_V 59) e_t59_28 [162, h] M = _
      unfold e_t59_28
      simp [zq_a, zq_b, zq_c, zq_d, zq_e, zq_f, zq_g, zq_h, zq_i, zq_j, zq_k, zq_l, zq_m, zq_n, zq_o, zq_p, zq_q, zq_r, zq_s, zq_t, zq_u, zq_v, zq_w, zq_x, zq_y, zq_z, zq_A, zq_B, zq_C, zq_D, zq_E, zq_F, zq_G, zq_H, zq_I, zq_J, zq_K, zq_L, ↓zq_M, ↓zq_N, ↓zq_O, ↓zq_P, ↓zq_Q, ↓zq_R, zq_S, zq_T, zq_U, zq_V, zq_W, zq_X, zq_Y, zq_Z, zq_0, zq_1, zq_2, zq_3, zq_4, zq_5, ↓zq_6, ↓zq_7, ↓zq_8, ↓zq_9, ↓zq_aa, zq_ab, zq_ac, zq_ad, zq_ae, zq_af, zq_ag, ↓zq_ah, ↓zq_ai, ↓zq_aj, zq_ak, ↓zq_al, ↓zq_am, e_b1, e_b2, x_o1, x_o2, w_f0, w_f1, g6, m0, m1, hlt, at0, k0]
theorem w_readShape {h : Int} (hh : h ∈ a_SH) {M : EM} (hM : a_M M) (h0 : M 165 0 = 0) (hs : 0 ≤ M h.toNat 5 ∧ M h.toNat 5 ≤ 120) : ∃ r M', E_C 59 [162, h] M = some (r, M') ∧ w_RS (M (h + 1).toNat) (M h.toNat 5).toNat r M M' := by
  obtain ⟨s1, s2, s3, s4, s5, s6, s7⟩ := w_sh hh
  have g5 : ∀ M, e_gf 517 [h] M = some (M h.toNat 5) := fun M => c_gf s1 (by decide +kernel)
  have s0 : E_C 59 [162, h] M = e_tv E_C (E_V 59) e_t59_0 [162, h] M := r_ent (u := 59) (as := [162, h]) (M := M) (decide_eq_true c_rd5)
  obtain ⟨N, hN⟩ : ∃ N, N = e_up (e_up (e_up (e_up (e_up M 162 0 (M h.toNat 5)) 162 2 0) 162 7 0) 162 8 0) 162 1 0 := ⟨_, rfl⟩
  have fo : ∀ id i, id ≠ 162 → N id i = M id i := fun id i hi => by
    rw [hN]
    simp [e_up, hi]
  have K : w_K (M (h + 1).toNat) 0 N := by
    refine ⟨⟨?_, ?_, ?_, fun h => absurd rfl h⟩, fun j hj => absurd hj (Nat.not_lt_zero _), fun j hj z => ?_, fun j hj => absurd hj (Nat.not_lt_zero _)⟩
    · rw [hN]; simp [e_up, w_T]
    · rw [hN]; simp [e_up, w_T]
    · rw [hN]; simp [e_up, w_T]
    · have : j = 0 := by omega
      subst this
      refine ⟨?_, fun h => absurd h (Nat.lt_irrefl _)⟩
      rw [fo _ _ (by decide)]
      exact h0
  obtain ⟨r, M', k1, c1, c2, c3⟩ := w_rs28 hh (b := M (h + 1).toNat) (n := (M h.toNat 5).toNat) (by omega) (fun i => c_M32 hM (by omega) (by
    have : ∀ x ∈ a_SH, (x + 1).toNat ≠ e_OUT := by decide +kernel
    exact this h hh)) _ 0 N (Nat.zero_add _) (by rw [hN]; simp [e_up]; omega) (by rw [hN]; simp [e_up]) (fun i hi => fo _ _ (by omega)) (fun j hj => absurd hj (Nat.not_lt_zero _)) K
  refine ⟨r, M', ?_, fun id i hi => (c1 id i hi).trans (fo id i (by omega)), c2, c3⟩
  rw [s0]
  unfold e_t59_0
  have hN2 : e_up (e_up (e_up (e_up (e_up M 162 0 (M h.toNat 5)) 162 2 0) 162 7 0) 162 8 0) 162 1 0 = N := hN.symm
  simp [zq_a, zq_b, zq_c, zq_d, zq_e, zq_f, zq_g, zq_h, zq_i, zq_j, zq_k, zq_l, zq_m, zq_n, zq_o, zq_p, zq_q, zq_r, zq_s, zq_t, zq_u, zq_v, zq_w, zq_x, zq_y, zq_z, zq_A, zq_B, zq_C, zq_D, zq_E, zq_F, zq_G, zq_H, zq_I, zq_J, zq_K, zq_L, ↓zq_M, ↓zq_N, ↓zq_O, ↓zq_P, ↓zq_Q, ↓zq_R, zq_S, zq_T, zq_U, zq_V, zq_W, zq_X, zq_Y, zq_Z, zq_0, zq_1, zq_2, zq_3, zq_4, zq_5, ↓zq_6, ↓zq_7, ↓zq_8, ↓zq_9, ↓zq_aa, zq_ab, zq_ac, zq_ad, zq_ae, zq_af, zq_ag, ↓zq_ah, ↓zq_ai, ↓zq_aj, zq_ak, ↓zq_al, ↓zq_am, e_b1, e_b2, x_o1, x_o2, w_p0, w_p1, w_p2, w_p7, w_p8, g5, hN2, k1]
end
section
/-! the class makes a PART: exactly -/
theorem w_H0 (M : EM) : e_gf 192 [9] M = some 10 := p_g 192 9 10 M (by decide +kernel)
theorem w_H1 (M : EM) : e_gf 193 [9] M = some 18 := p_g 193 9 18 M (by decide +kernel)
theorem w_H2 (M : EM) : e_gf 194 [9] M = some 25 := p_g 194 9 25 M (by decide +kernel)
theorem w_P0 (M : EM) : e_gf 256 [10] M = some (M 10 0) := c_gf (by decide +kernel) (by decide +kernel)
theorem w_Q0 (v : Int) (M : EM) : e_pf 256 [10, v] M = some (e_up M 10 0 v) := c_pf (by decide +kernel) (by decide +kernel)
theorem w_P1 (M : EM) : e_gf 257 [10] M = some 11 := p_g 257 10 11 M (by decide +kernel)
theorem w_P2 (M : EM) : e_gf 258 [10] M = some 12 := p_g 258 10 12 M (by decide +kernel)
theorem w_P3 (M : EM) : e_gf 259 [10] M = some 13 := p_g 259 10 13 M (by decide +kernel)
theorem w_P4 (M : EM) : e_gf 260 [10] M = some 14 := p_g 260 10 14 M (by decide +kernel)
theorem w_P5 (M : EM) : e_gf 261 [10] M = some 15 := p_g 261 10 15 M (by decide +kernel)
theorem w_P6 (M : EM) : e_gf 262 [10] M = some 16 := p_g 262 10 16 M (by decide +kernel)
theorem w_P7 (M : EM) : e_gf 263 [10] M = some 17 := p_g 263 10 17 M (by decide +kernel)
theorem w_C0 (M : EM) : e_gf 64 [18] M = some 19 := p_g 64 18 19 M (by decide +kernel)
theorem w_C1 (M : EM) : e_gf 65 [18] M = some 20 := p_g 65 18 20 M (by decide +kernel)
theorem w_C2 (M : EM) : e_gf 66 [18] M = some 21 := p_g 66 18 21 M (by decide +kernel)
theorem w_C3 (M : EM) : e_gf 67 [18] M = some 22 := p_g 67 18 22 M (by decide +kernel)
theorem w_C4 (M : EM) : e_gf 68 [18] M = some 23 := p_g 68 18 23 M (by decide +kernel)
theorem w_C5 (M : EM) : e_gf 69 [18] M = some 24 := p_g 69 18 24 M (by decide +kernel)
def w_b52 (M : EM) (p : Nat) (k t : Int) : EM := e_up (e_up (e_up (e_up (e_up M 11 p k) 12 p t) 13 p (-1)) 14 p 0) 10 0 ((p : Int) + 1)
theorem w_52 {p : Nat} {k t : Int} {M : EM} (h0 : M 10 0 = p) (hp : p < 40) : E_C 52 [10, k, t] M = some ((p : Int), w_b52 M p k t) := by
  have s0 : E_C 52 [10, k, t] M = e_tv E_C (E_V 52) e_t52_0 [10, k, t, 0] M := r_ent (u := 52) (as := [10, k, t]) (M := M) (decide_eq_true (show e_isO 4 10 by decide +kernel))
  rw [s0]
  unfold e_t52_0
  have l1 := fun v M => w_layN (a := 11) (i := (p : Int)) (n := 40) (by decide +kernel) rfl hp v M
  have l2 := fun v M => w_layN (a := 12) (i := (p : Int)) (n := 40) (by decide +kernel) rfl hp v M
  have l3 := fun v M => w_layN (a := 13) (i := (p : Int)) (n := 40) (by decide +kernel) rfl hp v M
  have l4 := fun v M => w_layN (a := 14) (i := (p : Int)) (n := 40) (by decide +kernel) rfl hp v M
  have ww : e_w ((p : Int) + 1) = (p : Int) + 1 := a_w_id (by omega) (by omega)
  unfold w_b52
  simp [zq_a, zq_b, zq_c, zq_d, zq_e, zq_f, zq_g, zq_h, zq_i, zq_j, zq_k, zq_l, zq_m, zq_n, zq_o, zq_p, zq_q, zq_r, zq_s, zq_t, zq_u, zq_v, zq_w, zq_x, zq_y, zq_z, zq_A, zq_B, zq_C, zq_D, zq_E, zq_F, zq_G, zq_H, zq_I, zq_J, zq_K, zq_L, ↓zq_M, ↓zq_N, ↓zq_O, ↓zq_P, ↓zq_Q, ↓zq_R, zq_S, zq_T, zq_U, zq_V, zq_W, zq_X, zq_Y, zq_Z, zq_0, zq_1, zq_2, zq_3, zq_4, zq_5, ↓zq_6, ↓zq_7, ↓zq_8, ↓zq_9, ↓zq_aa, zq_ab, zq_ac, zq_ad, zq_ae, zq_af, zq_ag, ↓zq_ah, ↓zq_ai, ↓zq_aj, zq_ak, ↓zq_al, ↓zq_am, e_b1, e_b2, x_o1, x_o2, w_P0, w_Q0, w_P1, w_P2, w_P3, w_P4, l1, l2, l3, l4, h0, ww, c_up_n]
def w_b35 (M : EM) (p : Nat) : EM := e_up (e_up (e_up (e_up (e_up (e_up (e_up M 21 (4 * p + 0) 100) 21 (4 * p + 1) 0) 21 (4 * p + 2) 0) 21 (4 * p + 3) 0) 22 p 0) 23 p (-1)) 24 p (-1)
theorem w_35s {p c : Nat} (hp : p < 40) (hc : c < 4) (M : EM) : E_V 35 2 [18, (p : Int), (c : Int)] M = E_V 35 2 [18, (p : Int), ((c + 1 : Nat) : Int)] (e_up M 21 (4 * p + c) (if c = 0 then 100 else 0)) := by
  have w1 : e_w ((p : Int) * 4) = (p : Int) * 4 := a_w_id (by omega) (by omega)
  have w2 : e_w ((p : Int) * 4 + (c : Int)) = (p : Int) * 4 + (c : Int) := a_w_id (by omega) (by omega)
  have w3 : e_w ((c : Int) + 1) = ((c + 1 : Nat) : Int) := a_w_id (by omega) (by omega)
  have l1 := fun v M => w_layN (a := 21) (i := (p : Int) * 4 + (c : Int)) (n := 160) (by decide +kernel) (j := 4 * p + c) (by omega) (by omega) v M
  have hlt : (c : Int) < 4 := by omega
  rw [E_V_eq]
  show e_tv E_C (E_V 35) e_t35_2 [18, (p : Int), (c : Int)] M = _
  unfold e_t35_2
  by_cases q : c = 0
  · subst q
    simp [zq_a, zq_b, zq_c, zq_d, zq_e, zq_f, zq_g, zq_h, zq_i, zq_j, zq_k, zq_l, zq_m, zq_n, zq_o, zq_p, zq_q, zq_r, zq_s, zq_t, zq_u, zq_v, zq_w, zq_x, zq_y, zq_z, zq_A, zq_B, zq_C, zq_D, zq_E, zq_F, zq_G, zq_H, zq_I, zq_J, zq_K, zq_L, ↓zq_M, ↓zq_N, ↓zq_O, ↓zq_P, ↓zq_Q, ↓zq_R, zq_S, zq_T, zq_U, zq_V, zq_W, zq_X, zq_Y, zq_Z, zq_0, zq_1, zq_2, zq_3, zq_4, zq_5, ↓zq_6, ↓zq_7, ↓zq_8, ↓zq_9, ↓zq_aa, zq_ab, zq_ac, zq_ad, zq_ae, zq_af, zq_ag, ↓zq_ah, ↓zq_ai, ↓zq_aj, zq_ak, ↓zq_al, ↓zq_am, e_b1, e_b2, x_o1, x_o2, w_C2, w1, w2, w3, l1, hlt]
    have l1' := l1 100 M
    simp at l1'
    rw [l1']
    rfl
  · have q' : ¬ ((c : Int) = 0) := by omega
    simp [zq_a, zq_b, zq_c, zq_d, zq_e, zq_f, zq_g, zq_h, zq_i, zq_j, zq_k, zq_l, zq_m, zq_n, zq_o, zq_p, zq_q, zq_r, zq_s, zq_t, zq_u, zq_v, zq_w, zq_x, zq_y, zq_z, zq_A, zq_B, zq_C, zq_D, zq_E, zq_F, zq_G, zq_H, zq_I, zq_J, zq_K, zq_L, ↓zq_M, ↓zq_N, ↓zq_O, ↓zq_P, ↓zq_Q, ↓zq_R, zq_S, zq_T, zq_U, zq_V, zq_W, zq_X, zq_Y, zq_Z, zq_0, zq_1, zq_2, zq_3, zq_4, zq_5, ↓zq_6, ↓zq_7, ↓zq_8, ↓zq_9, ↓zq_aa, zq_ab, zq_ac, zq_ad, zq_ae, zq_af, zq_ag, ↓zq_ah, ↓zq_ai, ↓zq_aj, zq_ak, ↓zq_al, ↓zq_am, e_b1, e_b2, x_o1, x_o2, w_C2, w1, w2, w3, l1, hlt, q, q']
theorem w_35 {p : Nat} (hp : p < 40) (M : EM) : E_C 35 [18, (p : Int)] M = some (0, w_b35 M p) := by
  have s0 : E_C 35 [18, (p : Int)] M = e_tv E_C (E_V 35) e_t35_0 [18, (p : Int), 0] M := r_ent (u := 35) (as := [18, (p : Int)]) (M := M) (decide_eq_true (show e_isO 1 18 by decide +kernel))
  have fin : ∀ M, E_V 35 2 [18, (p : Int), 4] M = some (0, e_up (e_up (e_up M 22 p 0) 23 p (-1)) 24 p (-1)) := by
    intro M
    have l2 := fun v M => w_layN (a := 22) (i := (p : Int)) (n := 40) (by decide +kernel) rfl hp v M
    have l3 := fun v M => w_layN (a := 23) (i := (p : Int)) (n := 40) (by decide +kernel) rfl hp v M
    have l4 := fun v M => w_layN (a := 24) (i := (p : Int)) (n := 40) (by decide +kernel) rfl hp v M
    rw [E_V_eq]
    show e_tv E_C (E_V 35) e_t35_2 [18, (p : Int), 4] M = _
    unfold e_t35_2
    simp [zq_a, zq_b, zq_c, zq_d, zq_e, zq_f, zq_g, zq_h, zq_i, zq_j, zq_k, zq_l, zq_m, zq_n, zq_o, zq_p, zq_q, zq_r, zq_s, zq_t, zq_u, zq_v, zq_w, zq_x, zq_y, zq_z, zq_A, zq_B, zq_C, zq_D, zq_E, zq_F, zq_G, zq_H, zq_I, zq_J, zq_K, zq_L, ↓zq_M, ↓zq_N, ↓zq_O, ↓zq_P, ↓zq_Q, ↓zq_R, zq_S, zq_T, zq_U, zq_V, zq_W, zq_X, zq_Y, zq_Z, zq_0, zq_1, zq_2, zq_3, zq_4, zq_5, ↓zq_6, ↓zq_7, ↓zq_8, ↓zq_9, ↓zq_aa, zq_ab, zq_ac, zq_ad, zq_ae, zq_af, zq_ag, ↓zq_ah, ↓zq_ai, ↓zq_aj, zq_ak, ↓zq_al, ↓zq_am, e_b1, e_b2, x_o1, x_o2, w_C3, w_C4, w_C5, l2, l3, l4]
  have k0 : E_V 35 2 [18, (p : Int), 0] M = some (0, w_b35 M p) := (w_35s (c := 0) hp (by decide) M).trans ((w_35s (c := 1) hp (by decide) _).trans ((w_35s (c := 2) hp (by decide) _).trans ((w_35s (c := 3) hp (by decide) _).trans (fin _))))
  rw [s0]
  unfold e_t35_0
  simp [zq_a, zq_b, zq_c, zq_d, zq_e, zq_f, zq_g, zq_h, zq_i, zq_j, zq_k, zq_l, zq_m, zq_n, zq_o, zq_p, zq_q, zq_r, zq_s, zq_t, zq_u, zq_v, zq_w, zq_x, zq_y, zq_z, zq_A, zq_B, zq_C, zq_D, zq_E, zq_F, zq_G, zq_H, zq_I, zq_J, zq_K, zq_L, ↓zq_M, ↓zq_N, ↓zq_O, ↓zq_P, ↓zq_Q, ↓zq_R, zq_S, zq_T, zq_U, zq_V, zq_W, zq_X, zq_Y, zq_Z, zq_0, zq_1, zq_2, zq_3, zq_4, zq_5, ↓zq_6, ↓zq_7, ↓zq_8, ↓zq_9, ↓zq_aa, zq_ab, zq_ac, zq_ad, zq_ae, zq_af, zq_ag, ↓zq_ah, ↓zq_ai, ↓zq_aj, zq_ak, ↓zq_al, ↓zq_am, e_b1, e_b2, x_o1, x_o2, k0]
def w_b81 (M : EM) (s : Nat) : EM := e_up (e_up (e_up (e_up (e_up M s 0 0) s 1 5) s 2 0) s 3 0) s 4 0
theorem w_81 {s : Nat} (hs : 37 ≤ s ∧ s < 77) (M : EM) : E_C 81 [(s : Int), 0, 5] M = some (0, w_b81 M s) := by
  have is : e_isO 7 (s : Int) := p_is7 (by omega)
  have w0 : ∀ v M, e_pf 448 [(s : Int), v] M = some (e_up M s 0 v) := fun v M => c_pf is (by decide +kernel)
  have w1 : ∀ v M, e_pf 449 [(s : Int), v] M = some (e_up M s 1 v) := fun v M => c_pf is (by decide +kernel)
  have w2 : ∀ v M, e_pf 450 [(s : Int), v] M = some (e_up M s 2 v) := fun v M => c_pf is (by decide +kernel)
  have w3 : ∀ v M, e_pf 451 [(s : Int), v] M = some (e_up M s 3 v) := fun v M => c_pf is (by decide +kernel)
  have w4 : ∀ v M, e_pf 452 [(s : Int), v] M = some (e_up M s 4 v) := fun v M => c_pf is (by decide +kernel)
  rw [r_ent (show e_rok 81 [(s : Int), 0, 5] = true from decide_eq_true is)]
  show e_tv E_C (E_V 81) e_t81_0 [(s : Int), 0, 5] M = _
  unfold e_t81_0 w_b81
  simp [zq_a, zq_b, zq_c, zq_d, zq_e, zq_f, zq_g, zq_h, zq_i, zq_j, zq_k, zq_l, zq_m, zq_n, zq_o, zq_p, zq_q, zq_r, zq_s, zq_t, zq_u, zq_v, zq_w, zq_x, zq_y, zq_z, zq_A, zq_B, zq_C, zq_D, zq_E, zq_F, zq_G, zq_H, zq_I, zq_J, zq_K, zq_L, ↓zq_M, ↓zq_N, ↓zq_O, ↓zq_P, ↓zq_Q, ↓zq_R, zq_S, zq_T, zq_U, zq_V, zq_W, zq_X, zq_Y, zq_Z, zq_0, zq_1, zq_2, zq_3, zq_4, zq_5, ↓zq_6, ↓zq_7, ↓zq_8, ↓zq_9, ↓zq_aa, zq_ab, zq_ac, zq_ad, zq_ae, zq_af, zq_ag, ↓zq_ah, ↓zq_ai, ↓zq_aj, zq_ak, ↓zq_al, ↓zq_am, e_b1, e_b2, x_o1, x_o2, w0, w1, w2, w3, w4]
def w_b49 (M : EM) (p : Nat) (k t : Int) : EM := w_b81 (w_b35 (w_b52 M p k t) p) (37 + p)
theorem w_49 {p : Nat} {k t : Int} {M : EM} (h0 : M 10 0 = p) (hp : p < 40) : E_C 49 [9, k, t] M = some ((p : Int), w_b49 M p k t) := by
  have s0 : E_C 49 [9, k, t] M = e_tv E_C (E_V 49) e_t49_0 [9, k, t, 0] M := r_ent (u := 49) (as := [9, k, t]) (M := M) (decide_eq_true (show e_isO 3 9 by decide +kernel))
  rw [s0]
  unfold e_t49_0 w_b49
  have k1 := w_52 (k := k) (t := t) h0 hp
  have k2 := w_35 hp (w_b52 M p k t)
  obtain ⟨s, hs⟩ : ∃ s : Nat, s = 37 + p := ⟨_, rfl⟩
  rw [← hs]
  have r1 : ∀ M, e_op 62 [25, (p : Int)] M = some (s : Int) := fun M => (p_rd25 hp M).1.trans (by rw [hs])
  have r2 := fun M => (p_len25 M).1
  have k3 := w_81 (s := s) (by omega) (w_b35 (w_b52 M p k t) p)
  have q1 : (0 : Int) ≤ (p : Int) := by omega
  have q1' : ¬ ((p : Int) < 0) := by omega
  have q2 : (p : Int) < 40 := by omega
  have q3 : ¬ (s : Int) = -1 := by omega
  simp [zq_a, zq_b, zq_c, zq_d, zq_e, zq_f, zq_g, zq_h, zq_i, zq_j, zq_k, zq_l, zq_m, zq_n, zq_o, zq_p, zq_q, zq_r, zq_s, zq_t, zq_u, zq_v, zq_w, zq_x, zq_y, zq_z, zq_A, zq_B, zq_C, zq_D, zq_E, zq_F, zq_G, zq_H, zq_I, zq_J, zq_K, zq_L, ↓zq_M, ↓zq_N, ↓zq_O, ↓zq_P, ↓zq_Q, ↓zq_R, zq_S, zq_T, zq_U, zq_V, zq_W, zq_X, zq_Y, zq_Z, zq_0, zq_1, zq_2, zq_3, zq_4, zq_5, ↓zq_6, ↓zq_7, ↓zq_8, ↓zq_9, ↓zq_aa, zq_ab, zq_ac, zq_ad, zq_ae, zq_af, zq_ag, ↓zq_ah, ↓zq_ai, ↓zq_aj, zq_ak, ↓zq_al, ↓zq_am, e_b1, e_b2, x_o1, x_o2, w_H0, w_H1, w_H2, k1, k2, r1, r2, k3, q1, q1', q2, q3]
end
