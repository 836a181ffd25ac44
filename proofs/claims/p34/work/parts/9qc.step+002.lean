/-- what stands in the reader's rows after k bytes -/
def w_K (b : Nat → Int) (k : Nat) (M : EM) : Prop :=
  (M 162 2 = w_T b k 2 ∧ M 162 7 = w_T b k 7 ∧ M 162 8 = w_T b k 8 ∧ (w_T b k 2 ≠ 0 → M 162 3 = w_T b k 3 ∧ M 162 4 = w_T b k 4 ∧ M 162 5 = w_T b k 5 ∧ M 162 6 = w_T b k 6)) ∧
  (∀ j, j < k → w_T b j 2 = 0 → M 163 (w_T b j 7).toNat = j ∧ M 164 (w_T b j 7).toNat = b j) ∧
  (∀ j, j ≤ k → w_T b j 2 = 0 → M 165 (w_T b j 7).toNat = w_T b j 8 ∧ (0 < j → M 166 (w_T b j 7 - 1).toNat = w_T b j 6)) ∧
  (∀ j, j < k → w_N b j → M 167 (w_T b j 8).toNat = w_v b k j ∧ M 168 (w_T b j 8).toNat = w_T b j 6 - 1 ∧ M 169 (w_T b j 8).toNat = w_T b j 5)
theorem w_ok_c {s t : Nat → Int} {c : Int} (h2 : s 2 = t 2) (h : t 2 ≠ 0 → s 3 = t 3 ∧ s 4 = t 4 ∧ s 5 = t 5) : w_ok s c ↔ w_ok t c := by
  unfold w_ok
  rw [h2]
  by_cases q : t 2 = 0
  · rw [if_pos q, if_pos q]
  · obtain ⟨a, b, d⟩ := h q
    rw [a, b, d]
theorem w_Kok {b : Nat → Int} {k : Nat} {M : EM} (hK : w_K b k M) (c : Int) : w_ok (M 162) c ↔ w_ok (w_T b k) c := by
  obtain ⟨⟨f2, f7, f8, ff⟩, -⟩ := hK
  exact w_ok_c f2 (fun h => ⟨(ff h).1, (ff h).2.1, (ff h).2.2.1⟩)
theorem w_Kn {b : Nat → Int} {k : Nat} {M : EM} (hK : w_K b k M) (hA : w_A b k) (ok : w_ok (w_T b k) (b k)) (h1 : M 162 1 = k) : w_K b (k + 1) (w_M M (b k)) := by
  have ok' := (w_Kok hK (b k)).mpr ok
  have hI := w_Ii hA
  have hI1 := w_Ii (w_As hA ok)
  have hA1 := w_As hA ok
  obtain ⟨⟨f2, f7, f8, ff⟩, ks, ke, kn⟩ := hK
  have e2 := w_M_f (M := M) (c := b k) (i := 2) (by omega)
  have e3 := w_M_f (M := M) (c := b k) (i := 3) (by omega)
  have e4 := w_M_f (M := M) (c := b k) (i := 4) (by omega)
  have e5 := w_M_f (M := M) (c := b k) (i := 5) (by omega)
  have e6 := w_M_f (M := M) (c := b k) (i := 6) (by omega)
  have e7 := w_M_f (M := M) (c := b k) (i := 7) (by omega)
  have e8 := w_M_f (M := M) (c := b k) (i := 8) (by omega)
  have t2 : w_M M (b k) 162 2 = w_T b (k + 1) 2 := by rw [e2, w_Tn, w_nx2, w_nx2, f2]
  have t7 : w_M M (b k) 162 7 = w_T b (k + 1) 7 := by rw [e7, w_Tn, w_nx7 ok', w_nx7 ok, f2, f7]
  have t8 : w_M M (b k) 162 8 = w_T b (k + 1) 8 := by rw [e8, w_Tn, w_nx8, w_nx8, f2, f8]
  unfold w_I at hI hI1
  refine ⟨⟨t2, t7, t8, fun hz => ?_⟩, fun j hj z => ?_, fun j hj z => ?_, fun j hj z => ?_⟩
  · rw [e3, e4, e5, e6, w_Tn, w_nx3, w_nx3, w_nx4, w_nx4, w_nx5, w_nx5, w_nx6, w_nx6, f2]
    by_cases q : w_T b k 2 = 0
    · simp only [q, if_true, and_self]
    · obtain ⟨a3, a4, a5, a6⟩ := ff q
      rw [a3, a4, a5, a6]
      exact ⟨rfl, rfl, rfl, rfl⟩
  · rw [w_M_63, w_M_64, f2, f7, h1]
    by_cases q : j = k
    · subst q
      rw [if_pos ⟨z, rfl⟩, if_pos ⟨z, rfl⟩]
      exact ⟨rfl, rfl⟩
    · have hn : ¬ (w_T b k 2 = 0 ∧ (w_T b j 7).toNat = (w_T b k 7).toNat) := by
        intro hc
        have := w_S7 hA (show j < k by omega) hc.1
        have := w_Ii (w_Al hA (show j ≤ k by omega))
        unfold w_I at this
        omega
      rw [if_neg hn, if_neg hn]
      exact ks j (by omega) z
  · rw [w_M_65 ok', w_M_66 ok', f2, f7, f8]
    by_cases q : j = k + 1
    · subst q
      have z' := z
      rw [w_Tn, w_nx2] at z'
      have hq : w_T b k 2 ≠ 0 ∧ w_T b k 2 ≠ 1 ∧ b k = 59 := by
        by_cases q0 : w_T b k 2 = 0
        · rw [if_pos q0] at z'; omega
        rw [if_neg q0] at z'
        by_cases q1 : w_T b k 2 = 1
        · rw [if_pos q1] at z'
          split at z'
          · split at z' <;> omega
          · omega
        rw [if_neg q1] at z'
        by_cases q2 : w_T b k 2 = 2 ∧ 48 ≤ b k ∧ b k ≤ 57
        · rw [if_pos q2] at z'; omega
        rw [if_neg q2] at z'
        by_cases q3 : b k = 47
        · rw [if_pos q3] at z'; omega
        rw [if_neg q3] at z'
        by_cases q4 : b k = 93
        · rw [if_pos q4] at z'; omega
        rw [if_neg q4] at z'
        by_cases q5 : b k = 32
        · rw [if_pos q5] at z'; omega
        unfold w_ok at ok
        rw [if_neg q0, if_neg q1] at ok
        exact ⟨q0, q1, by omega⟩
      have e7 : w_T b (k + 1) 7 = w_T b k 7 + 1 := by rw [w_Tn, w_nx7 ok, if_pos hq]
      have e8 : w_T b (k + 1) 8 = w_T b k 8 := by rw [w_Tn, w_nx8, if_neg (fun e => hq.2.1 e.1)]
      have e6 : w_T b (k + 1) 6 = w_T b k 6 := by
        rw [w_Tn, w_nx6, if_neg hq.1, if_neg hq.2.1, if_neg (by omega), if_neg (by omega)]
      rw [e7, e8, e6, if_pos ⟨hq, rfl⟩, if_pos ⟨hq, by omega⟩]
      exact ⟨rfl, fun _ => (ff hq.1).2.2.2⟩
    · have i7 := w_m7 hA (show j ≤ k by omega)
      have ij := w_Ii (w_Al hA (show j ≤ k by omega))
      unfold w_I at ij
      obtain ⟨g1, g2⟩ := ke j (by omega) z
      rw [if_neg (fun e => by have := e.2; omega)]
      refine ⟨g1, fun hp => ?_⟩
      have i0 : 1 ≤ w_T b j 7 := by
        have := w_S7 (b := b) (k := 0) (j := j) (w_Al hA (by omega)) hp z
        have e : w_T b 0 7 = 0 := rfl
        omega
      rw [if_neg (fun e => by have := e.2; omega)]
      exact g2 hp
  · rw [w_M_67, w_M_68, w_M_69, f2, f8]
    by_cases q : j = k
    · subst q
      obtain ⟨z1, z2⟩ := z
      obtain ⟨a3, a4, a5, a6⟩ := ff (by omega)
      rw [if_pos ⟨⟨z1, z2⟩, rfl⟩, if_pos ⟨⟨z1, z2⟩, rfl⟩, if_pos ⟨⟨z1, z2⟩, rfl⟩, a5, a6]
      refine ⟨?_, rfl, rfl⟩
      unfold w_v
      rw [if_neg (by omega)]
    · obtain ⟨g1, g2, g3⟩ := kn j (by omega) z
      have l8 := w_N8 z (show j < k by omega)
      have ij := w_Ii (w_Al hA (show j ≤ k by omega))
      unfold w_I at ij
      have hn : ¬ ((w_T b k 2 = 1 ∧ 48 ≤ b k ∧ b k ≤ 57) ∧ (w_T b j 8).toNat = (w_T b k 8).toNat) := fun e => by have := e.2; omega
      rw [if_neg hn, if_neg hn, if_neg hn]
      refine ⟨?_, g2, g3⟩
      by_cases c2 : (w_T b k 2 = 2 ∧ 48 ≤ b k ∧ b k ≤ 57) ∧ (w_T b j 8).toNat = (w_T b k 8 - 1).toNat
      · rw [if_pos c2]
        obtain ⟨⟨c2, c3⟩, c4⟩ := c2
        obtain ⟨i, rfl, n1, n2⟩ := w_more hA c2
        have e8 := w_n8 n1
        have hji : j = i := by
          by_cases h : j = i
          · exact h
          · have := w_N8 z (show j < i by omega); omega
        subst hji
        rw [← c4, g1]
        unfold w_v
        have d1 : ¬ (b j ≠ 48 ∧ j + 1 < j + 1 ∧ 48 ≤ b (j + 1) ∧ b (j + 1) ≤ 57) := by omega
        have d2 : b j ≠ 48 ∧ j + 1 < j + 1 + 1 ∧ 48 ≤ b (j + 1) ∧ b (j + 1) ≤ 57 := by omega
        rw [if_neg d1, if_pos d2]
      · rw [if_neg c2, g1]
        unfold w_v
        by_cases h : k > j + 1
        · by_cases c3 : b j ≠ 48 ∧ 48 ≤ b (j + 1) ∧ b (j + 1) ≤ 57
          · have h1 : b j ≠ 48 ∧ j + 1 < k ∧ 48 ≤ b (j + 1) ∧ b (j + 1) ≤ 57 := ⟨c3.1, h, c3.2⟩
            have h2 : b j ≠ 48 ∧ j + 1 < k + 1 ∧ 48 ≤ b (j + 1) ∧ b (j + 1) ≤ 57 := ⟨c3.1, by omega, c3.2⟩
            rw [if_pos h1, if_pos h2]
          · have h1 : ¬ (b j ≠ 48 ∧ j + 1 < k ∧ 48 ≤ b (j + 1) ∧ b (j + 1) ≤ 57) := fun e => c3 ⟨e.1, e.2.2⟩
            have h2 : ¬ (b j ≠ 48 ∧ j + 1 < k + 1 ∧ 48 ≤ b (j + 1) ∧ b (j + 1) ≤ 57) := fun e => c3 ⟨e.1, e.2.2⟩
            rw [if_neg h1, if_neg h2]
        · have hk : k = j + 1 := by omega
          subst hk
          rw [if_neg (by omega)]
          by_cases c3 : b j ≠ 48 ∧ 48 ≤ b (j + 1) ∧ b (j + 1) ≤ 57
          · exfalso
            apply c2
            have e8 := w_n8 z
            refine ⟨⟨?_, c3.2⟩, by omega⟩
            rw [w_Tn, w_nx2, if_neg (by have := z.1; omega), if_pos z.1, if_pos z.2, if_neg c3.1]
          · rw [if_neg (by omega)]

