section YL
variable {b : Nat → Int} {n k k' : Nat} {M M' : EM}
theorem y_okr (rd : y_rd b n k) (hk : k < n) : w_ok (w_T b k) (b k) ↔ ((b k = 47 ∧ w_T b k 3 = 99 ∧ w_T b k 4 = 0) ∨ (b k = 93 ∧ w_T b k 5 ≠ 0) ∨ (b k = 32 ∧ w_T b k 3 ≠ 98 ∧ ¬ (w_T b k 3 = 99 ∧ w_T b k 4 = 0)) ∨ (b k = 59 ∧ w_T b k 5 = 0 ∧ ¬ (w_T b k 3 = 99 ∧ w_T b k 4 = 0))) := by
  obtain ⟨r1, r2, r3⟩ := rd
  unfold w_ok
  rw [if_neg r1, if_neg r2]
  exact ⟨fun h => h.resolve_left (fun e => r3 ⟨e.1, hk, e.2⟩), Or.inr⟩
theorem y_go (hA : w_A b k) (rd : y_rd b n k) (hk : k < n) (ok : w_ok (w_T b k) (b k)) : w_A b (k + 1) ∧ w_T b (k + 1) 2 = (if b k = 47 then 1 else if b k = 93 then 3 else if b k = 32 then 1 else 0) ∧ w_T b (k + 1) 3 = w_T b k 3 ∧ w_T b (k + 1) 4 = (if b k = 47 then 1 else if b k = 32 then 0 else w_T b k 4) ∧ w_T b (k + 1) 5 = (if b k = 93 then 0 else w_T b k 5) ∧ w_T b (k + 1) 6 = (if b k = 32 ∧ w_T b k 5 = 0 then w_T b k 6 + 1 else w_T b k 6) ∧ w_T b (k + 1) 7 = (if b k = 59 then w_T b k 7 + 1 else w_T b k 7) ∧ w_T b (k + 1) 8 = w_T b k 8 := by
  obtain ⟨r1, r2, r3⟩ := rd
  have r4 : ¬ (w_T b k 2 = 2 ∧ 48 ≤ b k ∧ b k ≤ 57) := fun e => r3 ⟨e.1, hk, e.2⟩
  refine ⟨w_As hA ok, ?_, ?_, ?_, ?_, ?_, ?_, ?_⟩
  · rw [w_Tn, w_nx2, if_neg r1, if_neg r2, if_neg r4]
  · rw [w_Tn, w_nx3, if_neg r1]
  · rw [w_Tn, w_nx4, if_neg r1, if_neg r2, if_neg r4]
  · rw [w_Tn, w_nx5, if_neg r1, if_neg r2, if_neg r4]
  · rw [w_Tn, w_nx6, if_neg r1, if_neg r2, if_neg r4]
  · rw [w_Tn, w_nx7 ok]
    by_cases c : b k = 59
    · rw [if_pos ⟨r1, r2, c⟩, if_pos c]
    · rw [if_neg (fun e => c e.2.2), if_neg c]
  · rw [w_Tn, w_nx8, if_neg (fun e => r2 e.1)]
theorem y_spc (hA : w_A b k) (rd : y_rd b n k) (hk : k < n) (e : b k = 32) (h3 : w_T b k 3 ≠ 98) (h4 : ¬ (w_T b k 3 = 99 ∧ w_T b k 4 = 0)) : w_A b (k + 1) ∧ w_T b (k + 1) 2 = 1 ∧ w_T b (k + 1) 3 = w_T b k 3 ∧ w_T b (k + 1) 4 = 0 ∧ w_T b (k + 1) 5 = w_T b k 5 ∧ w_T b (k + 1) 6 = (if w_T b k 5 = 0 then w_T b k 6 + 1 else w_T b k 6) ∧ w_T b (k + 1) 7 = w_T b k 7 ∧ w_T b (k + 1) 8 = w_T b k 8 := by
  have ok : w_ok (w_T b k) (b k) := (y_okr rd hk).mpr (Or.inr (Or.inr (Or.inl ⟨e, h3, h4⟩)))
  obtain ⟨a1, a2, a3, a4, a5, a6, a7, a8⟩ := y_go hA rd hk ok
  rw [e] at a2 a4 a5 a6 a7
  refine ⟨a1, a2, a3, a4, a5, ?_, a7, a8⟩
  rw [a6]
  by_cases c : w_T b k 5 = 0
  · rw [if_pos ⟨rfl, c⟩, if_pos c]
  · rw [if_neg (fun q => c q.2), if_neg c]
theorem y_sla (hA : w_A b k) (rd : y_rd b n k) (hk : k < n) (e : b k = 47) (h3 : w_T b k 3 = 99) (h4 : w_T b k 4 = 0) : w_A b (k + 1) ∧ w_T b (k + 1) 2 = 1 ∧ w_T b (k + 1) 3 = w_T b k 3 ∧ w_T b (k + 1) 4 = 1 ∧ w_T b (k + 1) 5 = w_T b k 5 ∧ w_T b (k + 1) 6 = w_T b k 6 ∧ w_T b (k + 1) 7 = w_T b k 7 ∧ w_T b (k + 1) 8 = w_T b k 8 := by
  have ok : w_ok (w_T b k) (b k) := (y_okr rd hk).mpr (Or.inl ⟨e, h3, h4⟩)
  obtain ⟨a1, a2, a3, a4, a5, a6, a7, a8⟩ := y_go hA rd hk ok
  rw [e] at a2 a4 a5 a6 a7
  exact ⟨a1, a2, a3, a4, a5, a6.trans (if_neg (fun q => absurd q.1 (by decide))), a7, a8⟩
theorem y_cls (hA : w_A b k) (rd : y_rd b n k) (hk : k < n) (e : b k = 93) (h5 : w_T b k 5 ≠ 0) : w_A b (k + 1) ∧ w_T b (k + 1) 2 = 3 ∧ w_T b (k + 1) 3 = w_T b k 3 ∧ w_T b (k + 1) 4 = w_T b k 4 ∧ w_T b (k + 1) 5 = 0 ∧ w_T b (k + 1) 6 = w_T b k 6 ∧ w_T b (k + 1) 7 = w_T b k 7 ∧ w_T b (k + 1) 8 = w_T b k 8 := by
  have ok : w_ok (w_T b k) (b k) := (y_okr rd hk).mpr (Or.inr (Or.inl ⟨e, h5⟩))
  obtain ⟨a1, a2, a3, a4, a5, a6, a7, a8⟩ := y_go hA rd hk ok
  rw [e] at a2 a4 a5 a6 a7
  exact ⟨a1, a2, a3, a4, a5, a6.trans (if_neg (fun q => absurd q.1 (by decide))), a7, a8⟩
theorem y_smc (hA : w_A b k) (rd : y_rd b n k) (hk : k < n) (e : b k = 59) (h5 : w_T b k 5 = 0) (h4 : ¬ (w_T b k 3 = 99 ∧ w_T b k 4 = 0)) : w_A b (k + 1) ∧ w_T b (k + 1) 2 = 0 ∧ w_T b (k + 1) 3 = w_T b k 3 ∧ w_T b (k + 1) 4 = w_T b k 4 ∧ w_T b (k + 1) 5 = w_T b k 5 ∧ w_T b (k + 1) 6 = w_T b k 6 ∧ w_T b (k + 1) 7 = w_T b k 7 + 1 ∧ w_T b (k + 1) 8 = w_T b k 8 := by
  have ok : w_ok (w_T b k) (b k) := (y_okr rd hk).mpr (Or.inr (Or.inr (Or.inr ⟨e, h5, h4⟩)))
  obtain ⟨a1, a2, a3, a4, a5, a6, a7, a8⟩ := y_go hA rd hk ok
  rw [e] at a2 a4 a5 a6 a7
  exact ⟨a1, a2, a3, a4, a5, a6.trans (if_neg (fun q => absurd q.1 (by decide))), a7, a8⟩
theorem y_opn (hA : w_A b k) (h2 : w_T b k 2 = 1) (e : b k = 91) (h3 : w_T b k 3 = 114) (h5 : w_T b k 5 = 0) : w_A b (k + 1) ∧ w_T b (k + 1) 2 = 1 ∧ w_T b (k + 1) 3 = w_T b k 3 ∧ w_T b (k + 1) 4 = w_T b k 4 ∧ w_T b (k + 1) 5 = 1 ∧ w_T b (k + 1) 6 = w_T b k 6 ∧ w_T b (k + 1) 7 = w_T b k 7 ∧ w_T b (k + 1) 8 = w_T b k 8 := by
  have ok : w_ok (w_T b k) (b k) := by
    unfold w_ok
    rw [if_neg (by omega), if_pos h2]
    exact Or.inr ⟨e, h3, h5⟩
  have d : ¬ (48 ≤ b k ∧ b k ≤ 57) := by omega
  refine ⟨w_As hA ok, ?_, ?_, ?_, ?_, ?_, ?_, ?_⟩
  · rw [w_Tn, w_nx2, if_neg (by omega), if_pos h2, if_neg d]
  · rw [w_Tn, w_nx3, if_neg (by omega)]
  · rw [w_Tn, w_nx4, if_neg (by omega), if_pos h2]
  · rw [w_Tn, w_nx5, if_neg (by omega), if_pos h2, if_neg d]
  · rw [w_Tn, w_nx6, if_neg (by omega), if_pos h2]
  · rw [w_Tn, w_nx7 ok, if_neg (by omega)]
  · rw [w_Tn, w_nx8, if_neg (by omega)]
theorem y_bgn (hA : w_A b k) (h2 : w_T b k 2 = 0) (e : b k = 99 ∨ b k = 114 ∨ b k = 102 ∨ b k = 98) : w_A b (k + 1) ∧ w_T b (k + 1) 2 = 1 ∧ w_T b (k + 1) 3 = b k ∧ w_T b (k + 1) 4 = 0 ∧ w_T b (k + 1) 5 = 0 ∧ w_T b (k + 1) 6 = 1 ∧ w_T b (k + 1) 7 = w_T b k 7 ∧ w_T b (k + 1) 8 = w_T b k 8 := by
  have ok : w_ok (w_T b k) (b k) := by
    unfold w_ok
    rw [if_pos h2]
    exact e
  refine ⟨w_As hA ok, ?_, ?_, ?_, ?_, ?_, ?_, ?_⟩
  · rw [w_Tn, w_nx2, if_pos h2]
  · rw [w_Tn, w_nx3, if_pos h2]
  · rw [w_Tn, w_nx4, if_pos h2]
  · rw [w_Tn, w_nx5, if_pos h2]
  · rw [w_Tn, w_nx6, if_pos h2]
  · rw [w_Tn, w_nx7 ok, if_neg (by omega)]
  · rw [w_Tn, w_nx8, if_neg (by omega)]
/-- where a number is wanted and none comes -/
theorem y_bad1 (hA : w_A b k) (hk : k ≤ n) (h2 : w_T b k 2 = 1) (q : ¬ (k < n ∧ 48 ≤ b k ∧ b k ≤ 57)) (q' : k < n → ¬ (b k = 91 ∧ w_T b k 3 = 114 ∧ w_T b k 5 = 0)) : y_bad b n k := by
  refine ⟨hA, hk, fun hl ok => ?_, fun e => by rw [← e, h2]; decide⟩
  unfold w_ok at ok
  rw [if_neg (by omega), if_pos h2] at ok
  rcases ok with ok | ok
  · exact q ⟨hl, ok⟩
  · exact q' hl ok
end YL
