section ATREE
variable {W : AW} {call : Nat → List AV → Option AV} {jmp : Nat → AE → Bool} {rho : AV} {g : Nat → Int} {v : Nat}
theorem a_tree_ok (hC : a_CALL W call) (hJ : ∀ l E, jmp l E = true → ∀ L M, a_E g E L → a_M M → a_OUT W rho M (E_V v l L M)) : ∀ (k : Nat) (t : e_X), SizeOf.sizeOf t ≤ k → ∀ E, a_tree W call jmp rho t E = true → ∀ L M, a_E g E L → a_M M → a_OUT W rho M (e_tv E_C (E_V v) t L M) := by
  intro k
  induction k with
  | zero => intro t ht; cases t <;> simp at ht
  | succ k ih =>
    intro t ht E h L M hE hM
    cases t with
    | num c => simp [a_tree] at h
    | var c => simp [a_tree] at h
    | mulR e c => simp [a_tree] at h
    | neg e => simp [a_tree] at h
    | mulL c e =>
      simp at ht
      unfold a_tree at h
      unfold e_tv
      split at h
      · rename_i hk
        rw [if_pos hk]
        exact ih e (by omega) E h L M hE hM
      rename_i n0
      rw [if_neg n0]
      split at h
      · rename_i hk
        rw [if_pos hk]
        split at h
        · rename_i x p q hx
          obtain ⟨xs, M1, e1, e2, e3, e4, -⟩ := a_ex_ok (g := g) hC e E _ hx L M hE hM
          obtain ⟨y, rfl, hy⟩ := a_gs_1 e2
          rw [e1]
          exact ⟨y, M1, rfl, a_leq_ok h hy, e3, e4⟩
        · cases h
      rename_i n1
      rw [if_neg n1]
      split at h
      · rename_i hk
        rw [if_pos hk]
        exact ⟨0, M, rfl, a_leq_ok h (a_gi (Int.le_refl _) (Int.le_refl _)), hM, a_fr_rf⟩
      rename_i n2
      rw [if_neg n2]
      split at h
      · rename_i hk
        subst hk
        rw [if_neg (by decide), if_pos rfl]
        split at h
        · rename_i l
          exact hJ l.toNat E h L M hE hM
        · cases h
      · cases h
    | sub c e =>
      cases e with
      | add a b =>
        simp at ht
        unfold a_tree at h
        split at h
        · cases h
        · rename_i p hp
          rw [Bool.and_eq_true, Bool.and_eq_true] at h
          obtain ⟨⟨hl, ha⟩, hb⟩ := h
          obtain ⟨xs, M1, e1, e2, e3, e4, e5⟩ := a_ex_ok (g := g) hC c E p hp L M hE hM
          obtain ⟨x, rfl⟩ := a_gs_len (of_decide_eq_true hl) e2
          obtain ⟨h5, h6⟩ := e5 x rfl
          unfold e_tv
          rw [e1, Option.bind_some]
          refine a_OUT_tr e4 ?_
          by_cases hx : x = 0
          · rw [if_pos (by rw [hx])]
            have hF := h6 hx
            rw [Bool.or_eq_true] at hb
            rcases hb with hb | hb
            · exact (a_dead_ok hb hF).elim
            · exact ih b (by omega) _ hb L M1 hF e3
          · rw [if_neg (fun q => hx (by cases q; rfl))]
            have hT := h5 hx
            rw [Bool.or_eq_true] at ha
            rcases ha with ha | ha
            · exact (a_dead_ok ha hT).elim
            · exact ih a (by omega) _ ha L M1 hT e3
      | _ => simp [a_tree] at h
    | add s t =>
      simp at ht
      have other : ∀ E', a_st W call s E = some E' → a_tree W call jmp rho t E' = true → a_OUT W rho M (e_tv E_C (E_V v) (.add s t) L M) := by
        intro E' h1 h2
        obtain ⟨L', M', f1, f2, f3, f4⟩ := a_st_ok hC h1 L M hE hM
        unfold e_tv
        rw [f1, Option.bind_some]
        exact a_OUT_tr f4 (ih t (by omega) E' h2 L' M' f2 f3)
      unfold a_tree at h
      split at h
      · rename_i c e
        split at h
        · rename_i hk
          split at h
          · rename_i l hl
            obtain ⟨x, M1, e1, e3, e4, q, hq, hq1, hq2, hq3⟩ := a_alts_ok (g := g) hC e E l hl L M hE hM
            have h1 := List.all_eq_true.mp h q hq
            rw [Bool.and_eq_true, decide_eq_true_eq] at h1
            have hsv : e_sv E_C (.mulL c e) L M = some (L.set (c.toNat - 100) x, M1) := by
              simp only [e_sv, if_neg (show ¬ c = 64 by omega), if_neg (show ¬ c = 65 by omega), if_neg (show ¬ c = 66 by omega), if_neg (show ¬ c = 67 by omega), if_neg (show ¬ c = 68 by omega), if_pos hk, e1, Option.bind_some]
              rfl
            unfold e_tv
            rw [hsv, Option.bind_some]
            refine a_OUT_tr e4 (ih t (by omega) _ h1.2 _ _ ?_ e3)
            generalize hgen : c.toNat - 100 = j at h1
            refine ⟨by rw [List.length_set, List.length_set]; exact hq3.1, fun s hs => ?_⟩
            rw [List.length_set] at hs
            by_cases hsj : s = j
            · subst hsj
              rw [List.getD_eq_getElem?_getD, List.getElem?_set_self hs, List.getD_eq_getElem?_getD, List.getElem?_set_self (by rw [hq3.1]; exact hs)]
              exact ⟨hq1, hq2⟩
            · rw [List.getD_eq_getElem?_getD, List.getElem?_set_ne (Ne.symm hsj), List.getD_eq_getElem?_getD, List.getElem?_set_ne (Ne.symm hsj), ← List.getD_eq_getElem?_getD, ← List.getD_eq_getElem?_getD]
              exact hq3.2 s hs
          · cases h
        · split at h
          · rename_i E' hE'
            exact other E' hE' h
          · cases h
      · split at h
        · rename_i E' hE'
          exact other E' hE' h
        · cases h
end ATREE
