theorem a_rok_ok {u : Nat} {xs : List AV} {as : List Int} (h : a_rok u xs = true) (hg : a_gs xs as) : e_rok u as = true := by
  unfold a_rok at h
  unfold e_rok
  split at h
  · rename_i h1; rw [h1]
  · rename_i ci h1
    rw [h1]
    dsimp only
    split at h
    · rename_i ids t
      obtain ⟨x, xs', rfl, hx, -⟩ := a_gs_c hg
      have := of_decide_eq_true (List.all_eq_true.mp h x hx)
      exact decide_eq_true this
    · cases h
/-- THE ANALYSIS IS RIGHT -/
theorem a_an_ok {W : AW} {orc : Nat → List AV → Option AV} (hO : a_CALL W orc) : ∀ (n v : Nat) (A : AA) (E : AE) (t : e_X), a_an W orc n v A E t = true → ∀ g, a_HA W v g A → ∀ L M, a_E g E L → a_M M → a_OUT W (a_rho v) M (e_tv E_C (E_V v) t L M) := by
  intro n
  induction n with
  | zero => intro v A E t h; cases h
  | succ n ih =>
    intro v A E t h g hA
    unfold a_an at h
    refine a_tree_ok ?_ ?_ (SizeOf.sizeOf t) t (Nat.le_refl _) E h
    · intro u xs r hr as M hg hM
      dsimp only at hr
      split at hr
      · rename_i r2 h2
        cases hr
        exact hO u xs _ h2 as M hg hM
      · split at hr
        · rename_i h2
          cases hr
          rw [Bool.and_eq_true] at h2
          have h3 := ih u [] _ _ h2.2 (fun _ => 0) (fun l q hq => by cases hq) (e_pad u as) M (a_ent_ok hg) hM
          have h4 : e_tv E_C (E_V u) (.mulL 4 (.num 0)) (e_pad u as) M = E_V u 0 (e_pad u as) M := rfl
          rw [h4] at h3
          unfold E_C
          rw [if_pos (a_rok_ok h2.1 hg)]
          exact h3
        · cases hr
    · intro l E1 hl L M hE hM
      try dsimp only at hl
      split at hl
      · rename_i q hq
        rw [Bool.and_eq_true] at hl
        exact hA l q hq L M (a_le_ok hl.1 hE) (a_on_ok hl.2 hE) hM
      · rename_i hno
        split at hl
        · rename_i hd hhd
          obtain ⟨c, up, hv⟩ := hd
          simp only [Bool.and_eq_true] at hl
          obtain ⟨⟨⟨⟨l1, l2⟩, l3⟩, l4⟩, l5⟩ := hl
          have hcnt : ∀ L, a_Ex c g (a_head c up hv 0 E1) L → -2147483648 ≤ L.getD c 0 ∧ L.getD c 0 ≤ 2147483647 := by
            intro L hL
            unfold a_cnt at l3
            split at l3
            · rename_i q hq
              simp only [Bool.and_eq_true, decide_eq_true_eq] at l3
              by_cases hc : c < (a_head c up hv 0 E1).length
              · have h1 := (hL.2 c hc).1
                rw [hq] at h1
                obtain ⟨h2, h3, -⟩ := h1
                omega
              · rw [List.getD_eq_getElem?_getD, List.getElem?_eq_none (by omega)] at hq
                cases hq
            · cases l3
          have key : ∀ m : Nat, ∀ L M, (if up = true then (2147483648 - L.getD c 0).toNat else (L.getD c 0 + 2147483649).toNat) ≤ m → a_Ex c g (a_head c up hv 0 E1) L → a_M M → a_OUT W (a_rho v) M (E_V v l L M) := by
            intro m
            induction m with
            | zero =>
              intro L M hm hL hM
              have := hcnt L hL
              split at hm <;> omega
            | succ m ihm =>
              intro L M hm hL hM
              rw [E_V_eq]
              refine ih v _ _ _ l5 (fun s => if s = c then L.getD c 0 else g s) ?_ L M (a_head_ok l4 hL) hM
              intro l' q' hq' L' M' hL' hp hM'
              unfold a_act at hq'
              by_cases hll : l' = l
              · subst hll
                have e1 : q_find ((l', a_head c up hv 0 E1, c, up) :: A) l' = some (a_head c up hv 0 E1, c, up) := by
                  unfold q_find; simp
                rw [e1] at hq'
                cases hq'
                dsimp only at hL' hp
                have hL2 : a_Ex c g (a_head c up hv 0 E1) L' := by
                  refine ⟨hL'.1, fun i hi => ⟨(hL'.2 i hi).1, fun t ht hc => ?_⟩⟩
                  have := (hL'.2 i hi).2 t ht hc
                  rw [a_to_c hc] at this
                  exact this
                refine ihm L' M' ?_ hL2 hM'
                unfold a_prog at hp
                dsimp only at hp
                rw [if_pos rfl] at hp
                have h1 := hcnt L hL
                have h2 := hcnt L' hL2
                split
                · rename_i hup
                  rw [if_pos hup] at hm hp
                  omega
                · rename_i hup
                  rw [if_neg hup] at hm hp
                  omega
              · have e1 : q_find ((l, a_head c up hv 0 E1, c, up) :: A) l' = q_find A l' := by
                  conv => lhs; unfold q_find
                  have : Nat.beq l l' = false := by
                    cases hb : Nat.beq l l' with
                    | false => rfl
                    | true => exact absurd (Nat.eq_of_beq_eq_true hb).symm hll
                  rw [this]; rfl
                rw [e1] at hq'
                have h1 := List.all_eq_true.mp l2 _ (q_find_mem hq')
                simp only [Bool.and_eq_true, decide_eq_true_eq] at h1
                obtain ⟨h2, h3⟩ := h1
                refine hA l' q' hq' L' M' ⟨hL'.1, fun i hi => ⟨(hL'.2 i hi).1, fun t ht hc => ?_⟩⟩ ?_ hM'
                · have h4 := (hL'.2 i hi).2 t ht hc
                  have h5 : t.1 ≠ c := by
                    rw [List.getD_eq_getElem?_getD, List.getElem?_eq_getElem hi] at ht
                    have h6 := List.all_eq_true.mp h3 _ (List.getElem_mem hi)
                    exact of_decide_eq_true (List.all_eq_true.mp h6 t ht)
                  rw [a_to_c h5] at h4
                  exact h4
                · unfold a_prog at hp ⊢
                  dsimp only at hp
                  rw [if_neg h2] at hp
                  exact hp
          exact key _ L M (Nat.le_refl _) (a_le_ok l1 hE) hM
        · rename_i hhd
          rw [E_V_eq]
          exact ih v A E1 _ hl g hA L M hE hM
/-- an entry -/
theorem a_call_ok {W : AW} {orc : Nat → List AV → Option AV} (hO : a_CALL W orc) {n u : Nat} {xs : List AV} (h : (a_rok u xs && a_an W orc n u [] (a_ent u xs) (.mulL 4 (.num 0))) = true) {as : List Int} {M : EM} (hg : a_gs xs as) (hM : a_M M) : a_OUT W (a_rho u) M (E_C u as M) := by
  rw [Bool.and_eq_true] at h
  have h3 := a_an_ok hO n u [] _ _ h.2 (fun _ => 0) (fun l q hq => by cases hq) (e_pad u as) M (a_ent_ok hg) hM
  have h4 : e_tv E_C (E_V u) (.mulL 4 (.num 0)) (e_pad u as) M = E_V u 0 (e_pad u as) M := rfl
  rw [h4] at h3
  unfold E_C
  rw [if_pos (a_rok_ok h.1 hg)]
  exact h3

