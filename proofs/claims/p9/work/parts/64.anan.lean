section ATREE
variable {W : AW} {call : Nat → List AV → Option AV} {jmp : Nat → AE → Bool} {rho : AV} {g : Nat → Int} {v : Nat}
theorem a_tree_ok (hC : a_CALL W call) (hJ : ∀ l E, jmp l E = true → ∀ L M, a_E g E L → a_M M → a_OUT W rho M (E_V v l L M)) : ∀ (k : Nat) (t : e_X), SizeOf.sizeOf t ≤ k → ∀ E, a_tree W call jmp rho t E = true → ∀ L M, a_E g E L → a_M M → a_OUT W rho M (e_tv E_C (E_V v) t L M) := by
  intro k
  induction k with
  | zero => intro t ht; cases t <;> simp at ht
  | succ k ih =>
    intro t ht E h L M hE hM
    cases t with
    | num c => simp [a_tree] at h
    | var c => simp [a_tree] at h
    | mulR e c => simp [a_tree] at h
    | neg e => simp [a_tree] at h
    | mulL c e =>
      simp at ht
      unfold a_tree at h
      unfold e_tv
      split at h
      · rename_i hk
        rw [if_pos hk]
        exact ih e (by omega) E h L M hE hM
      rename_i n0
      rw [if_neg n0]
      split at h
      · rename_i hk
        rw [if_pos hk]
        split at h
        · rename_i x p q hx
          obtain ⟨xs, M1, e1, e2, e3, e4, -⟩ := a_ex_ok (g := g) hC e E _ hx L M hE hM
          obtain ⟨y, rfl, hy⟩ := a_gs_1 e2
          rw [e1]
          exact ⟨y, M1, rfl, a_leq_ok h hy, e3, e4⟩
        · cases h
      rename_i n1
      rw [if_neg n1]
      split at h
      · rename_i hk
        rw [if_pos hk]
        exact ⟨0, M, rfl, a_leq_ok h (a_gi (Int.le_refl _) (Int.le_refl _)), hM, a_fr_rf⟩
      rename_i n2
      rw [if_neg n2]
      split at h
      · rename_i hk
        subst hk
        rw [if_neg (by decide), if_pos rfl]
        split at h
        · rename_i l
          exact hJ l.toNat E h L M hE hM
        · cases h
      · cases h
    | sub c e =>
      cases e with
      | add a b =>
        simp at ht
        unfold a_tree at h
        split at h
        · cases h
        · rename_i p hp
          rw [Bool.and_eq_true, Bool.and_eq_true] at h
          obtain ⟨⟨hl, ha⟩, hb⟩ := h
          obtain ⟨xs, M1, e1, e2, e3, e4, e5⟩ := a_ex_ok (g := g) hC c E p hp L M hE hM
          obtain ⟨x, rfl⟩ := a_gs_len (of_decide_eq_true hl) e2
          obtain ⟨h5, h6⟩ := e5 x rfl
          unfold e_tv
          rw [e1, Option.bind_some]
          refine a_OUT_tr e4 ?_
          by_cases hx : x = 0
          · rw [if_pos (by rw [hx])]
            have hF := h6 hx
            rw [Bool.or_eq_true] at hb
            rcases hb with hb | hb
            · exact (a_dead_ok hb hF).elim
            · exact ih b (by omega) _ hb L M1 hF e3
          · rw [if_neg (fun q => hx (by cases q; rfl))]
            have hT := h5 hx
            rw [Bool.or_eq_true] at ha
            rcases ha with ha | ha
            · exact (a_dead_ok ha hT).elim
            · exact ih a (by omega) _ ha L M1 hT e3
      | _ => simp [a_tree] at h
    | add s t =>
      simp at ht
      have other : ∀ E', a_st W call s E = some E' → a_tree W call jmp rho t E' = true → a_OUT W rho M (e_tv E_C (E_V v) (.add s t) L M) := by
        intro E' h1 h2
        obtain ⟨L', M', f1, f2, f3, f4⟩ := a_st_ok hC h1 L M hE hM
        unfold e_tv
        rw [f1, Option.bind_some]
        exact a_OUT_tr f4 (ih t (by omega) E' h2 L' M' f2 f3)
      unfold a_tree at h
      split at h
      · rename_i c e
        split at h
        · rename_i hk
          split at h
          · rename_i l hl
            obtain ⟨x, M1, e1, e3, e4, q, hq, hq1, hq2, hq3⟩ := a_alts_ok (g := g) hC e E l hl L M hE hM
            have h1 := List.all_eq_true.mp h q hq
            rw [Bool.and_eq_true, decide_eq_true_eq] at h1
            have hsv : e_sv E_C (.mulL c e) L M = some (L.set (c.toNat - 100) x, M1) := by
              simp only [e_sv, if_neg (show ¬ c = 64 by omega), if_neg (show ¬ c = 65 by omega), if_neg (show ¬ c = 66 by omega), if_neg (show ¬ c = 67 by omega), if_neg (show ¬ c = 68 by omega), if_pos hk, e1, Option.bind_some]
              rfl
            unfold e_tv
            rw [hsv, Option.bind_some]
            refine a_OUT_tr e4 (ih t (by omega) _ h1.2 _ _ ?_ e3)
            generalize hgen : c.toNat - 100 = j at h1
            refine ⟨by rw [List.length_set, List.length_set]; exact hq3.1, fun s hs => ?_⟩
            rw [List.length_set] at hs
            by_cases hsj : s = j
            · subst hsj
              rw [List.getD_eq_getElem?_getD, List.getElem?_set_self hs, List.getD_eq_getElem?_getD, List.getElem?_set_self (by rw [hq3.1]; exact hs)]
              exact ⟨hq1, hq2⟩
            · rw [List.getD_eq_getElem?_getD, List.getElem?_set_ne (Ne.symm hsj), List.getD_eq_getElem?_getD, List.getElem?_set_ne (Ne.symm hsj), ← List.getD_eq_getElem?_getD, ← List.getD_eq_getElem?_getD]
              exact hq3.2 s hs
          · cases h
        · split at h
          · rename_i E' hE'
            exact other E' hE' h
          · cases h
      · split at h
        · rename_i E' hE'
          exact other E' hE' h
        · cases h
end ATREE
theorem a_tle_ok {c : Nat} {g : Nat → Int} {T H : AT} {x : Int} (h : a_tle c T H = true) (hT : ∀ t ∈ T, a_to g x t) : ∀ t ∈ H, t.1 ≠ c → a_to g x t := by
  intro t ht hc
  have h1 := List.all_eq_true.mp h t ht
  rw [Bool.or_eq_true, decide_eq_true_eq] at h1
  rcases h1 with h1 | h1
  · exact absurd h1 hc
  · obtain ⟨u, hu, h2⟩ := List.any_eq_true.mp h1
    simp only [Bool.and_eq_true, decide_eq_true_eq, beq_iff_eq] at h2
    obtain ⟨⟨h3, h4⟩, h5⟩ := h2
    have h6 := hT u hu
    unfold a_to at h6 ⊢
    rw [← h3, ← h4]
    split
    · rename_i hup; rw [if_pos hup] at h6; omega
    · rename_i hup; rw [if_neg hup] at h6; omega
theorem a_to_c {g : Nat → Int} {c : Nat} {y x : Int} {t : Nat × Bool × Int} (h : t.1 ≠ c) : a_to (fun s => if s = c then y else g s) x t = a_to g x t := by
  unfold a_to
  dsimp only
  rw [if_neg h]
/-- what holds but for what is bound to local c's place -/
def a_Ex (c : Nat) (g : Nat → Int) (E : AE) (L : List Int) : Prop := L.length = E.length ∧ ∀ i, i < E.length → a_g (E.getD i (none, [])).1 (L.getD i 0) ∧ ∀ t ∈ (E.getD i (none, [])).2, t.1 ≠ c → a_to g (L.getD i 0) t
theorem a_le_ix {c : Nat} : ∀ {E H : AE}, a_le c E H = true → E.length = H.length ∧ ∀ i, i < E.length → a_leq (E.getD i (none, [])).1 (H.getD i (none, [])).1 = true ∧ a_tle c (E.getD i (none, [])).2 (H.getD i (none, [])).2 = true
  | [], [], _ => ⟨rfl, fun i hi => absurd hi (by simp)⟩
  | p :: E, q :: H, h => by
    unfold a_le at h
    simp only [Bool.and_eq_true] at h
    obtain ⟨⟨h1, h2⟩, h3⟩ := h
    obtain ⟨h4, h5⟩ := a_le_ix h3
    refine ⟨by simp [h4], fun i hi => ?_⟩
    cases i with
    | zero => exact ⟨h1, h2⟩
    | succ i => exact h5 i (by simpa using hi)
  | [], _ :: _, h => by simp [a_le] at h
  | _ :: _, [], h => by simp [a_le] at h
theorem a_le_ok {c : Nat} {g : Nat → Int} {E H : AE} {L : List Int} (h : a_le c E H = true) (hE : a_E g E L) : a_Ex c g H L := by
  obtain ⟨h1, h2⟩ := a_le_ix h
  refine ⟨hE.1.trans h1, fun i hi => ?_⟩
  obtain ⟨h3, h4⟩ := h2 i (by omega)
  obtain ⟨h5, h6⟩ := hE.2 i (by omega)
  exact ⟨a_leq_ok h3 h5, a_tle_ok h4 h6⟩
theorem a_head_len {c : Nat} {up : Bool} {hv : List (Nat × AV × AT)} : ∀ {i : Nat} {E : AE}, (a_head c up hv i E).length = E.length
  | _, [] => rfl
  | i, q :: E => by unfold a_head; simp [a_head_len]
theorem a_head_ix {c : Nat} {up : Bool} {hv : List (Nat × AV × AT)} : ∀ {i : Nat} {E : AE} {j : Nat}, j < E.length → (a_head c up hv i E).getD j (none, []) = (match q_find hv (i + j) with
    | some a => (a.1, if i + j = c then (c, up, 0) :: a.2 else a.2)
    | none => ((E.getD j (none, [])).1, (E.getD j (none, [])).2.filter (fun t => !(t.1 == c))))
  | i, [], j, h => absurd h (by simp)
  | i, q :: E, 0, h => by unfold a_head; rfl
  | i, q :: E, j + 1, h => by
    unfold a_head
    rw [List.getD_cons_succ, List.getD_cons_succ, a_head_ix (by simpa using h), show i + 1 + j = i + (j + 1) by omega]
/-- at a head the counter's own place is now -/
theorem a_head_ok {c : Nat} {up : Bool} {hv : List (Nat × AV × AT)} {g : Nat → Int} {E : AE} {L : List Int} (hhv : hv.all (fun p => p.2.2.all (fun t => decide (t.1 ≠ c))) = true) (h : a_Ex c g (a_head c up hv 0 E) L) : a_E (fun s => if s = c then L.getD c 0 else g s) (a_head c up hv 0 E) L := by
  refine ⟨h.1, fun i hi => ?_⟩
  obtain ⟨h1, h2⟩ := h.2 i hi
  refine ⟨h1, fun t ht => ?_⟩
  by_cases hc : t.1 = c
  · rw [a_head_len] at hi
    rw [a_head_ix hi, Nat.zero_add] at ht
    split at ht
    · rename_i a ha
      have h3 := List.all_eq_true.mp (List.all_eq_true.mp hhv _ (q_find_mem ha))
      dsimp only at ht h3
      split at ht
      · rename_i hic
        rcases List.mem_cons.mp ht with rfl | ht
        · unfold a_to
          dsimp only
          rw [if_pos rfl, hic]
          split <;> omega
        · exact absurd hc (of_decide_eq_true (h3 t ht))
      · exact absurd hc (of_decide_eq_true (h3 t ht))
    · have := (List.mem_filter.mp ht).2
      rw [hc] at this
      simp at this
  · rw [a_to_c hc]
    exact h2 t ht hc
def a_prog (g : Nat → Int) (c : Nat) (up : Bool) (L : List Int) : Prop := if up = true then 1 ≤ L.getD c 0 - g c else 1 ≤ g c - L.getD c 0
theorem a_on_ok {g : Nat → Int} {c : Nat} {up : Bool} {E : AE} {L : List Int} (h : a_on c up E = true) (hE : a_E g E L) : a_prog g c up L := by
  obtain ⟨t, ht, h1⟩ := List.any_eq_true.mp h
  simp only [Bool.and_eq_true, decide_eq_true_eq, beq_iff_eq] at h1
  obtain ⟨⟨h2, h3⟩, h4⟩ := h1
  have h5 := a_E_tags hE c t ht
  unfold a_to at h5
  unfold a_prog
  rw [h2, h3] at h5
  split
  · rename_i hup; rw [if_pos hup] at h5; omega
  · rename_i hup; rw [if_neg hup] at h5; omega
def a_HA (W : AW) (v : Nat) (g : Nat → Int) (A : AA) : Prop := ∀ l q, a_act A l = some q → ∀ L M, a_Ex q.2.1 g q.1 L → a_prog g q.2.1 q.2.2 L → a_M M → a_OUT W (a_rho v) M (E_V v l L M)
theorem a_pd_ok {g : Nat → Int} : ∀ {P : List Nat} {xs : List AV} {as : List Int}, a_gs xs as → (e_pd P as).length = (a_pd P xs).length ∧ ∀ i, i < (a_pd P xs).length → a_g ((a_pd P xs).getD i (none, [])).1 ((e_pd P as).getD i 0) ∧ ∀ t ∈ ((a_pd P xs).getD i (none, [])).2, a_to g ((e_pd P as).getD i 0) t
  | [], [], [], _ => ⟨rfl, fun i hi => absurd hi (by simp [a_pd])⟩
  | [], _ :: _, _ :: _, _ => ⟨rfl, fun i hi => absurd hi (by simp [a_pd])⟩
  | _ :: _, [], [], _ => ⟨rfl, fun i hi => absurd hi (by simp [a_pd])⟩
  | t :: P, x :: xs, a :: as, h => by
    obtain ⟨h1, h2⟩ := a_pd_ok (P := P) h.2
    by_cases ht : t = 1
    · unfold a_pd e_pd
      rw [if_pos ht, if_pos ht]
      refine ⟨by simp [h1], fun i hi => ?_⟩
      match i, hi with
      | 0, _ => exact ⟨h.1, fun t ht => by cases ht⟩
      | 1, _ => exact ⟨a_gi (Int.le_refl _) (Int.le_refl _), fun t ht => by cases ht⟩
      | i + 2, hi => exact h2 i (by simpa using hi)
    · unfold a_pd e_pd
      rw [if_neg ht, if_neg ht]
      refine ⟨by simp [h1], fun i hi => ?_⟩
      match i, hi with
      | 0, _ => exact ⟨h.1, fun t ht => by cases ht⟩
      | i + 1, hi => exact h2 i (by simpa using hi)
theorem a_ent_ok {g : Nat → Int} {u : Nat} {xs : List AV} {as : List Int} (h : a_gs xs as) : a_E g (a_ent u xs) (e_pad u as) := by
  obtain ⟨h1, h2⟩ := a_pd_ok (g := g) (P := e_pt u) h
  unfold a_ent e_pad
  refine ⟨by simp [h1], fun i hi => ?_⟩
  by_cases hlt : i < (a_pd (e_pt u) xs).length
  · rw [List.getD_eq_getElem?_getD, List.getElem?_append_left hlt, List.getD_eq_getElem?_getD, List.getElem?_append_left (by rw [h1]; exact hlt), ← List.getD_eq_getElem?_getD, ← List.getD_eq_getElem?_getD]
    exact h2 i hlt
  · have e1 : (a_pd (e_pt u) xs ++ List.replicate (e_nl u - (a_pd (e_pt u) xs).length) (a_i 0 0, ([] : AT))).getD i (none, []) = (a_i 0 0, []) := by
      rw [List.length_append, List.length_replicate] at hi
      rw [List.getD_eq_getElem?_getD, List.getElem?_append_right (by omega), List.getElem?_replicate, if_pos (by omega)]
      rfl
    have e2 : (e_pd (e_pt u) as ++ List.replicate (e_nl u - (e_pd (e_pt u) as).length) (0 : Int)).getD i 0 = 0 := by
      rw [List.length_append, List.length_replicate] at hi
      rw [List.getD_eq_getElem?_getD, List.getElem?_append_right (by omega), List.getElem?_replicate, if_pos (by omega)]
      rfl
    rw [e1, e2]
    exact ⟨a_gi (Int.le_refl _) (Int.le_refl _), fun t ht => by cases ht⟩
theorem a_rok_ok {u : Nat} {xs : List AV} {as : List Int} (h : a_rok u xs = true) (hg : a_gs xs as) : e_rok u as = true := by
  unfold a_rok at h
  unfold e_rok
  split at h
  · rename_i h1; rw [h1]
  · rename_i ci h1
    rw [h1]
    dsimp only
    split at h
    · rename_i ids t
      obtain ⟨x, xs', rfl, hx, -⟩ := a_gs_c hg
      have := of_decide_eq_true (List.all_eq_true.mp h x hx)
      exact decide_eq_true this
    · cases h
/-- THE ANALYSIS IS RIGHT -/
theorem a_an_ok {W : AW} {orc : Nat → List AV → Option AV} (hO : a_CALL W orc) : ∀ (n v : Nat) (A : AA) (E : AE) (t : e_X), a_an W orc n v A E t = true → ∀ g, a_HA W v g A → ∀ L M, a_E g E L → a_M M → a_OUT W (a_rho v) M (e_tv E_C (E_V v) t L M) := by
  intro n
  induction n with
  | zero => intro v A E t h; cases h
  | succ n ih =>
    intro v A E t h g hA
    unfold a_an at h
    refine a_tree_ok ?_ ?_ (SizeOf.sizeOf t) t (Nat.le_refl _) E h
    · intro u xs r hr as M hg hM
      dsimp only at hr
      split at hr
      · rename_i r2 h2
        cases hr
        exact hO u xs _ h2 as M hg hM
      · split at hr
        · rename_i h2
          cases hr
          rw [Bool.and_eq_true] at h2
          have h3 := ih u [] _ _ h2.2 (fun _ => 0) (fun l q hq => by cases hq) (e_pad u as) M (a_ent_ok hg) hM
          have h4 : e_tv E_C (E_V u) (.mulL 4 (.num 0)) (e_pad u as) M = E_V u 0 (e_pad u as) M := rfl
          rw [h4] at h3
          unfold E_C
          rw [if_pos (a_rok_ok h2.1 hg)]
          exact h3
        · cases hr
    · intro l E1 hl L M hE hM
      try dsimp only at hl
      split at hl
      · rename_i q hq
        rw [Bool.and_eq_true] at hl
        exact hA l q hq L M (a_le_ok hl.1 hE) (a_on_ok hl.2 hE) hM
      · rename_i hno
        split at hl
        · rename_i hd hhd
          obtain ⟨c, up, hv⟩ := hd
          simp only [Bool.and_eq_true] at hl
          obtain ⟨⟨⟨⟨l1, l2⟩, l3⟩, l4⟩, l5⟩ := hl
          have hcnt : ∀ L, a_Ex c g (a_head c up hv 0 E1) L → -2147483648 ≤ L.getD c 0 ∧ L.getD c 0 ≤ 2147483647 := by
            intro L hL
            unfold a_cnt at l3
            split at l3
            · rename_i q hq
              simp only [Bool.and_eq_true, decide_eq_true_eq] at l3
              by_cases hc : c < (a_head c up hv 0 E1).length
              · have h1 := (hL.2 c hc).1
                rw [hq] at h1
                obtain ⟨h2, h3, -⟩ := h1
                omega
              · rw [List.getD_eq_getElem?_getD, List.getElem?_eq_none (by omega)] at hq
                cases hq
            · cases l3
          have key : ∀ m : Nat, ∀ L M, (if up = true then (2147483648 - L.getD c 0).toNat else (L.getD c 0 + 2147483649).toNat) ≤ m → a_Ex c g (a_head c up hv 0 E1) L → a_M M → a_OUT W (a_rho v) M (E_V v l L M) := by
            intro m
            induction m with
            | zero =>
              intro L M hm hL hM
              have := hcnt L hL
              split at hm <;> omega
            | succ m ihm =>
              intro L M hm hL hM
              rw [E_V_eq]
              refine ih v _ _ _ l5 (fun s => if s = c then L.getD c 0 else g s) ?_ L M (a_head_ok l4 hL) hM
              intro l' q' hq' L' M' hL' hp hM'
              unfold a_act at hq'
              by_cases hll : l' = l
              · subst hll
                have e1 : q_find ((l', a_head c up hv 0 E1, c, up) :: A) l' = some (a_head c up hv 0 E1, c, up) := by
                  unfold q_find; simp
                rw [e1] at hq'
                cases hq'
                dsimp only at hL' hp
                have hL2 : a_Ex c g (a_head c up hv 0 E1) L' := by
                  refine ⟨hL'.1, fun i hi => ⟨(hL'.2 i hi).1, fun t ht hc => ?_⟩⟩
                  have := (hL'.2 i hi).2 t ht hc
                  rw [a_to_c hc] at this
                  exact this
                refine ihm L' M' ?_ hL2 hM'
                unfold a_prog at hp
                dsimp only at hp
                rw [if_pos rfl] at hp
                have h1 := hcnt L hL
                have h2 := hcnt L' hL2
                split
                · rename_i hup
                  rw [if_pos hup] at hm hp
                  omega
                · rename_i hup
                  rw [if_neg hup] at hm hp
                  omega
              · have e1 : q_find ((l, a_head c up hv 0 E1, c, up) :: A) l' = q_find A l' := by
                  conv => lhs; unfold q_find
                  have : Nat.beq l l' = false := by
                    cases hb : Nat.beq l l' with
                    | false => rfl
                    | true => exact absurd (Nat.eq_of_beq_eq_true hb).symm hll
                  rw [this]; rfl
                rw [e1] at hq'
                have h1 := List.all_eq_true.mp l2 _ (q_find_mem hq')
                simp only [Bool.and_eq_true, decide_eq_true_eq] at h1
                obtain ⟨h2, h3⟩ := h1
                refine hA l' q' hq' L' M' ⟨hL'.1, fun i hi => ⟨(hL'.2 i hi).1, fun t ht hc => ?_⟩⟩ ?_ hM'
                · have h4 := (hL'.2 i hi).2 t ht hc
                  have h5 : t.1 ≠ c := by
                    rw [List.getD_eq_getElem?_getD, List.getElem?_eq_getElem hi] at ht
                    have h6 := List.all_eq_true.mp h3 _ (List.getElem_mem hi)
                    exact of_decide_eq_true (List.all_eq_true.mp h6 t ht)
                  rw [a_to_c h5] at h4
                  exact h4
                · unfold a_prog at hp ⊢
                  dsimp only at hp
                  rw [if_neg h2] at hp
                  exact hp
          exact key _ L M (Nat.le_refl _) (a_le_ok l1 hE) hM
        · rename_i hhd
          rw [E_V_eq]
          exact ih v A E1 _ hl g hA L M hE hM
/-- an entry -/
theorem a_call_ok {W : AW} {orc : Nat → List AV → Option AV} (hO : a_CALL W orc) {n u : Nat} {xs : List AV} (h : (a_rok u xs && a_an W orc n u [] (a_ent u xs) (.mulL 4 (.num 0))) = true) {as : List Int} {M : EM} (hg : a_gs xs as) (hM : a_M M) : a_OUT W (a_rho u) M (E_C u as M) := by
  rw [Bool.and_eq_true] at h
  have h3 := a_an_ok hO n u [] _ _ h.2 (fun _ => 0) (fun l q hq => by cases hq) (e_pad u as) M (a_ent_ok hg) hM
  have h4 : e_tv E_C (E_V u) (.mulL 4 (.num 0)) (e_pad u as) M = E_V u 0 (e_pad u as) M := rfl
  rw [h4] at h3
  unfold E_C
  rw [if_pos (a_rok_ok h.1 hg)]
  exact h3
