section
section ATREE
variable {W : AW} {call : Nat → List AV → Option AV} {jmp : Nat → AE → Bool} {rho : AV} {g : Nat → Int} {v : Nat}
theorem a_tree_ok (hC : a_CALL W call) (hJ : ∀ l E, jmp l E = true → ∀ L M, a_E g E L → a_M M → a_OUT W rho M (E_V v l L M)) : ∀ (k : Nat) (t : e_X), SizeOf.sizeOf t ≤ k → ∀ E, a_tree W call jmp rho t E = true → ∀ L M, a_E g E L → a_M M → a_OUT W rho M (e_tv E_C (E_V v) t L M) := by
  intro k
  induction k with
  | zero => intro t ht; cases t <;> simp at ht
  | succ k ih =>
    intro t ht E h L M hE hM
    cases t with
    | num c => simp [a_tree] at h
    | var c => simp [a_tree] at h
    | mulR e c => simp [a_tree] at h
    | neg e => simp [a_tree] at h
    | mulL c e =>
      simp at ht
      unfold a_tree at h
      unfold e_tv
      split at h
      · rename_i hk
        rw [if_pos hk]
        exact ih e (by omega) E h L M hE hM
      rename_i n0
      rw [if_neg n0]
      split at h
      · rename_i hk
        rw [if_pos hk]
        split at h
        · rename_i x p q hx
          obtain ⟨xs, M1, e1, e2, e3, e4, -⟩ := a_ex_ok (g := g) hC e E _ hx L M hE hM
          obtain ⟨y, rfl, hy⟩ := a_gs_1 e2
          rw [e1]
          exact ⟨y, M1, rfl, a_leq_ok h hy, e3, e4⟩
        · cases h
      rename_i n1
      rw [if_neg n1]
      split at h
      · rename_i hk
        rw [if_pos hk]
        exact ⟨0, M, rfl, a_leq_ok h (a_gi (Int.le_refl _) (Int.le_refl _)), hM, a_fr_rf⟩
      rename_i n2
      rw [if_neg n2]
      split at h
      · rename_i hk
        subst hk
        rw [if_neg (by decide), if_pos rfl]
        split at h
        · rename_i l
          exact hJ l.toNat E h L M hE hM
        · cases h
      · cases h
    | sub c e =>
      cases e with
      | add a b =>
        simp at ht
        unfold a_tree at h
        split at h
        · cases h
        · rename_i p hp
          rw [Bool.and_eq_true, Bool.and_eq_true] at h
          obtain ⟨⟨hl, ha⟩, hb⟩ := h
          obtain ⟨xs, M1, e1, e2, e3, e4, e5⟩ := a_ex_ok (g := g) hC c E p hp L M hE hM
          obtain ⟨x, rfl⟩ := a_gs_len (of_decide_eq_true hl) e2
          obtain ⟨h5, h6⟩ := e5 x rfl
          unfold e_tv
          rw [e1, Option.bind_some]
          refine a_OUT_tr e4 ?_
          by_cases hx : x = 0
          · rw [if_pos (by rw [hx])]
            have hF := h6 hx
            rw [Bool.or_eq_true] at hb
            rcases hb with hb | hb
            · exact (a_dead_ok hb hF).elim
            · exact ih b (by omega) _ hb L M1 hF e3
          · rw [if_neg (fun q => hx (by cases q; rfl))]
            have hT := h5 hx
            rw [Bool.or_eq_true] at ha
            rcases ha with ha | ha
            · exact (a_dead_ok ha hT).elim
            · exact ih a (by omega) _ ha L M1 hT e3
      | _ => simp [a_tree] at h
    | add s t =>
      simp at ht
      have other : ∀ E', a_st W call s E = some E' → a_tree W call jmp rho t E' = true → a_OUT W rho M (e_tv E_C (E_V v) (.add s t) L M) := by
        intro E' h1 h2
        obtain ⟨L', M', f1, f2, f3, f4⟩ := a_st_ok hC h1 L M hE hM
        unfold e_tv
        rw [f1, Option.bind_some]
        exact a_OUT_tr f4 (ih t (by omega) E' h2 L' M' f2 f3)
      unfold a_tree at h
      split at h
      · rename_i c e
        split at h
        · rename_i hk
          split at h
          · rename_i l hl
            obtain ⟨x, M1, e1, e3, e4, q, hq, hq1, hq2, hq3⟩ := a_alts_ok (g := g) hC e E l hl L M hE hM
            have h1 := List.all_eq_true.mp h q hq
            rw [Bool.and_eq_true, decide_eq_true_eq] at h1
            have hsv : e_sv E_C (.mulL c e) L M = some (L.set (c.toNat - 100) x, M1) := by
              simp only [e_sv, if_neg (show ¬ c = 64 by omega), if_neg (show ¬ c = 65 by omega), if_neg (show ¬ c = 66 by omega), if_neg (show ¬ c = 67 by omega), if_neg (show ¬ c = 68 by omega), if_pos hk, e1, Option.bind_some]
              rfl
            unfold e_tv
            rw [hsv, Option.bind_some]
            refine a_OUT_tr e4 (ih t (by omega) _ h1.2 _ _ ?_ e3)
            generalize hgen : c.toNat - 100 = j at h1
            refine ⟨by rw [List.length_set, List.length_set]; exact hq3.1, fun s hs => ?_⟩
            rw [List.length_set] at hs
            by_cases hsj : s = j
            · subst hsj
              rw [List.getD_eq_getElem?_getD, List.getElem?_set_self hs, List.getD_eq_getElem?_getD, List.getElem?_set_self (by rw [hq3.1]; exact hs)]
              exact ⟨hq1, hq2⟩
            · rw [List.getD_eq_getElem?_getD, List.getElem?_set_ne (Ne.symm hsj), List.getD_eq_getElem?_getD, List.getElem?_set_ne (Ne.symm hsj), ← List.getD_eq_getElem?_getD, ← List.getD_eq_getElem?_getD]
              exact hq3.2 s hs
          · cases h
        · split at h
          · rename_i E' hE'
            exact other E' hE' h
          · cases h
      · split at h
        · rename_i E' hE'
          exact other E' hE' h
        · cases h
end ATREE
theorem a_tle_ok {c : Nat} {g : Nat → Int} {T H : AT} {x : Int} (h : a_tle c T H = true) (hT : ∀ t ∈ T, a_to g x t) : ∀ t ∈ H, t.1 ≠ c → a_to g x t := by
  intro t ht hc
  have h1 := List.all_eq_true.mp h t ht
  rw [Bool.or_eq_true, decide_eq_true_eq] at h1
  rcases h1 with h1 | h1
  · exact absurd h1 hc
  · obtain ⟨u, hu, h2⟩ := List.any_eq_true.mp h1
    simp only [Bool.and_eq_true, decide_eq_true_eq, beq_iff_eq] at h2
    obtain ⟨⟨h3, h4⟩, h5⟩ := h2
    have h6 := hT u hu
    unfold a_to at h6 ⊢
    rw [← h3, ← h4]
    split
    · rename_i hup; rw [if_pos hup] at h6; omega
    · rename_i hup; rw [if_neg hup] at h6; omega
theorem a_to_c {g : Nat → Int} {c : Nat} {y x : Int} {t : Nat × Bool × Int} (h : t.1 ≠ c) : a_to (fun s => if s = c then y else g s) x t = a_to g x t := by
  unfold a_to
  dsimp only
  rw [if_neg h]
/-- what holds but for what is bound to local c's place -/
def a_Ex (c : Nat) (g : Nat → Int) (E : AE) (L : List Int) : Prop := L.length = E.length ∧ ∀ i, i < E.length → a_g (E.getD i (none, [])).1 (L.getD i 0) ∧ ∀ t ∈ (E.getD i (none, [])).2, t.1 ≠ c → a_to g (L.getD i 0) t
theorem a_le_ix {c : Nat} : ∀ {E H : AE}, a_le c E H = true → E.length = H.length ∧ ∀ i, i < E.length → a_leq (E.getD i (none, [])).1 (H.getD i (none, [])).1 = true ∧ a_tle c (E.getD i (none, [])).2 (H.getD i (none, [])).2 = true
  | [], [], _ => ⟨rfl, fun i hi => absurd hi (by simp)⟩
  | p :: E, q :: H, h => by
    unfold a_le at h
    simp only [Bool.and_eq_true] at h
    obtain ⟨⟨h1, h2⟩, h3⟩ := h
    obtain ⟨h4, h5⟩ := a_le_ix h3
    refine ⟨by simp [h4], fun i hi => ?_⟩
    cases i with
    | zero => exact ⟨h1, h2⟩
    | succ i => exact h5 i (by simpa using hi)
  | [], _ :: _, h => by simp [a_le] at h
  | _ :: _, [], h => by simp [a_le] at h
theorem a_le_ok {c : Nat} {g : Nat → Int} {E H : AE} {L : List Int} (h : a_le c E H = true) (hE : a_E g E L) : a_Ex c g H L := by
  obtain ⟨h1, h2⟩ := a_le_ix h
  refine ⟨hE.1.trans h1, fun i hi => ?_⟩
  obtain ⟨h3, h4⟩ := h2 i (by omega)
  obtain ⟨h5, h6⟩ := hE.2 i (by omega)
  exact ⟨a_leq_ok h3 h5, a_tle_ok h4 h6⟩
theorem a_head_len {c : Nat} {up : Bool} {hv : List (Nat × AV × AT)} : ∀ {i : Nat} {E : AE}, (a_head c up hv i E).length = E.length
  | _, [] => rfl
  | i, q :: E => by unfold a_head; simp [a_head_len]
theorem a_head_ix {c : Nat} {up : Bool} {hv : List (Nat × AV × AT)} : ∀ {i : Nat} {E : AE} {j : Nat}, j < E.length → (a_head c up hv i E).getD j (none, []) = (match q_find hv (i + j) with
    | some a => (a.1, if i + j = c then (c, up, 0) :: a.2 else a.2)
    | none => ((E.getD j (none, [])).1, (E.getD j (none, [])).2.filter (fun t => !(t.1 == c))))
  | i, [], j, h => absurd h (by simp)
  | i, q :: E, 0, h => by unfold a_head; rfl
  | i, q :: E, j + 1, h => by
    unfold a_head
    rw [List.getD_cons_succ, List.getD_cons_succ, a_head_ix (by simpa using h), show i + 1 + j = i + (j + 1) by omega]
/-- at a head the counter's own place is now -/
theorem a_head_ok {c : Nat} {up : Bool} {hv : List (Nat × AV × AT)} {g : Nat → Int} {E : AE} {L : List Int} (hhv : hv.all (fun p => p.2.2.all (fun t => decide (t.1 ≠ c))) = true) (h : a_Ex c g (a_head c up hv 0 E) L) : a_E (fun s => if s = c then L.getD c 0 else g s) (a_head c up hv 0 E) L := by
  refine ⟨h.1, fun i hi => ?_⟩
  obtain ⟨h1, h2⟩ := h.2 i hi
  refine ⟨h1, fun t ht => ?_⟩
  by_cases hc : t.1 = c
  · rw [a_head_len] at hi
    rw [a_head_ix hi, Nat.zero_add] at ht
    split at ht
    · rename_i a ha
      have h3 := List.all_eq_true.mp (List.all_eq_true.mp hhv _ (q_find_mem ha))
      dsimp only at ht h3
      split at ht
      · rename_i hic
        rcases List.mem_cons.mp ht with rfl | ht
        · unfold a_to
          dsimp only
          rw [if_pos rfl, hic]
          split <;> omega
        · exact absurd hc (of_decide_eq_true (h3 t ht))
      · exact absurd hc (of_decide_eq_true (h3 t ht))
    · have := (List.mem_filter.mp ht).2
      rw [hc] at this
      simp at this
  · rw [a_to_c hc]
    exact h2 t ht hc
def a_prog (g : Nat → Int) (c : Nat) (up : Bool) (L : List Int) : Prop := if up = true then 1 ≤ L.getD c 0 - g c else 1 ≤ g c - L.getD c 0
theorem a_on_ok {g : Nat → Int} {c : Nat} {up : Bool} {E : AE} {L : List Int} (h : a_on c up E = true) (hE : a_E g E L) : a_prog g c up L := by
  obtain ⟨t, ht, h1⟩ := List.any_eq_true.mp h
  simp only [Bool.and_eq_true, decide_eq_true_eq, beq_iff_eq] at h1
  obtain ⟨⟨h2, h3⟩, h4⟩ := h1
  have h5 := a_E_tags hE c t ht
  unfold a_to at h5
  unfold a_prog
  rw [h2, h3] at h5
  split
  · rename_i hup; rw [if_pos hup] at h5; omega
  · rename_i hup; rw [if_neg hup] at h5; omega
def a_HA (W : AW) (v : Nat) (g : Nat → Int) (A : AA) : Prop := ∀ l q, a_act A l = some q → ∀ L M, a_Ex q.2.1 g q.1 L → a_prog g q.2.1 q.2.2 L → a_M M → a_OUT W (a_rho v) M (E_V v l L M)
theorem a_pd_ok {g : Nat → Int} : ∀ {P : List Nat} {xs : List AV} {as : List Int}, a_gs xs as → (e_pd P as).length = (a_pd P xs).length ∧ ∀ i, i < (a_pd P xs).length → a_g ((a_pd P xs).getD i (none, [])).1 ((e_pd P as).getD i 0) ∧ ∀ t ∈ ((a_pd P xs).getD i (none, [])).2, a_to g ((e_pd P as).getD i 0) t
  | [], [], [], _ => ⟨rfl, fun i hi => absurd hi (by simp [a_pd])⟩
  | [], _ :: _, _ :: _, _ => ⟨rfl, fun i hi => absurd hi (by simp [a_pd])⟩
  | _ :: _, [], [], _ => ⟨rfl, fun i hi => absurd hi (by simp [a_pd])⟩
  | t :: P, x :: xs, a :: as, h => by
    obtain ⟨h1, h2⟩ := a_pd_ok (P := P) h.2
    by_cases ht : t = 1
    · unfold a_pd e_pd
      rw [if_pos ht, if_pos ht]
      refine ⟨by simp [h1], fun i hi => ?_⟩
      match i, hi with
      | 0, _ => exact ⟨h.1, fun t ht => by cases ht⟩
      | 1, _ => exact ⟨a_gi (Int.le_refl _) (Int.le_refl _), fun t ht => by cases ht⟩
      | i + 2, hi => exact h2 i (by simpa using hi)
    · unfold a_pd e_pd
      rw [if_neg ht, if_neg ht]
      refine ⟨by simp [h1], fun i hi => ?_⟩
      match i, hi with
      | 0, _ => exact ⟨h.1, fun t ht => by cases ht⟩
      | i + 1, hi => exact h2 i (by simpa using hi)
theorem a_ent_ok {g : Nat → Int} {u : Nat} {xs : List AV} {as : List Int} (h : a_gs xs as) : a_E g (a_ent u xs) (e_pad u as) := by
  obtain ⟨h1, h2⟩ := a_pd_ok (g := g) (P := e_pt u) h
  unfold a_ent e_pad
  refine ⟨by simp [h1], fun i hi => ?_⟩
  by_cases hlt : i < (a_pd (e_pt u) xs).length
  · rw [List.getD_eq_getElem?_getD, List.getElem?_append_left hlt, List.getD_eq_getElem?_getD, List.getElem?_append_left (by rw [h1]; exact hlt), ← List.getD_eq_getElem?_getD, ← List.getD_eq_getElem?_getD]
    exact h2 i hlt
  · have e1 : (a_pd (e_pt u) xs ++ List.replicate (e_nl u - (a_pd (e_pt u) xs).length) (a_i 0 0, ([] : AT))).getD i (none, []) = (a_i 0 0, []) := by
      rw [List.length_append, List.length_replicate] at hi
      rw [List.getD_eq_getElem?_getD, List.getElem?_append_right (by omega), List.getElem?_replicate, if_pos (by omega)]
      rfl
    have e2 : (e_pd (e_pt u) as ++ List.replicate (e_nl u - (e_pd (e_pt u) as).length) (0 : Int)).getD i 0 = 0 := by
      rw [List.length_append, List.length_replicate] at hi
      rw [List.getD_eq_getElem?_getD, List.getElem?_append_right (by omega), List.getElem?_replicate, if_pos (by omega)]
      rfl
    rw [e1, e2]
    exact ⟨a_gi (Int.le_refl _) (Int.le_refl _), fun t ht => by cases ht⟩
theorem a_rok_ok {u : Nat} {xs : List AV} {as : List Int} (h : a_rok u xs = true) (hg : a_gs xs as) : e_rok u as = true := by
  unfold a_rok at h
  unfold e_rok
  split at h
  · rename_i h1; rw [h1]
  · rename_i ci h1
    rw [h1]
    dsimp only
    split at h
    · rename_i ids t
      obtain ⟨x, xs', rfl, hx, -⟩ := a_gs_c hg
      have := of_decide_eq_true (List.all_eq_true.mp h x hx)
      exact decide_eq_true this
    · cases h
/-- THE ANALYSIS IS RIGHT -/
theorem a_an_ok {W : AW} {orc : Nat → List AV → Option AV} (hO : a_CALL W orc) : ∀ (n v : Nat) (A : AA) (E : AE) (t : e_X), a_an W orc n v A E t = true → ∀ g, a_HA W v g A → ∀ L M, a_E g E L → a_M M → a_OUT W (a_rho v) M (e_tv E_C (E_V v) t L M) := by
  intro n
  induction n with
  | zero => intro v A E t h; cases h
  | succ n ih =>
    intro v A E t h g hA
    unfold a_an at h
    refine a_tree_ok ?_ ?_ (SizeOf.sizeOf t) t (Nat.le_refl _) E h
    · intro u xs r hr as M hg hM
      dsimp only at hr
      split at hr
      · rename_i r2 h2
        cases hr
        exact hO u xs _ h2 as M hg hM
      · split at hr
        · rename_i h2
          cases hr
          rw [Bool.and_eq_true] at h2
          have h3 := ih u [] _ _ h2.2 (fun _ => 0) (fun l q hq => by cases hq) (e_pad u as) M (a_ent_ok hg) hM
          have h4 : e_tv E_C (E_V u) (.mulL 4 (.num 0)) (e_pad u as) M = E_V u 0 (e_pad u as) M := rfl
          rw [h4] at h3
          unfold E_C
          rw [if_pos (a_rok_ok h2.1 hg)]
          exact h3
        · cases hr
    · intro l E1 hl L M hE hM
      try dsimp only at hl
      split at hl
      · rename_i q hq
        rw [Bool.and_eq_true] at hl
        exact hA l q hq L M (a_le_ok hl.1 hE) (a_on_ok hl.2 hE) hM
      · rename_i hno
        split at hl
        · rename_i hd hhd
          obtain ⟨c, up, hv⟩ := hd
          simp only [Bool.and_eq_true] at hl
          obtain ⟨⟨⟨⟨l1, l2⟩, l3⟩, l4⟩, l5⟩ := hl
          have hcnt : ∀ L, a_Ex c g (a_head c up hv 0 E1) L → -2147483648 ≤ L.getD c 0 ∧ L.getD c 0 ≤ 2147483647 := by
            intro L hL
            unfold a_cnt at l3
            split at l3
            · rename_i q hq
              simp only [Bool.and_eq_true, decide_eq_true_eq] at l3
              by_cases hc : c < (a_head c up hv 0 E1).length
              · have h1 := (hL.2 c hc).1
                rw [hq] at h1
                obtain ⟨h2, h3, -⟩ := h1
                omega
              · rw [List.getD_eq_getElem?_getD, List.getElem?_eq_none (by omega)] at hq
                cases hq
            · cases l3
          have key : ∀ m : Nat, ∀ L M, (if up = true then (2147483648 - L.getD c 0).toNat else (L.getD c 0 + 2147483649).toNat) ≤ m → a_Ex c g (a_head c up hv 0 E1) L → a_M M → a_OUT W (a_rho v) M (E_V v l L M) := by
            intro m
            induction m with
            | zero =>
              intro L M hm hL hM
              have := hcnt L hL
              split at hm <;> omega
            | succ m ihm =>
              intro L M hm hL hM
              rw [E_V_eq]
              refine ih v _ _ _ l5 (fun s => if s = c then L.getD c 0 else g s) ?_ L M (a_head_ok l4 hL) hM
              intro l' q' hq' L' M' hL' hp hM'
              unfold a_act at hq'
              by_cases hll : l' = l
              · subst hll
                have e1 : q_find ((l', a_head c up hv 0 E1, c, up) :: A) l' = some (a_head c up hv 0 E1, c, up) := by
                  unfold q_find; simp
                rw [e1] at hq'
                cases hq'
                dsimp only at hL' hp
                have hL2 : a_Ex c g (a_head c up hv 0 E1) L' := by
                  refine ⟨hL'.1, fun i hi => ⟨(hL'.2 i hi).1, fun t ht hc => ?_⟩⟩
                  have := (hL'.2 i hi).2 t ht hc
                  rw [a_to_c hc] at this
                  exact this
                refine ihm L' M' ?_ hL2 hM'
                unfold a_prog at hp
                dsimp only at hp
                rw [if_pos rfl] at hp
                have h1 := hcnt L hL
                have h2 := hcnt L' hL2
                split
                · rename_i hup
                  rw [if_pos hup] at hm hp
                  omega
                · rename_i hup
                  rw [if_neg hup] at hm hp
                  omega
              · have e1 : q_find ((l, a_head c up hv 0 E1, c, up) :: A) l' = q_find A l' := by
                  conv => lhs; unfold q_find
                  have : Nat.beq l l' = false := by
                    cases hb : Nat.beq l l' with
                    | false => rfl
                    | true => exact absurd (Nat.eq_of_beq_eq_true hb).symm hll
                  rw [this]; rfl
                rw [e1] at hq'
                have h1 := List.all_eq_true.mp l2 _ (q_find_mem hq')
                simp only [Bool.and_eq_true, decide_eq_true_eq] at h1
                obtain ⟨h2, h3⟩ := h1
                refine hA l' q' hq' L' M' ⟨hL'.1, fun i hi => ⟨(hL'.2 i hi).1, fun t ht hc => ?_⟩⟩ ?_ hM'
                · have h4 := (hL'.2 i hi).2 t ht hc
                  have h5 : t.1 ≠ c := by
                    rw [List.getD_eq_getElem?_getD, List.getElem?_eq_getElem hi] at ht
                    have h6 := List.all_eq_true.mp h3 _ (List.getElem_mem hi)
                    exact of_decide_eq_true (List.all_eq_true.mp h6 t ht)
                  rw [a_to_c h5] at h4
                  exact h4
                · unfold a_prog at hp ⊢
                  dsimp only at hp
                  rw [if_neg h2] at hp
                  exact hp
          exact key _ L M (Nat.le_refl _) (a_le_ok l1 hE) hM
        · rename_i hhd
          rw [E_V_eq]
          exact ih v A E1 _ hl g hA L M hE hM
/-- an entry -/
theorem a_call_ok {W : AW} {orc : Nat → List AV → Option AV} (hO : a_CALL W orc) {n u : Nat} {xs : List AV} (h : (a_rok u xs && a_an W orc n u [] (a_ent u xs) (.mulL 4 (.num 0))) = true) {as : List Int} {M : EM} (hg : a_gs xs as) (hM : a_M M) : a_OUT W (a_rho u) M (E_C u as M) := by
  rw [Bool.and_eq_true] at h
  have h3 := a_an_ok hO n u [] _ _ h.2 (fun _ => 0) (fun l q hq => by cases hq) (e_pad u as) M (a_ent_ok hg) hM
  have h4 : e_tv E_C (E_V u) (.mulL 4 (.num 0)) (e_pad u as) M = E_V u 0 (e_pad u as) M := rfl
  rw [h4] at h3
  unfold E_C
  rw [if_pos (a_rok_ok h.1 hg)]
  exact h3
end
section
def a_sub (R W : AW) : Bool := R.all (fun r => W.any (fun w => decide (w.1 = r.1) && decide (w.2.1 ≤ r.2.1) && decide (r.2.2 ≤ w.2.2)))
def a_at1 (id : Int) : Option AV := if id = -1 then some (a_i 0 0) else if 0 < id ∧ id.toNat < e_N ∧ (e_sh id.toNat).1 = 100 then some (a_join (a_i 0 0) (a_rd id.toNat 0 ((e_sh id.toNat).2 - 1))) else none
/-- what is known of a few methods beside the analysis: at; the reading of a TEXT; whether there is a CURVE -/
def a_orc1 (W : AW) (u : Nat) (xs : List AV) : Option AV :=
  if u = 146 then (match xs with
    | [some (.inr ids), some (.inl _)] => a_all a_at1 a_join ids
    | _ => none)
  else if u = 59 then (match xs with
    | [some (.inr [r]), some (.inr ids)] => if r = e_RD ∧ ids.all (fun x => a_SH.contains x) = true ∧ a_sub a_RW W = true then some (a_i 0 1) else none
    | _ => none)
  else if u = 36 then (match xs with
    | [some (.inr ids), some (.inl _), some (.inl _)] => if ids.all (fun x => decide (e_isO 1 x)) = true then some (a_i 0 1) else none
    | _ => none)
  else none
end
section
def a_w104 : AW := [(10, 0, 0), (11, 0, 39), (12, 0, 39), (13, 0, 39), (14, 0, 39), (15, 0, 319), (16, 0, 319), (17, 0, 319), (19, 0, 239), (20, 0, 239), (21, 0, 159), (22, 0, 39), (23, 0, 39), (24, 0, 39), (37, 0, 4), (38, 0, 4), (39, 0, 4), (40, 0, 4), (41, 0, 4), (42, 0, 4), (43, 0, 4), (44, 0, 4), (45, 0, 4), (46, 0, 4), (47, 0, 4), (48, 0, 4), (49, 0, 4), (50, 0, 4), (51, 0, 4), (52, 0, 4), (53, 0, 4), (54, 0, 4), (55, 0, 4), (56, 0, 4), (57, 0, 4), (58, 0, 4), (59, 0, 4), (60, 0, 4), (61, 0, 4), (62, 0, 4), (63, 0, 4), (64, 0, 4), (65, 0, 4), (66, 0, 4), (67, 0, 4), (68, 0, 4), (69, 0, 4), (70, 0, 4), (71, 0, 4), (72, 0, 4), (73, 0, 4), (74, 0, 4), (75, 0, 4), (76, 0, 4), (162, 0, 15), (163, 0, 119), (164, 0, 119), (165, 0, 120), (166, 0, 119), (167, 0, 119), (168, 0, 119), (169, 0, 119)]
def a_x104 : List AV := [a_r [8], a_i (-2147483648) 2147483647]
def a_w105 : AW := [(170, 0, 7), (171, 0, 6), (172, 0, 39), (173, 0, 39), (174, 0, 39), (175, 0, 159), (176, 0, 39)]
def a_x105 : List AV := [a_r [8], a_i (-2147483648) 2147483647, a_i (-2147483648) 2147483647]
def a_w106 : AW := [(170, 0, 7), (171, 0, 6), (172, 0, 39), (173, 0, 39), (174, 0, 39), (175, 0, 159), (176, 0, 39), (177, 0, 239), (178, 0, 239)]
def a_x106 : List AV := [a_r [8], a_i (-2147483648) 2147483647, a_i (-2147483648) 2147483647, a_i (-2147483648) 2147483647]
def a_w107 : AW := [(21, 0, 159)]
def a_x107 : List AV := [a_r [8], a_i (-2147483648) 2147483647, a_i (-2147483648) 2147483647, a_i (-2147483648) 2147483647]
def a_w108 : AW := [(22, 0, 39)]
def a_x108 : List AV := [a_r [8], a_i (-2147483648) 2147483647, a_i 0 1]
def a_w110 : AW := [(170, 0, 7), (171, 0, 6), (172, 0, 39), (173, 0, 39), (174, 0, 39), (175, 0, 159), (176, 0, 39), (177, 0, 239), (178, 0, 239), (179, 0, 4039), (180, 0, 99), (181, 0, 999)]
def a_x110 : List AV := [a_r [8], a_i (-2147483648) 2147483647, a_i (-2147483648) 2147483647]
def a_w111 : AW := [(170, 0, 7), (171, 0, 6), (172, 0, 39), (173, 0, 39), (174, 0, 39), (175, 0, 159), (176, 0, 39), (177, 0, 239), (178, 0, 239), (179, 0, 4039), (180, 0, 99), (181, 0, 999)]
def a_x111 : List AV := [a_r [8], a_i (-2147483648) 2147483647, a_i (-2147483648) 2147483647]
def a_w112 : AW := [(170, 0, 7), (171, 0, 6), (172, 0, 39), (173, 0, 39), (174, 0, 39), (175, 0, 159), (176, 0, 39), (177, 0, 239), (178, 0, 239), (179, 0, 4039), (180, 0, 99), (181, 0, 999)]
def a_x112 : List AV := [a_r [8], a_i (-2147483648) 2147483647, a_i (-2147483648) 2147483647]
def a_w113 : AW := [(170, 0, 7), (171, 0, 6), (172, 0, 39), (173, 0, 39), (174, 0, 39), (175, 0, 159), (176, 0, 39), (177, 0, 239), (178, 0, 239), (179, 0, 4039)]
def a_x113 : List AV := [a_r [8], a_i (-2147483648) 2147483647, a_i (-2147483648) 2147483647, a_i (-2147483648) 2147483647]
def a_w114 : AW := [(37, 0, 4), (38, 0, 4), (39, 0, 4), (40, 0, 4), (41, 0, 4), (42, 0, 4), (43, 0, 4), (44, 0, 4), (45, 0, 4), (46, 0, 4), (47, 0, 4), (48, 0, 4), (49, 0, 4), (50, 0, 4), (51, 0, 4), (52, 0, 4), (53, 0, 4), (54, 0, 4), (55, 0, 4), (56, 0, 4), (57, 0, 4), (58, 0, 4), (59, 0, 4), (60, 0, 4), (61, 0, 4), (62, 0, 4), (63, 0, 4), (64, 0, 4), (65, 0, 4), (66, 0, 4), (67, 0, 4), (68, 0, 4), (69, 0, 4), (70, 0, 4), (71, 0, 4), (72, 0, 4), (73, 0, 4), (74, 0, 4), (75, 0, 4), (76, 0, 4)]
def a_x114 : List AV := [a_r [8], a_i (-2147483648) 2147483647, a_i (-2147483648) 2147483647, a_i (-2147483648) 2147483647]
def a_w115 : AW := [(37, 0, 4), (38, 0, 4), (39, 0, 4), (40, 0, 4), (41, 0, 4), (42, 0, 4), (43, 0, 4), (44, 0, 4), (45, 0, 4), (46, 0, 4), (47, 0, 4), (48, 0, 4), (49, 0, 4), (50, 0, 4), (51, 0, 4), (52, 0, 4), (53, 0, 4), (54, 0, 4), (55, 0, 4), (56, 0, 4), (57, 0, 4), (58, 0, 4), (59, 0, 4), (60, 0, 4), (61, 0, 4), (62, 0, 4), (63, 0, 4), (64, 0, 4), (65, 0, 4), (66, 0, 4), (67, 0, 4), (68, 0, 4), (69, 0, 4), (70, 0, 4), (71, 0, 4), (72, 0, 4), (73, 0, 4), (74, 0, 4), (75, 0, 4), (76, 0, 4), (170, 0, 7), (171, 0, 6), (172, 0, 39), (173, 0, 39), (174, 0, 39), (175, 0, 159), (176, 0, 39), (177, 0, 239), (178, 0, 239), (179, 0, 4039), (180, 0, 99), (181, 0, 999)]
def a_x115 : List AV := [a_r [8], a_i (-2147483648) 2147483647, a_i (-2147483648) 2147483647]
def a_w116 : AW := [(170, 0, 7), (171, 0, 6), (172, 0, 39), (173, 0, 39), (174, 0, 39), (175, 0, 159), (176, 0, 39), (177, 0, 239), (178, 0, 239), (179, 0, 4039), (180, 0, 99), (181, 0, 999), (182, 0, 4)]
def a_x116 : List AV := [a_r [8], a_i (-2147483648) 2147483647, a_i (-2147483648) 2147483647, a_i (-2147483648) 2147483647]
def a_w117 : AW := [(23, 0, 39), (24, 0, 39)]
def a_x117 : List AV := [a_r [8], a_i (-2147483648) 2147483647, a_i (-2147483648) 2147483647, a_i (-2147483648) 2147483647]
def a_w118 : AW := [(27, 0, 9), (28, 0, 9), (29, 0, 9)]
def a_x118 : List AV := [a_r [8], a_i (-2147483648) 2147483647, a_i (-2147483648) 2147483647, a_i (-2147483648) 2147483647, a_i (-2147483648) 2147483647]
def a_w119 : AW := [(30, 0, 11), (31, 0, 11)]
def a_x119 : List AV := [a_r [8], a_i (-2147483648) 2147483647, a_i (-2147483648) 2147483647, a_i (-2147483648) 2147483647]
def a_w120 : AW := [(191, 0, 239)]
def a_x120 : List AV := [a_r [8], a_i (-2147483648) 2147483647, a_i (-2147483648) 2147483647]
def a_w121 : AW := [(26, 6, 7), (32, 0, 119)]
def a_x121 : List AV := [a_r [8], a_i (-2147483648) 2147483647]
def a_w122 : AW := []
def a_x122 : List AV := [a_r [8], a_i (-2147483648) 2147483647, a_i (-2147483648) 2147483647]
def a_w123 : AW := [(170, 0, 7), (171, 0, 6), (172, 0, 39), (173, 0, 39), (174, 0, 39), (175, 0, 159), (176, 0, 39), (177, 0, 239), (178, 0, 239), (179, 0, 4039), (180, 0, 99), (181, 0, 999), (191, 0, 239)]
def a_x123 : List AV := [a_r [8], a_i (-2147483648) 2147483647, a_i (-2147483648) 2147483647, a_i (-2147483648) 2147483647]
def a_w124 : AW := [(170, 0, 7), (171, 0, 6), (172, 0, 39), (173, 0, 39), (174, 0, 39), (175, 0, 159), (176, 0, 39), (177, 0, 239), (178, 0, 239), (179, 0, 4039), (180, 0, 99), (181, 0, 999), (191, 0, 239)]
def a_x124 : List AV := [a_r [8], a_i (-2147483648) 2147483647, a_i (-2147483648) 2147483647]
def a_w125 : AW := [(183, 0, 0), (184, 0, 30), (185, 0, 30), (186, 0, 30)]
def a_x125 : List AV := [a_r [8], a_i (-2147483648) 2147483647, a_i (-2147483648) 2147483647]
def a_w126 : AW := [(183, 0, 0), (184, 0, 30), (185, 0, 30), (186, 0, 30)]
def a_x126 : List AV := [a_r [8], a_i (-2147483648) 2147483647, a_i (-2147483648) 2147483647, a_i (-2147483648) 2147483647]
def a_w128 : AW := [(34, 0, 11), (35, 0, 11)]
def a_x128 : List AV := [a_r [8], a_i (-2147483648) 2147483647, a_i (-2147483648) 2147483647]
def a_w129 : AW := [(33, 2, 2)]
def a_x129 : List AV := [a_r [8], a_i (-2147483648) 2147483647]
def a_w130 : AW := [(36, 0, 402)]
def a_x130 : List AV := [a_r [8], a_i (-2147483648) 2147483647]
def a_w131 : AW := [(170, 0, 7), (171, 0, 6), (172, 0, 39), (173, 0, 39), (174, 0, 39), (175, 0, 159), (176, 0, 39), (177, 0, 239), (178, 0, 239), (179, 0, 4039), (180, 0, 99), (181, 0, 999)]
def a_x131 : List AV := [a_r [8], a_i (-2147483648) 2147483647, a_i (-2147483648) 2147483647]
def a_w133 : AW := [(170, 0, 7), (171, 0, 6), (172, 0, 39), (173, 0, 39), (174, 0, 39), (175, 0, 159), (176, 0, 39)]
def a_x133 : List AV := [a_r [8], a_i (-2147483648) 2147483647]
def a_w134 : AW := [(170, 0, 7), (171, 0, 6), (172, 0, 39), (173, 0, 39), (174, 0, 39), (175, 0, 159), (176, 0, 39), (177, 0, 239), (178, 0, 239), (179, 0, 4039), (180, 0, 99), (181, 0, 999), (187, 0, 0), (188, 0, 80), (189, 0, 9800)]
def a_x134 : List AV := [a_r [8], a_i (-2147483648) 2147483647, a_i (-2147483648) 2147483647, a_i (-2147483648) 2147483647]
def a_w135 : AW := [(170, 0, 7), (171, 0, 6), (172, 0, 39), (173, 0, 39), (174, 0, 39), (175, 0, 159), (176, 0, 39), (177, 0, 239), (178, 0, 239), (179, 0, 4039), (180, 0, 99), (181, 0, 999), (187, 0, 0), (188, 0, 80), (189, 0, 9800), (190, 0, 599)]
def a_x135 : List AV := [a_r [8], a_i (-2147483648) 2147483647, a_i (-2147483648) 2147483647]
def a_w136 : AW := [(8, 2, 2), (78, 0, 0), (79, 0, 39), (80, 0, 39), (81, 0, 39), (82, 0, 39), (83, 0, 319), (84, 0, 319), (85, 0, 319), (87, 0, 239), (88, 0, 239), (89, 0, 159), (90, 0, 39), (91, 0, 39), (92, 0, 39), (94, 6, 7), (95, 0, 9), (96, 0, 9), (97, 0, 9), (98, 0, 11), (99, 0, 11), (100, 0, 119), (101, 2, 2), (102, 0, 11), (103, 0, 11), (105, 0, 4), (106, 0, 4), (107, 0, 4), (108, 0, 4), (109, 0, 4), (110, 0, 4), (111, 0, 4), (112, 0, 4), (113, 0, 4), (114, 0, 4), (115, 0, 4), (116, 0, 4), (117, 0, 4), (118, 0, 4), (119, 0, 4), (120, 0, 4), (121, 0, 4), (122, 0, 4), (123, 0, 4), (124, 0, 4), (125, 0, 4), (126, 0, 4), (127, 0, 4), (128, 0, 4), (129, 0, 4), (130, 0, 4), (131, 0, 4), (132, 0, 4), (133, 0, 4), (134, 0, 4), (135, 0, 4), (136, 0, 4), (137, 0, 4), (138, 0, 4), (139, 0, 4), (140, 0, 4), (141, 0, 4), (142, 0, 4), (143, 0, 4), (144, 0, 4)]
def a_x136 : List AV := [a_r [8]]
def a_w137 : AW := [(10, 0, 0), (11, 0, 39), (12, 0, 39), (13, 0, 39), (14, 0, 39), (15, 0, 319), (16, 0, 319), (17, 0, 319), (19, 0, 239), (20, 0, 239), (21, 0, 159), (22, 0, 39), (23, 0, 39), (24, 0, 39), (26, 6, 7), (27, 0, 9), (28, 0, 9), (29, 0, 9), (30, 0, 11), (31, 0, 11), (32, 0, 119), (33, 2, 2), (34, 0, 11), (35, 0, 11), (37, 0, 4), (38, 0, 4), (39, 0, 4), (40, 0, 4), (41, 0, 4), (42, 0, 4), (43, 0, 4), (44, 0, 4), (45, 0, 4), (46, 0, 4), (47, 0, 4), (48, 0, 4), (49, 0, 4), (50, 0, 4), (51, 0, 4), (52, 0, 4), (53, 0, 4), (54, 0, 4), (55, 0, 4), (56, 0, 4), (57, 0, 4), (58, 0, 4), (59, 0, 4), (60, 0, 4), (61, 0, 4), (62, 0, 4), (63, 0, 4), (64, 0, 4), (65, 0, 4), (66, 0, 4), (67, 0, 4), (68, 0, 4), (69, 0, 4), (70, 0, 4), (71, 0, 4), (72, 0, 4), (73, 0, 4), (74, 0, 4), (75, 0, 4), (76, 0, 4)]
def a_x137 : List AV := [a_r [8]]
def a_w138 : AW := []
def a_x138 : List AV := [a_r [8], a_i (-2147483648) 2147483647]
def a_w139 : AW := [(146, 0, 3), (148, 0, 3), (150, 0, 3), (152, 0, 3), (154, 0, 3), (156, 0, 3), (158, 0, 3), (160, 0, 3), (170, 0, 7), (171, 0, 6), (172, 0, 39), (173, 0, 39), (174, 0, 39), (175, 0, 159), (176, 0, 39), (177, 0, 239), (178, 0, 239), (179, 0, 4039), (180, 0, 99), (181, 0, 999)]
def a_x139 : List AV := [a_r [8], a_i (-2147483648) 2147483647, a_i (-2147483648) 2147483647, a_i (-2147483648) 2147483647]
def a_w140 : AW := [(146, 0, 5), (147, 0, 119), (148, 0, 5), (149, 0, 119), (150, 0, 5), (151, 0, 119), (152, 0, 5), (153, 0, 119), (154, 0, 5), (155, 0, 119), (156, 0, 5), (157, 0, 119), (158, 0, 5), (159, 0, 119), (160, 0, 5), (161, 0, 119)]
def a_x140 : List AV := [a_r [8], a_i (-2147483648) 2147483647, a_i (-2147483648) 2147483647, a_i (-2147483648) 2147483647]
def a_w141 : AW := [(147, 0, 119), (149, 0, 119), (151, 0, 119), (153, 0, 119), (155, 0, 119), (157, 0, 119), (159, 0, 119), (161, 0, 119)]
def a_x141 : List AV := [a_r [8], a_i (-2147483648) 2147483647, a_i (-2147483648) 2147483647, a_i (-2147483648) 2147483647]
def a_w144 : AW := []
def a_x144 : List AV := [a_r [8], a_i (-2147483648) 2147483647]
def a_w145 : AW := []
def a_x145 : List AV := [a_r [8], a_i (-2147483648) 2147483647]
def a_w1 : AW := [(170, 0, 7), (171, 0, 6), (172, 0, 39), (173, 0, 39), (174, 0, 39), (175, 0, 159), (176, 0, 39)]
def a_x1 : List AV := [a_r [170], a_i (-2147483648) 2147483647]
def a_w16 : AW := [(170, 6, 6), (177, 0, 239), (178, 0, 239), (179, 0, 4039), (180, 0, 99), (181, 0, 999)]
def a_x16 : List AV := [a_r [170], a_i (-2147483648) 2147483647]
def a_w149 : AW := []
def a_x149 : List AV := [a_r [8], a_i (-2147483648) 2147483647]
def a_w160 : AW := [(170, 0, 7), (171, 0, 6), (172, 0, 39), (173, 0, 39), (174, 0, 39), (175, 0, 159), (176, 0, 39), (177, 0, 239), (178, 0, 239), (179, 0, 4039), (180, 0, 99), (181, 0, 999)]
def a_x160 : List AV := [a_r [8], a_i (-2147483648) 2147483647, a_i (-2147483648) 2147483647]
def a_w154 : AW := []
def a_x154 : List AV := [a_r [8], a_i (-2147483648) 2147483647]
def a_w156 : AW := []
def a_x156 : List AV := [a_r [(-1), 146, 148, 150, 152, 154, 156, 158, 160], a_i (-2147483648) 2147483647]
def a_w163 : AW := []
def a_x163 : List AV := [a_r [8], a_r [146, 148, 150, 152, 154, 156, 158, 160]]
def a_w60 : AW := [(162, 2, 8), (163, 0, 119), (164, 0, 119), (165, 0, 120), (166, 0, 119), (167, 0, 119), (168, 0, 119), (169, 0, 119)]
def a_x60 : List AV := [a_r [162], a_i (-2147483648) 2147483647]
def a_w3 : AW := [(170, 0, 5), (172, 0, 39)]
def a_x3 : List AV := [a_r [170]]
def a_w5 : AW := [(170, 0, 0), (173, 0, 39), (174, 0, 39), (175, 0, 159), (176, 0, 39)]
def a_x5 : List AV := [a_r [170], a_i (-2147483648) 2147483647, a_i (-2147483648) 2147483647]
def a_w11 : AW := [(177, 0, 239), (178, 0, 239), (179, 0, 4039)]
def a_x11 : List AV := [a_r [170]]
def a_w28 : AW := [(180, 0, 99), (181, 0, 999)]
def a_x28 : List AV := [a_r [170], a_i (-2147483648) 2147483647]
def a_w22 : AW := [(170, 1, 2)]
def a_x22 : List AV := [a_r [170]]
def a_w17 : AW := [(170, 0, 7), (180, 0, 99), (181, 0, 999)]
def a_x17 : List AV := [a_r [170], a_i (-128) 999, a_i (-128) 999]
def a_w21 : AW := [(170, 0, 7), (177, 0, 239), (178, 0, 239), (179, 0, 4039), (180, 0, 99), (181, 0, 999)]
def a_x21 : List AV := [a_r [170]]
def a_w164 : AW := a_w134
def a_x164 : List AV := [a_r [8], a_i (-2147483648) 2147483647, a_i (-2147483648) 2147483647]
/-- what may be asked of a method, held against what it is known for -/
def a_leqs : List AV → List AV → Bool
  | [], [] => true
  | p :: xs, q :: ys => a_leq p q && a_leqs xs ys
  | _, _ => false
/-- the analysis beside it, and methods known by a table T: what they are given, what they write at most -/
def a_orcT (T : List (Nat × List AV × AW)) (W : AW) (u : Nat) (xs : List AV) : Option AV := match a_orc1 W u xs with
  | some r => some r
  | none => if T.any (fun q => decide (q.1 = u) && a_leqs xs q.2.1 && a_sub q.2.2 W) = true then some (a_rho u) else none
def a_tab0 : List (Nat × List AV × AW) := []
set_option maxRecDepth 100000 in
theorem a_kb5 : (a_rok 5 a_x5 && a_an a_w5 (a_orcT a_tab0 a_w5) 60 5 [] (a_ent 5 a_x5) (.mulL 4 (.num 0))) = true := by decide +kernel
def a_tab1 : List (Nat × List AV × AW) := (5, a_x5, a_w5) :: a_tab0
set_option maxRecDepth 100000 in
theorem a_kb1 : (a_rok 1 a_x1 && a_an a_w1 (a_orcT a_tab1 a_w1) 60 1 [] (a_ent 1 a_x1) (.mulL 4 (.num 0))) = true := by decide +kernel
def a_tab2 : List (Nat × List AV × AW) := (1, a_x1, a_w1) :: a_tab1
set_option maxRecDepth 100000 in
theorem a_kb11 : (a_rok 11 a_x11 && a_an a_w11 (a_orcT a_tab2 a_w11) 60 11 [] (a_ent 11 a_x11) (.mulL 4 (.num 0))) = true := by decide +kernel
def a_tab3 : List (Nat × List AV × AW) := (11, a_x11, a_w11) :: a_tab2
set_option maxRecDepth 100000 in
theorem a_kb17 : (a_rok 17 a_x17 && a_an a_w17 (a_orcT a_tab3 a_w17) 60 17 [] (a_ent 17 a_x17) (.mulL 4 (.num 0))) = true := by decide +kernel
def a_tab4 : List (Nat × List AV × AW) := (17, a_x17, a_w17) :: a_tab3
set_option maxRecDepth 100000 in
theorem a_kb21 : (a_rok 21 a_x21 && a_an a_w21 (a_orcT a_tab4 a_w21) 60 21 [] (a_ent 21 a_x21) (.mulL 4 (.num 0))) = true := by decide +kernel
def a_tab5 : List (Nat × List AV × AW) := (21, a_x21, a_w21) :: a_tab4
set_option maxRecDepth 100000 in
theorem a_kb160 : (a_rok 160 a_x160 && a_an a_w160 (a_orcT a_tab5 a_w160) 60 160 [] (a_ent 160 a_x160) (.mulL 4 (.num 0))) = true := by decide +kernel
def a_tab6 : List (Nat × List AV × AW) := (160, a_x160, a_w160) :: a_tab5
set_option maxRecDepth 100000 in
theorem a_kb164 : (a_rok 164 a_x164 && a_an a_w164 (a_orcT a_tab6 a_w164) 60 164 [] (a_ent 164 a_x164) (.mulL 4 (.num 0))) = true := by decide +kernel
def a_tab7 : List (Nat × List AV × AW) := (164, a_x164, a_w164) :: a_tab6
def a_orc (W : AW) (u : Nat) (xs : List AV) : Option AV := a_orcT a_tab7 W u xs
set_option maxRecDepth 100000 in
theorem a_c104 : (a_rok 104 a_x104 && a_an a_w104 (a_orc a_w104) 60 104 [] (a_ent 104 a_x104) (.mulL 4 (.num 0))) = true := by decide +kernel
set_option maxRecDepth 100000 in
theorem a_c105 : (a_rok 105 a_x105 && a_an a_w105 (a_orc a_w105) 60 105 [] (a_ent 105 a_x105) (.mulL 4 (.num 0))) = true := by decide +kernel
set_option maxRecDepth 100000 in
theorem a_c106 : (a_rok 106 a_x106 && a_an a_w106 (a_orc a_w106) 60 106 [] (a_ent 106 a_x106) (.mulL 4 (.num 0))) = true := by decide +kernel
set_option maxRecDepth 100000 in
theorem a_c107 : (a_rok 107 a_x107 && a_an a_w107 (a_orc a_w107) 60 107 [] (a_ent 107 a_x107) (.mulL 4 (.num 0))) = true := by decide +kernel
set_option maxRecDepth 100000 in
theorem a_c108 : (a_rok 108 a_x108 && a_an a_w108 (a_orc a_w108) 60 108 [] (a_ent 108 a_x108) (.mulL 4 (.num 0))) = true := by decide +kernel
set_option maxRecDepth 100000 in
theorem a_c110 : (a_rok 110 a_x110 && a_an a_w110 (a_orc a_w110) 60 110 [] (a_ent 110 a_x110) (.mulL 4 (.num 0))) = true := by decide +kernel
set_option maxRecDepth 100000 in
theorem a_c111 : (a_rok 111 a_x111 && a_an a_w111 (a_orc a_w111) 60 111 [] (a_ent 111 a_x111) (.mulL 4 (.num 0))) = true := by decide +kernel
set_option maxRecDepth 100000 in
theorem a_c112 : (a_rok 112 a_x112 && a_an a_w112 (a_orc a_w112) 60 112 [] (a_ent 112 a_x112) (.mulL 4 (.num 0))) = true := by decide +kernel
set_option maxRecDepth 100000 in
theorem a_c113 : (a_rok 113 a_x113 && a_an a_w113 (a_orc a_w113) 60 113 [] (a_ent 113 a_x113) (.mulL 4 (.num 0))) = true := by decide +kernel
set_option maxRecDepth 100000 in
theorem a_c114 : (a_rok 114 a_x114 && a_an a_w114 (a_orc a_w114) 60 114 [] (a_ent 114 a_x114) (.mulL 4 (.num 0))) = true := by decide +kernel
set_option maxRecDepth 100000 in
theorem a_c115 : (a_rok 115 a_x115 && a_an a_w115 (a_orc a_w115) 60 115 [] (a_ent 115 a_x115) (.mulL 4 (.num 0))) = true := by decide +kernel
set_option maxRecDepth 100000 in
theorem a_c116 : (a_rok 116 a_x116 && a_an a_w116 (a_orc a_w116) 60 116 [] (a_ent 116 a_x116) (.mulL 4 (.num 0))) = true := by decide +kernel
set_option maxRecDepth 100000 in
theorem a_c117 : (a_rok 117 a_x117 && a_an a_w117 (a_orc a_w117) 60 117 [] (a_ent 117 a_x117) (.mulL 4 (.num 0))) = true := by decide +kernel
set_option maxRecDepth 100000 in
theorem a_c118 : (a_rok 118 a_x118 && a_an a_w118 (a_orc a_w118) 60 118 [] (a_ent 118 a_x118) (.mulL 4 (.num 0))) = true := by decide +kernel
set_option maxRecDepth 100000 in
theorem a_c119 : (a_rok 119 a_x119 && a_an a_w119 (a_orc a_w119) 60 119 [] (a_ent 119 a_x119) (.mulL 4 (.num 0))) = true := by decide +kernel
set_option maxRecDepth 100000 in
theorem a_c120 : (a_rok 120 a_x120 && a_an a_w120 (a_orc a_w120) 60 120 [] (a_ent 120 a_x120) (.mulL 4 (.num 0))) = true := by decide +kernel
set_option maxRecDepth 100000 in
theorem a_c121 : (a_rok 121 a_x121 && a_an a_w121 (a_orc a_w121) 60 121 [] (a_ent 121 a_x121) (.mulL 4 (.num 0))) = true := by decide +kernel
set_option maxRecDepth 100000 in
theorem a_c122 : (a_rok 122 a_x122 && a_an a_w122 (a_orc a_w122) 60 122 [] (a_ent 122 a_x122) (.mulL 4 (.num 0))) = true := by decide +kernel
set_option maxRecDepth 100000 in
theorem a_c123 : (a_rok 123 a_x123 && a_an a_w123 (a_orc a_w123) 60 123 [] (a_ent 123 a_x123) (.mulL 4 (.num 0))) = true := by decide +kernel
set_option maxRecDepth 100000 in
theorem a_c124 : (a_rok 124 a_x124 && a_an a_w124 (a_orc a_w124) 60 124 [] (a_ent 124 a_x124) (.mulL 4 (.num 0))) = true := by decide +kernel
set_option maxRecDepth 100000 in
theorem a_c125 : (a_rok 125 a_x125 && a_an a_w125 (a_orc a_w125) 60 125 [] (a_ent 125 a_x125) (.mulL 4 (.num 0))) = true := by decide +kernel
set_option maxRecDepth 100000 in
theorem a_c126 : (a_rok 126 a_x126 && a_an a_w126 (a_orc a_w126) 60 126 [] (a_ent 126 a_x126) (.mulL 4 (.num 0))) = true := by decide +kernel
set_option maxRecDepth 100000 in
theorem a_c128 : (a_rok 128 a_x128 && a_an a_w128 (a_orc a_w128) 60 128 [] (a_ent 128 a_x128) (.mulL 4 (.num 0))) = true := by decide +kernel
set_option maxRecDepth 100000 in
theorem a_c129 : (a_rok 129 a_x129 && a_an a_w129 (a_orc a_w129) 60 129 [] (a_ent 129 a_x129) (.mulL 4 (.num 0))) = true := by decide +kernel
set_option maxRecDepth 100000 in
theorem a_c130 : (a_rok 130 a_x130 && a_an a_w130 (a_orc a_w130) 60 130 [] (a_ent 130 a_x130) (.mulL 4 (.num 0))) = true := by decide +kernel
set_option maxRecDepth 100000 in
theorem a_c131 : (a_rok 131 a_x131 && a_an a_w131 (a_orc a_w131) 60 131 [] (a_ent 131 a_x131) (.mulL 4 (.num 0))) = true := by decide +kernel
set_option maxRecDepth 100000 in
theorem a_c133 : (a_rok 133 a_x133 && a_an a_w133 (a_orc a_w133) 60 133 [] (a_ent 133 a_x133) (.mulL 4 (.num 0))) = true := by decide +kernel
set_option maxRecDepth 100000 in
theorem a_c134 : (a_rok 134 a_x134 && a_an a_w134 (a_orc a_w134) 60 134 [] (a_ent 134 a_x134) (.mulL 4 (.num 0))) = true := by decide +kernel
set_option maxRecDepth 100000 in
theorem a_c135 : (a_rok 135 a_x135 && a_an a_w135 (a_orc a_w135) 60 135 [] (a_ent 135 a_x135) (.mulL 4 (.num 0))) = true := by decide +kernel
set_option maxRecDepth 100000 in
theorem a_c136 : (a_rok 136 a_x136 && a_an a_w136 (a_orc a_w136) 60 136 [] (a_ent 136 a_x136) (.mulL 4 (.num 0))) = true := by decide +kernel
set_option maxRecDepth 100000 in
theorem a_c137 : (a_rok 137 a_x137 && a_an a_w137 (a_orc a_w137) 60 137 [] (a_ent 137 a_x137) (.mulL 4 (.num 0))) = true := by decide +kernel
set_option maxRecDepth 100000 in
theorem a_c138 : (a_rok 138 a_x138 && a_an a_w138 (a_orc a_w138) 60 138 [] (a_ent 138 a_x138) (.mulL 4 (.num 0))) = true := by decide +kernel
set_option maxRecDepth 100000 in
theorem a_c139 : (a_rok 139 a_x139 && a_an a_w139 (a_orc a_w139) 60 139 [] (a_ent 139 a_x139) (.mulL 4 (.num 0))) = true := by decide +kernel
set_option maxRecDepth 100000 in
theorem a_c140 : (a_rok 140 a_x140 && a_an a_w140 (a_orc a_w140) 60 140 [] (a_ent 140 a_x140) (.mulL 4 (.num 0))) = true := by decide +kernel
set_option maxRecDepth 100000 in
theorem a_c141 : (a_rok 141 a_x141 && a_an a_w141 (a_orc a_w141) 60 141 [] (a_ent 141 a_x141) (.mulL 4 (.num 0))) = true := by decide +kernel
set_option maxRecDepth 100000 in
theorem a_c144 : (a_rok 144 a_x144 && a_an a_w144 (a_orc a_w144) 60 144 [] (a_ent 144 a_x144) (.mulL 4 (.num 0))) = true := by decide +kernel
set_option maxRecDepth 100000 in
theorem a_c145 : (a_rok 145 a_x145 && a_an a_w145 (a_orc a_w145) 60 145 [] (a_ent 145 a_x145) (.mulL 4 (.num 0))) = true := by decide +kernel
set_option maxRecDepth 100000 in
theorem a_c1 : (a_rok 1 a_x1 && a_an a_w1 (a_orc a_w1) 60 1 [] (a_ent 1 a_x1) (.mulL 4 (.num 0))) = true := by decide +kernel
set_option maxRecDepth 100000 in
theorem a_c16 : (a_rok 16 a_x16 && a_an a_w16 (a_orc a_w16) 60 16 [] (a_ent 16 a_x16) (.mulL 4 (.num 0))) = true := by decide +kernel
set_option maxRecDepth 100000 in
theorem a_c149 : (a_rok 149 a_x149 && a_an a_w149 (a_orc a_w149) 60 149 [] (a_ent 149 a_x149) (.mulL 4 (.num 0))) = true := by decide +kernel
set_option maxRecDepth 100000 in
theorem a_c160 : (a_rok 160 a_x160 && a_an a_w160 (a_orc a_w160) 60 160 [] (a_ent 160 a_x160) (.mulL 4 (.num 0))) = true := by decide +kernel
set_option maxRecDepth 100000 in
theorem a_c154 : (a_rok 154 a_x154 && a_an a_w154 (a_orc a_w154) 60 154 [] (a_ent 154 a_x154) (.mulL 4 (.num 0))) = true := by decide +kernel
set_option maxRecDepth 100000 in
theorem a_c156 : (a_rok 156 a_x156 && a_an a_w156 (a_orc a_w156) 60 156 [] (a_ent 156 a_x156) (.mulL 4 (.num 0))) = true := by decide +kernel
set_option maxRecDepth 100000 in
theorem a_c163 : (a_rok 163 a_x163 && a_an a_w163 (a_orc a_w163) 60 163 [] (a_ent 163 a_x163) (.mulL 4 (.num 0))) = true := by decide +kernel
set_option maxRecDepth 100000 in
theorem a_c60 : (a_rok 60 a_x60 && a_an a_w60 (a_orc a_w60) 60 60 [] (a_ent 60 a_x60) (.mulL 4 (.num 0))) = true := by decide +kernel
set_option maxRecDepth 100000 in
theorem a_c3 : (a_rok 3 a_x3 && a_an a_w3 (a_orc a_w3) 60 3 [] (a_ent 3 a_x3) (.mulL 4 (.num 0))) = true := by decide +kernel
set_option maxRecDepth 100000 in
theorem a_c5 : (a_rok 5 a_x5 && a_an a_w5 (a_orc a_w5) 60 5 [] (a_ent 5 a_x5) (.mulL 4 (.num 0))) = true := by decide +kernel
set_option maxRecDepth 100000 in
theorem a_c11 : (a_rok 11 a_x11 && a_an a_w11 (a_orc a_w11) 60 11 [] (a_ent 11 a_x11) (.mulL 4 (.num 0))) = true := by decide +kernel
set_option maxRecDepth 100000 in
theorem a_c28 : (a_rok 28 a_x28 && a_an a_w28 (a_orc a_w28) 60 28 [] (a_ent 28 a_x28) (.mulL 4 (.num 0))) = true := by decide +kernel
set_option maxRecDepth 100000 in
theorem a_c22 : (a_rok 22 a_x22 && a_an a_w22 (a_orc a_w22) 60 22 [] (a_ent 22 a_x22) (.mulL 4 (.num 0))) = true := by decide +kernel
end
section
theorem c_at_eq (a i : Int) (M : EM) : E_C 146 [a, i] M = e_tv E_C (E_V 146) e_t146_0 [a, i] M := by
  unfold E_C
  rw [if_pos (show e_rok 146 [a, i] = true from rfl), E_V_eq]
  rfl
theorem c_at (a i : Int) (M : EM) (h : a = -1 ∨ (0 < a ∧ a.toNat < e_N ∧ (e_sh a.toNat).1 = 100)) : E_C 146 [a, i] M = some (if a ≠ -1 ∧ 0 ≤ i ∧ i < ((e_sh a.toNat).2 : Int) then M a.toNat i.toNat else 0, M) := by
  rw [c_at_eq]
  unfold e_t146_0
  by_cases ha : a = -1
  · subst ha
    simp [zq_a, zq_b, zq_c, zq_d, zq_e, zq_f, zq_g, zq_h, zq_i, zq_j, zq_k, zq_l, zq_m, zq_n, zq_o, zq_p, zq_q, zq_r, zq_s, zq_t, zq_u, zq_v, zq_w, zq_x, zq_y, zq_z, zq_A, zq_B, zq_C, zq_D, zq_E, zq_F, zq_G, zq_H, zq_I, zq_J, zq_K, zq_L, ↓zq_M, ↓zq_N, ↓zq_O, ↓zq_P, ↓zq_Q, ↓zq_R, zq_S, zq_T, zq_U, zq_V, zq_W, zq_X, zq_Y, zq_Z, zq_0, zq_1, zq_2, zq_3, zq_4, zq_5, ↓zq_6, ↓zq_7, ↓zq_8, ↓zq_9, ↓zq_aa, zq_ab, zq_ac, zq_ad, zq_ae, zq_af, zq_ag, ↓zq_ah, ↓zq_ai, ↓zq_aj, zq_ak, ↓zq_al, ↓zq_am, e_op, e_b1]
  · have hb := h.resolve_left ha
    obtain ⟨b1, b2, b3⟩ := hb
    have hne : a.toNat ≠ 0 := by omega
    have hsz : e_sz M a.toNat = (e_sh a.toNat).2 := if_neg hne
    by_cases h0 : 0 ≤ i
    · by_cases h1 : i < ((e_sh a.toNat).2 : Int)
      · have hin : e_in2 M 100 a i := ⟨by omega, b2, b3, h0, by rw [hsz]; omega⟩
        simp [zq_a, zq_b, zq_c, zq_d, zq_e, zq_f, zq_g, zq_h, zq_i, zq_j, zq_k, zq_l, zq_m, zq_n, zq_o, zq_p, zq_q, zq_r, zq_s, zq_t, zq_u, zq_v, zq_w, zq_x, zq_y, zq_z, zq_A, zq_B, zq_C, zq_D, zq_E, zq_F, zq_G, zq_H, zq_I, zq_J, zq_K, zq_L, ↓zq_M, ↓zq_N, ↓zq_O, ↓zq_P, ↓zq_Q, ↓zq_R, zq_S, zq_T, zq_U, zq_V, zq_W, zq_X, zq_Y, zq_Z, zq_0, zq_1, zq_2, zq_3, zq_4, zq_5, ↓zq_6, ↓zq_7, ↓zq_8, ↓zq_9, ↓zq_aa, zq_ab, zq_ac, zq_ad, zq_ae, zq_af, zq_ag, ↓zq_ah, ↓zq_ai, ↓zq_aj, zq_ak, ↓zq_al, ↓zq_am, e_op, e_b1, e_b2, ha, h0, h1, hsz, b1, b2, b3, Int.le_of_lt b1]
        rw [if_pos hin]
        rfl
      · simp [zq_a, zq_b, zq_c, zq_d, zq_e, zq_f, zq_g, zq_h, zq_i, zq_j, zq_k, zq_l, zq_m, zq_n, zq_o, zq_p, zq_q, zq_r, zq_s, zq_t, zq_u, zq_v, zq_w, zq_x, zq_y, zq_z, zq_A, zq_B, zq_C, zq_D, zq_E, zq_F, zq_G, zq_H, zq_I, zq_J, zq_K, zq_L, ↓zq_M, ↓zq_N, ↓zq_O, ↓zq_P, ↓zq_Q, ↓zq_R, zq_S, zq_T, zq_U, zq_V, zq_W, zq_X, zq_Y, zq_Z, zq_0, zq_1, zq_2, zq_3, zq_4, zq_5, ↓zq_6, ↓zq_7, ↓zq_8, ↓zq_9, ↓zq_aa, zq_ab, zq_ac, zq_ad, zq_ae, zq_af, zq_ag, ↓zq_ah, ↓zq_ai, ↓zq_aj, zq_ak, ↓zq_al, ↓zq_am, e_op, e_b1, e_b2, ha, h0, h1, hsz, b1, b2, b3, Int.le_of_lt b1]
    · simp [zq_a, zq_b, zq_c, zq_d, zq_e, zq_f, zq_g, zq_h, zq_i, zq_j, zq_k, zq_l, zq_m, zq_n, zq_o, zq_p, zq_q, zq_r, zq_s, zq_t, zq_u, zq_v, zq_w, zq_x, zq_y, zq_z, zq_A, zq_B, zq_C, zq_D, zq_E, zq_F, zq_G, zq_H, zq_I, zq_J, zq_K, zq_L, ↓zq_M, ↓zq_N, ↓zq_O, ↓zq_P, ↓zq_Q, ↓zq_R, zq_S, zq_T, zq_U, zq_V, zq_W, zq_X, zq_Y, zq_Z, zq_0, zq_1, zq_2, zq_3, zq_4, zq_5, ↓zq_6, ↓zq_7, ↓zq_8, ↓zq_9, ↓zq_aa, zq_ab, zq_ac, zq_ad, zq_ae, zq_af, zq_ag, ↓zq_ah, ↓zq_ai, ↓zq_aj, zq_ak, ↓zq_al, ↓zq_am, e_op, e_b1, e_b2, ha, h0, hsz, b1, b2, b3, Int.le_of_lt b1]
theorem a_at_ok {W : AW} {ids : List Int} {i : Int × Int × Bool} {v : AV} {as : List Int} {M : EM} (h : a_all a_at1 a_join ids = some v) (hg : a_gs [some (.inr ids), some (.inl i)] as) (hM : a_M M) : ∃ r M', E_C 146 as M = some (r, M') ∧ a_g v r ∧ a_M M' ∧ a_fr W M M' := by
  obtain ⟨a, j, rfl, ha, hj⟩ := a_gs_2 hg
  obtain ⟨w, w1, w2⟩ := a_all_ok h a ha
  unfold a_at1 at w1
  split at w1
  · rename_i h1
    cases w1
    refine ⟨_, M, c_at a j M (Or.inl h1), w2 _ ?_, hM, a_fr_rf⟩
    rw [if_neg (fun q => q.1 h1)]
    exact a_gi (Int.le_refl _) (Int.le_refl _)
  · split at w1
    · rename_i h1 h2
      cases w1
      refine ⟨_, M, c_at a j M (Or.inr h2), w2 _ ?_, hM, a_fr_rf⟩
      split
      · rename_i h3
        obtain ⟨-, h4, h5⟩ := h3
        have h6 : a.toNat ≠ 5 := fun e => by rw [e] at h2; exact absurd h2.2.2 (by decide +kernel)
        exact a_join_ok (Or.inr (a_rd_ok hM h6 (by omega) (by omega)))
      · exact a_join_ok (Or.inl (a_gi (Int.le_refl _) (Int.le_refl _)))
    · cases w1
end
