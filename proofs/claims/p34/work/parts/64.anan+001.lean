theorem a_tle_ok {c : Nat} {g : Nat → Int} {T H : AT} {x : Int} (h : a_tle c T H = true) (hT : ∀ t ∈ T, a_to g x t) : ∀ t ∈ H, t.1 ≠ c → a_to g x t := by
  intro t ht hc
  have h1 := List.all_eq_true.mp h t ht
  rw [Bool.or_eq_true, decide_eq_true_eq] at h1
  rcases h1 with h1 | h1
  · exact absurd h1 hc
  · obtain ⟨u, hu, h2⟩ := List.any_eq_true.mp h1
    simp only [Bool.and_eq_true, decide_eq_true_eq, beq_iff_eq] at h2
    obtain ⟨⟨h3, h4⟩, h5⟩ := h2
    have h6 := hT u hu
    unfold a_to at h6 ⊢
    rw [← h3, ← h4]
    split
    · rename_i hup; rw [if_pos hup] at h6; omega
    · rename_i hup; rw [if_neg hup] at h6; omega
theorem a_to_c {g : Nat → Int} {c : Nat} {y x : Int} {t : Nat × Bool × Int} (h : t.1 ≠ c) : a_to (fun s => if s = c then y else g s) x t = a_to g x t := by
  unfold a_to
  dsimp only
  rw [if_neg h]
/-- what holds but for what is bound to local c's place -/
def a_Ex (c : Nat) (g : Nat → Int) (E : AE) (L : List Int) : Prop := L.length = E.length ∧ ∀ i, i < E.length → a_g (E.getD i (none, [])).1 (L.getD i 0) ∧ ∀ t ∈ (E.getD i (none, [])).2, t.1 ≠ c → a_to g (L.getD i 0) t
theorem a_le_ix {c : Nat} : ∀ {E H : AE}, a_le c E H = true → E.length = H.length ∧ ∀ i, i < E.length → a_leq (E.getD i (none, [])).1 (H.getD i (none, [])).1 = true ∧ a_tle c (E.getD i (none, [])).2 (H.getD i (none, [])).2 = true
  | [], [], _ => ⟨rfl, fun i hi => absurd hi (by simp)⟩
  | p :: E, q :: H, h => by
    unfold a_le at h
    simp only [Bool.and_eq_true] at h
    obtain ⟨⟨h1, h2⟩, h3⟩ := h
    obtain ⟨h4, h5⟩ := a_le_ix h3
    refine ⟨by simp [h4], fun i hi => ?_⟩
    cases i with
    | zero => exact ⟨h1, h2⟩
    | succ i => exact h5 i (by simpa using hi)
  | [], _ :: _, h => by simp [a_le] at h
  | _ :: _, [], h => by simp [a_le] at h
theorem a_le_ok {c : Nat} {g : Nat → Int} {E H : AE} {L : List Int} (h : a_le c E H = true) (hE : a_E g E L) : a_Ex c g H L := by
  obtain ⟨h1, h2⟩ := a_le_ix h
  refine ⟨hE.1.trans h1, fun i hi => ?_⟩
  obtain ⟨h3, h4⟩ := h2 i (by omega)
  obtain ⟨h5, h6⟩ := hE.2 i (by omega)
  exact ⟨a_leq_ok h3 h5, a_tle_ok h4 h6⟩
theorem a_head_len {c : Nat} {up : Bool} {hv : List (Nat × AV × AT)} : ∀ {i : Nat} {E : AE}, (a_head c up hv i E).length = E.length
  | _, [] => rfl
  | i, q :: E => by unfold a_head; simp [a_head_len]
theorem a_head_ix {c : Nat} {up : Bool} {hv : List (Nat × AV × AT)} : ∀ {i : Nat} {E : AE} {j : Nat}, j < E.length → (a_head c up hv i E).getD j (none, []) = (match q_find hv (i + j) with
    | some a => (a.1, if i + j = c then (c, up, 0) :: a.2 else a.2)
    | none => ((E.getD j (none, [])).1, (E.getD j (none, [])).2.filter (fun t => !(t.1 == c))))
  | i, [], j, h => absurd h (by simp)
  | i, q :: E, 0, h => by unfold a_head; rfl
  | i, q :: E, j + 1, h => by
    unfold a_head
    rw [List.getD_cons_succ, List.getD_cons_succ, a_head_ix (by simpa using h), show i + 1 + j = i + (j + 1) by omega]
/-- at a head the counter's own place is now -/
theorem a_head_ok {c : Nat} {up : Bool} {hv : List (Nat × AV × AT)} {g : Nat → Int} {E : AE} {L : List Int} (hhv : hv.all (fun p => p.2.2.all (fun t => decide (t.1 ≠ c))) = true) (h : a_Ex c g (a_head c up hv 0 E) L) : a_E (fun s => if s = c then L.getD c 0 else g s) (a_head c up hv 0 E) L := by
  refine ⟨h.1, fun i hi => ?_⟩
  obtain ⟨h1, h2⟩ := h.2 i hi
  refine ⟨h1, fun t ht => ?_⟩
  by_cases hc : t.1 = c
  · rw [a_head_len] at hi
    rw [a_head_ix hi, Nat.zero_add] at ht
    split at ht
    · rename_i a ha
      have h3 := List.all_eq_true.mp (List.all_eq_true.mp hhv _ (q_find_mem ha))
      dsimp only at ht h3
      split at ht
      · rename_i hic
        rcases List.mem_cons.mp ht with rfl | ht
        · unfold a_to
          dsimp only
          rw [if_pos rfl, hic]
          split <;> omega
        · exact absurd hc (of_decide_eq_true (h3 t ht))
      · exact absurd hc (of_decide_eq_true (h3 t ht))
    · have := (List.mem_filter.mp ht).2
      rw [hc] at this
      simp at this
  · rw [a_to_c hc]
    exact h2 t ht hc
def a_prog (g : Nat → Int) (c : Nat) (up : Bool) (L : List Int) : Prop := if up = true then 1 ≤ L.getD c 0 - g c else 1 ≤ g c - L.getD c 0
theorem a_on_ok {g : Nat → Int} {c : Nat} {up : Bool} {E : AE} {L : List Int} (h : a_on c up E = true) (hE : a_E g E L) : a_prog g c up L := by
  obtain ⟨t, ht, h1⟩ := List.any_eq_true.mp h
  simp only [Bool.and_eq_true, decide_eq_true_eq, beq_iff_eq] at h1
  obtain ⟨⟨h2, h3⟩, h4⟩ := h1
  have h5 := a_E_tags hE c t ht
  unfold a_to at h5
  unfold a_prog
  rw [h2, h3] at h5
  split
  · rename_i hup; rw [if_pos hup] at h5; omega
  · rename_i hup; rw [if_neg hup] at h5; omega
def a_HA (W : AW) (v : Nat) (g : Nat → Int) (A : AA) : Prop := ∀ l q, a_act A l = some q → ∀ L M, a_Ex q.2.1 g q.1 L → a_prog g q.2.1 q.2.2 L → a_M M → a_OUT W (a_rho v) M (E_V v l L M)
theorem a_pd_ok {g : Nat → Int} : ∀ {P : List Nat} {xs : List AV} {as : List Int}, a_gs xs as → (e_pd P as).length = (a_pd P xs).length ∧ ∀ i, i < (a_pd P xs).length → a_g ((a_pd P xs).getD i (none, [])).1 ((e_pd P as).getD i 0) ∧ ∀ t ∈ ((a_pd P xs).getD i (none, [])).2, a_to g ((e_pd P as).getD i 0) t
  | [], [], [], _ => ⟨rfl, fun i hi => absurd hi (by simp [a_pd])⟩
  | [], _ :: _, _ :: _, _ => ⟨rfl, fun i hi => absurd hi (by simp [a_pd])⟩
  | _ :: _, [], [], _ => ⟨rfl, fun i hi => absurd hi (by simp [a_pd])⟩
  | t :: P, x :: xs, a :: as, h => by
    obtain ⟨h1, h2⟩ := a_pd_ok (P := P) h.2
    by_cases ht : t = 1
    · unfold a_pd e_pd
      rw [if_pos ht, if_pos ht]
      refine ⟨by simp [h1], fun i hi => ?_⟩
      match i, hi with
      | 0, _ => exact ⟨h.1, fun t ht => by cases ht⟩
      | 1, _ => exact ⟨a_gi (Int.le_refl _) (Int.le_refl _), fun t ht => by cases ht⟩
      | i + 2, hi => exact h2 i (by simpa using hi)
    · unfold a_pd e_pd
      rw [if_neg ht, if_neg ht]
      refine ⟨by simp [h1], fun i hi => ?_⟩
      match i, hi with
      | 0, _ => exact ⟨h.1, fun t ht => by cases ht⟩
      | i + 1, hi => exact h2 i (by simpa using hi)
theorem a_ent_ok {g : Nat → Int} {u : Nat} {xs : List AV} {as : List Int} (h : a_gs xs as) : a_E g (a_ent u xs) (e_pad u as) := by
  obtain ⟨h1, h2⟩ := a_pd_ok (g := g) (P := e_pt u) h
  unfold a_ent e_pad
  refine ⟨by simp [h1], fun i hi => ?_⟩
  by_cases hlt : i < (a_pd (e_pt u) xs).length
  · rw [List.getD_eq_getElem?_getD, List.getElem?_append_left hlt, List.getD_eq_getElem?_getD, List.getElem?_append_left (by rw [h1]; exact hlt), ← List.getD_eq_getElem?_getD, ← List.getD_eq_getElem?_getD]
    exact h2 i hlt
  · have e1 : (a_pd (e_pt u) xs ++ List.replicate (e_nl u - (a_pd (e_pt u) xs).length) (a_i 0 0, ([] : AT))).getD i (none, []) = (a_i 0 0, []) := by
      rw [List.length_append, List.length_replicate] at hi
      rw [List.getD_eq_getElem?_getD, List.getElem?_append_right (by omega), List.getElem?_replicate, if_pos (by omega)]
      rfl
    have e2 : (e_pd (e_pt u) as ++ List.replicate (e_nl u - (e_pd (e_pt u) as).length) (0 : Int)).getD i 0 = 0 := by
      rw [List.length_append, List.length_replicate] at hi
      rw [List.getD_eq_getElem?_getD, List.getElem?_append_right (by omega), List.getElem?_replicate, if_pos (by omega)]
      rfl
    rw [e1, e2]
    exact ⟨a_gi (Int.le_refl _) (Int.le_refl _), fun t ht => by cases ht⟩
