/-! environments -/
theorem a_E_at {g : Nat → Int} {E : AE} {L : List Int} (hE : a_E g E L) (i : Nat) : a_g (E.getD i (none, [])).1 (L.getD i 0) := by
  by_cases hi : i < E.length
  · exact (hE.2 i hi).1
  · rw [List.getD_eq_getElem?_getD, List.getElem?_eq_none (by omega)]
    exact trivial
theorem a_E_set {g : Nat → Int} {E : AE} {L : List Int} {i : Nat} {v : AV} {T : AT} (hE : a_E g E L) (hv : a_g v (L.getD i 0)) (hT : ∀ t ∈ T, a_to g (L.getD i 0) t) : a_E g (E.set i (v, T)) L := by
  refine ⟨by rw [List.length_set]; exact hE.1, fun j hj => ?_⟩
  rw [List.length_set] at hj
  by_cases hji : j = i
  · subst hji
    rw [List.getD_eq_getElem?_getD, List.getElem?_set_self hj]
    exact ⟨hv, hT⟩
  · rw [List.getD_eq_getElem?_getD, List.getElem?_set_ne (Ne.symm hji), ← List.getD_eq_getElem?_getD]
    exact hE.2 j hj
theorem a_E_tags {g : Nat → Int} {E : AE} {L : List Int} (hE : a_E g E L) (i : Nat) : ∀ t ∈ (E.getD i (none, [])).2, a_to g (L.getD i 0) t := by
  by_cases hi : i < E.length
  · exact (hE.2 i hi).2
  · rw [List.getD_eq_getElem?_getD, List.getElem?_eq_none (by omega)]
    intro t ht; cases ht
theorem a_kill_no {E : AE} (h : E ≠ []) : a_dead (a_kill E) = true := by
  cases E with
  | nil => exact absurd rfl h
  | cons q t => rfl
theorem a_vc_ok {g : Nat → Int} {E : AE} {L : List Int} (hE : a_E g E L) {K : Nat → List Int → EM → EO} : ∀ {e : e_X} {i : Nat} {c : Int}, a_vc E e = some (i, c) → ∀ M xs, e_ev K L e M = some xs → xs.1 = [L.getD i 0 + c]
  | .mulL k e, i, c, h, M, xs, hx => by
    unfold a_vc at h
    split at h
    · rename_i hk
      unfold e_ev at hx
      rw [if_pos hk] at hx
      exact a_vc_ok hE h M xs hx
    · rename_i hk
      split at h
      · rename_i hk2
        subst hk2
        split at h
        · rename_i i' c'
          split at h
          · rename_i q hq
            split at h
            · rename_i hb
              obtain ⟨rfl, rfl⟩ : i' = i ∧ c' = c := by cases h; exact ⟨rfl, rfl⟩
              have h1 := a_E_at hE i'
              rw [hq] at h1
              obtain ⟨h2, h3, -⟩ := h1
              simp only [e_ev, if_neg hk] at hx
              have h9 : e_op (10 : Int).toNat [L.getD i' 0, c'] M = some (e_w (L.getD i' 0 + c')) := rfl
              simp only [Option.bind_some, List.cons_append, List.nil_append, if_neg (show ¬ ((5000 : Int) ≤ 10) by decide), h9] at hx
              cases hx
              rw [a_w_id (by omega) (by omega)]
            · cases h
          · cases h
        · cases h
      · cases h
  | .var j, i, c, h, M, xs, hx => by
    cases h
    cases hx
    rw [Int.add_zero]
  | .num _, _, _, h, _, _, _ => by cases h
  | .add _ _, _, _, h, _, _, _ => by cases h
  | .sub _ _, _, _, h, _, _, _ => by cases h
  | .neg _, _, _, h, _, _, _ => by cases h
  | .mulR _ _, _, _, h, _, _, _ => by cases h
theorem a_cut_ok {g : Nat → Int} {E : AE} {L : List Int} (hE : a_E g E L) {i : Option (Nat × Int)} {z : Int × Int × Bool} {a : Int} (hi : ∀ s c, i = some (s, c) → a = L.getD s 0 + c) (ha : a_g (some (.inl z)) a) : a_E g (a_cut E i z) L := by
  unfold a_cut
  split
  · exact hE
  · rename_i ic
    have h1 := hi ic.1 ic.2 rfl
    split
    · rename_i q hq
      have h2 := a_E_at hE ic.1
      rw [hq] at h2
      obtain ⟨h3, h4, h5⟩ := h2
      obtain ⟨z1, z2, z3⟩ := ha
      refine a_E_set hE ⟨by dsimp only; split <;> omega, by dsimp only; split <;> omega, fun h => ?_⟩ (a_E_tags hE _)
      dsimp only at h
      rw [Bool.or_eq_true, Bool.and_eq_true, decide_eq_true_eq] at h
      rcases h with h | ⟨h, h'⟩
      · exact h5 h
      · have := z3 h'
        omega
    · exact hE
/-- a_cut keeps what a_vc reads -/
theorem a_cut2_ok {g : Nat → Int} {E : AE} {L : List Int} (hE : a_E g E L) {i j : Option (Nat × Int)} {z : (Int × Int × Bool) × (Int × Int × Bool)} {a b : Int} (hi : ∀ s c, i = some (s, c) → a = L.getD s 0 + c) (hj : ∀ s c, j = some (s, c) → b = L.getD s 0 + c) (ha : a_g (some (.inl z.1)) a) (hb : a_g (some (.inl z.2)) b) : a_E g (a_cut2 E i j z) L := by
  unfold a_cut2
  split
  · rename_i h
    exfalso
    rw [Bool.or_eq_true] at h
    obtain ⟨a1, a2, -⟩ := ha
    obtain ⟨b1, b2, -⟩ := hb
    rcases h with h | h
    · have := of_decide_eq_true h; omega
    · have := of_decide_eq_true h; omega
  · exact a_cut_ok (a_cut_ok hE hi ha) hj hb

