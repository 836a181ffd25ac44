theorem a_leq_ok {p q : AV} {x : Int} (h : a_leq p q = true) (hx : a_g p x) : a_g q x := by
  match p, q, h, hx with
  | _, none, _, _ => exact trivial
  | some (.inl p), some (.inl q), h, hx =>
    obtain ⟨h1, h2, h3⟩ := hx
    unfold a_leq at h
    simp only [Bool.or_eq_true, Bool.and_eq_true, decide_eq_true_eq, Bool.not_eq_true'] at h
    rcases h with h | ⟨⟨h4, h5⟩, h6⟩
    · omega
    · refine ⟨by omega, by omega, fun hq => ?_⟩
      rcases h6 with ((h6 | h6) | h6) | h6
      · rw [h6] at hq; cases hq
      · exact h3 h6
      · omega
      · omega
  | some (.inr a), some (.inr b), h, hx =>
    unfold a_leq at h
    have := List.all_eq_true.mp h x hx
    exact List.contains_iff_mem.mp this
  | some (.inl _), some (.inr _), h, _ => simp [a_leq] at h
  | some (.inr _), some (.inl _), h, _ => simp [a_leq] at h
  | none, some _, h, _ => simp [a_leq] at h
theorem a_join_ok {p q : AV} {x : Int} (h : a_g p x ∨ a_g q x) : a_g (a_join p q) x := by
  match p, q, h with
  | some (.inl p), some (.inl q), h =>
    show _ ∧ _ ∧ _
    dsimp only
    rcases h with ⟨h1, h2, h3⟩ | ⟨h1, h2, h3⟩
    · refine ⟨by split <;> omega, by split <;> omega, fun hq => ?_⟩
      rw [Bool.and_eq_true] at hq
      exact h3 hq.1
    · refine ⟨by split <;> omega, by split <;> omega, fun hq => ?_⟩
      rw [Bool.and_eq_true] at hq
      exact h3 hq.2
  | some (.inr a), some (.inr b), h => exact List.mem_append.mpr h
  | some (.inl _), some (.inr _), _ => exact trivial
  | some (.inr _), some (.inl _), _ => exact trivial
  | none, _, _ => exact trivial
  | some (.inl _), none, _ => exact trivial
  | some (.inr _), none, _ => exact trivial
theorem a_dead1_ok {p : AV} {x : Int} (h : a_dead1 p = true) (hx : a_g p x) : False := by
  match p, h, hx with
  | some (.inl q), h, hx => have := of_decide_eq_true h; obtain ⟨h1, h2, -⟩ := hx; omega
  | some (.inr []), _, hx => cases hx
theorem a_dead_ok {g : Nat → Int} {E : AE} {L : List Int} (h : a_dead E = true) (hE : a_E g E L) : False := by
  obtain ⟨q, hq, h1⟩ := List.any_eq_true.mp h
  obtain ⟨i, hi, rfl⟩ := List.getElem_of_mem hq
  have h2 := (hE.2 i hi).1
  rw [List.getD_eq_getElem?_getD, List.getElem?_eq_getElem hi] at h2
  exact a_dead1_ok h1 h2
theorem a_gi {lo hi x : Int} (h1 : lo ≤ x) (h2 : x ≤ hi) : a_g (a_i lo hi) x := ⟨h1, h2, fun h => by cases h⟩
theorem a_T32_ok {x : Int} (h : -2147483648 ≤ x ∧ x ≤ 2147483647) : a_g a_T32 x := a_gi h.1 h.2
theorem a_T64_ok {x : Int} (h : -9223372036854775808 ≤ x ∧ x ≤ 9223372036854775807) : a_g a_T64 x := a_gi h.1 h.2
theorem a_w (x : Int) : -2147483648 ≤ e_w x ∧ e_w x ≤ 2147483647 := by unfold e_w; omega
theorem a_w_id {x : Int} (h1 : -2147483648 ≤ x) (h2 : x ≤ 2147483647) : e_w x = x := by unfold e_w; omega
theorem a_W' (x : Int) : -9223372036854775808 ≤ e_W x ∧ e_W x ≤ 9223372036854775807 := by unfold e_W; omega
theorem a_bit (f : Int32 → Int32 → Int32) (a b : Int) : -2147483648 ≤ e_bit f a b ∧ e_bit f a b ≤ 2147483647 := e_rng _
theorem a_clip_ok {lo hi x : Int} (h1 : lo ≤ x) (h2 : x ≤ hi) : a_g (a_clip lo hi) (e_w x) := by
  unfold a_clip
  split
  · rename_i h; rw [a_w_id (by omega) (by omega)]; exact a_gi h1 h2
  · exact a_T32_ok (a_w x)
theorem a_nz_ok {q : Int × Int × Bool} {x : Int} (h : a_nz q = true) (hx : a_g (some (.inl q)) x) : x ≠ 0 := by
  unfold a_nz at h
  simp only [Bool.or_eq_true, decide_eq_true_eq] at h
  obtain ⟨h1, h2, h3⟩ := hx
  rcases h with (h | h) | h
  · exact h3 h
  · omega
  · omega
theorem a_tmod {a b : Int} (h1 : -2147483648 ≤ b) (h2 : b ≤ 2147483648) (h0 : b ≠ 0) : -2147483648 ≤ a.tmod b ∧ a.tmod b ≤ 2147483647 := by
  have h6 : (a.tmod b).natAbs < b.natAbs := by
    rw [Int.natAbs_tmod]; exact Nat.mod_lt _ (by omega)
  revert h6
  generalize a.tmod b = z
  intro h6
  omega
theorem a_b2_ok {k : Nat} {x y : Int × Int × Bool} {v : AV} {a b : Int} (h : a_b2 k x y = some v) (ha : a_g (some (.inl x)) a) (hb : a_g (some (.inl y)) b) : ∃ z, e_b2 k a b = some z ∧ a_g v z := by
  have ha' := ha
  have hb' := hb
  obtain ⟨a1, a2, a3⟩ := ha
  obtain ⟨b1, b2, b3⟩ := hb
  unfold a_b2 at h
  split at h
  · cases h; exact ⟨_, rfl, a_clip_ok (by omega) (by omega)⟩
  · cases h; exact ⟨_, rfl, a_clip_ok (by omega) (by omega)⟩
  · cases h; exact ⟨_, rfl, a_T32_ok (a_w _)⟩
  · split at h
    · rename_i hz
      have h0 := a_nz_ok hz hb'
      cases h
      refine ⟨_, if_neg h0, ?_⟩
      split
      · rename_i hc
        obtain ⟨c1, c2, c3, c4⟩ := hc
        have hbc : b = y.1 := by omega
        have hd : a.tdiv b = a / y.1 := by rw [hbc, Int.tdiv_eq_ediv_of_nonneg (by omega)]
        have hd1 : 0 ≤ a / y.1 := Int.ediv_nonneg (by omega) (by omega)
        have hd2 : a / y.1 ≤ x.2.1 / y.1 := Int.ediv_le_ediv c3 a2
        have hd3 : a / y.1 ≤ a := Int.ediv_le_self _ (by omega)
        rw [hd, a_w_id (by omega) (by omega)]
        exact a_gi hd1 hd2
      · split
        · rename_i hc
          obtain ⟨c1, c2, c3⟩ := hc
          have hq : (a.tdiv b).natAbs ≤ 1073741824 := by
            rw [Int.natAbs_tdiv]
            refine (show a.natAbs / b.natAbs ≤ 1073741824 from ?_)
            have h1 : 2 ≤ b.natAbs := by omega
            have h2 : a.natAbs ≤ 2147483648 := by omega
            have h3 : a.natAbs / b.natAbs ≤ a.natAbs / 2 := Nat.div_le_div_left h1 (by decide)
            omega
          revert hq
          generalize a.tdiv b = z
          intro hq
          rw [a_w_id (by omega) (by omega)]
          exact a_gi (by omega) (by omega)
        · exact a_T32_ok (a_w _)
    · cases h
  · split at h
    · rename_i hz
      have h0 := a_nz_ok hz hb'
      split at h
      · rename_i hc
        cases h
        obtain ⟨c1, c3, c4⟩ := hc
        have hbc : b = y.1 := by omega
        refine ⟨_, if_neg h0, ?_⟩
        have hd : a.tmod b = a % y.1 := by rw [hbc, Int.tmod_eq_emod_of_nonneg (by omega)]
        have hd1 : 0 ≤ a % y.1 := Int.emod_nonneg _ (by omega)
        have hd2 : a % y.1 < y.1 := Int.emod_lt_of_pos _ c3
        rw [hd]
        exact a_gi hd1 (by omega)
      · split at h
        · rename_i hc
          cases h
          exact ⟨_, if_neg h0, a_T32_ok (a_tmod (by omega) (by omega) h0)⟩
        · cases h
    · cases h
  · cases h; exact ⟨_, rfl, a_T32_ok (a_bit _ _ _)⟩
  · cases h; exact ⟨_, rfl, a_T32_ok (a_bit _ _ _)⟩
  · cases h; exact ⟨_, rfl, a_T32_ok (a_bit _ _ _)⟩
  · cases h; exact ⟨_, rfl, a_T32_ok (a_bit _ _ _)⟩
  · cases h; exact ⟨_, rfl, a_T32_ok (a_bit _ _ _)⟩
  · cases h; exact ⟨_, rfl, a_T32_ok (a_bit _ _ _)⟩
  · cases h; exact ⟨_, rfl, a_T64_ok (a_W' _)⟩
  · cases h; exact ⟨_, rfl, a_T64_ok (a_W' _)⟩
  · cases h; exact ⟨_, rfl, a_T64_ok (a_W' _)⟩
  · split at h
    · rename_i hz
      cases h
      exact ⟨_, if_neg (a_nz_ok hz hb'), a_T64_ok (a_W' _)⟩
    · cases h
  · cases h; exact ⟨_, rfl, a_gi (by split <;> split <;> omega) (by split <;> split <;> omega)⟩
  · cases h; exact ⟨_, rfl, a_gi (by split <;> split <;> omega) (by split <;> split <;> omega)⟩
  · split at h
    · rename_i hk
      cases h
      have key : ∀ c : Bool, a_g (a_i 0 1) (if c = true then 1 else 0) := fun c => by cases c <;> exact a_gi (by decide) (by decide)
      rcases hk with hk | hk
      · obtain ⟨n, rfl⟩ : ∃ n, k = 40 + n := ⟨k - 40, by omega⟩
        exact ⟨_, (e_cr2 (by omega) a b).1, key _⟩
      · obtain ⟨n, rfl⟩ : ∃ n, k = 54 + n := ⟨k - 54, by omega⟩
        exact ⟨_, (e_cr2 (by omega) a b).2.1, key _⟩
    · cases h
