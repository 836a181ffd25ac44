theorem a_leq_ok {p q : AV} {x : Int} (h : a_leq p q = true) (hx : a_g p x) : a_g q x := by
  match p, q, h, hx with
  | _, none, _, _ => exact trivial
  | some (.inl p), some (.inl q), h, hx =>
    obtain ⟨h1, h2, h3⟩ := hx
    unfold a_leq at h
    simp only [Bool.or_eq_true, Bool.and_eq_true, decide_eq_true_eq, Bool.not_eq_true'] at h
    rcases h with h | ⟨⟨h4, h5⟩, h6⟩
    · omega
    · refine ⟨by omega, by omega, fun hq => ?_⟩
      rcases h6 with ((h6 | h6) | h6) | h6
      · rw [h6] at hq; cases hq
      · exact h3 h6
      · omega
      · omega
  | some (.inr a), some (.inr b), h, hx =>
    unfold a_leq at h
    have := List.all_eq_true.mp h x hx
    exact List.contains_iff_mem.mp this
  | some (.inl _), some (.inr _), h, _ => simp [a_leq] at h
  | some (.inr _), some (.inl _), h, _ => simp [a_leq] at h
  | none, some _, h, _ => simp [a_leq] at h
theorem a_join_ok {p q : AV} {x : Int} (h : a_g p x ∨ a_g q x) : a_g (a_join p q) x := by
  match p, q, h with
  | some (.inl p), some (.inl q), h =>
    show _ ∧ _ ∧ _
    dsimp only
    rcases h with ⟨h1, h2, h3⟩ | ⟨h1, h2, h3⟩
    · refine ⟨by split <;> omega, by split <;> omega, fun hq => ?_⟩
      rw [Bool.and_eq_true] at hq
      exact h3 hq.1
    · refine ⟨by split <;> omega, by split <;> omega, fun hq => ?_⟩
      rw [Bool.and_eq_true] at hq
      exact h3 hq.2
  | some (.inr a), some (.inr b), h => exact List.mem_append.mpr h
  | some (.inl _), some (.inr _), _ => exact trivial
  | some (.inr _), some (.inl _), _ => exact trivial
  | none, _, _ => exact trivial
  | some (.inl _), none, _ => exact trivial
  | some (.inr _), none, _ => exact trivial
theorem a_dead1_ok {p : AV} {x : Int} (h : a_dead1 p = true) (hx : a_g p x) : False := by
  match p, h, hx with
  | some (.inl q), h, hx => have := of_decide_eq_true h; obtain ⟨h1, h2, -⟩ := hx; omega
  | some (.inr []), _, hx => cases hx
theorem a_dead_ok {g : Nat → Int} {E : AE} {L : List Int} (h : a_dead E = true) (hE : a_E g E L) : False := by
  obtain ⟨q, hq, h1⟩ := List.any_eq_true.mp h
  obtain ⟨i, hi, rfl⟩ := List.getElem_of_mem hq
  have h2 := (hE.2 i hi).1
  rw [List.getD_eq_getElem?_getD, List.getElem?_eq_getElem hi] at h2
  exact a_dead1_ok h1 h2
theorem a_gi {lo hi x : Int} (h1 : lo ≤ x) (h2 : x ≤ hi) : a_g (a_i lo hi) x := ⟨h1, h2, fun h => by cases h⟩
theorem a_T32_ok {x : Int} (h : -2147483648 ≤ x ∧ x ≤ 2147483647) : a_g a_T32 x := a_gi h.1 h.2
theorem a_T64_ok {x : Int} (h : -9223372036854775808 ≤ x ∧ x ≤ 9223372036854775807) : a_g a_T64 x := a_gi h.1 h.2
theorem a_w (x : Int) : -2147483648 ≤ e_w x ∧ e_w x ≤ 2147483647 := by unfold e_w; omega
theorem a_w_id {x : Int} (h1 : -2147483648 ≤ x) (h2 : x ≤ 2147483647) : e_w x = x := by unfold e_w; omega
theorem a_W' (x : Int) : -9223372036854775808 ≤ e_W x ∧ e_W x ≤ 9223372036854775807 := by unfold e_W; omega
theorem a_bit (f : Int32 → Int32 → Int32) (a b : Int) : -2147483648 ≤ e_bit f a b ∧ e_bit f a b ≤ 2147483647 := e_rng _
theorem a_clip_ok {lo hi x : Int} (h1 : lo ≤ x) (h2 : x ≤ hi) : a_g (a_clip lo hi) (e_w x) := by
  unfold a_clip
  split
  · rename_i h; rw [a_w_id (by omega) (by omega)]; exact a_gi h1 h2
  · exact a_T32_ok (a_w x)
theorem a_nz_ok {q : Int × Int × Bool} {x : Int} (h : a_nz q = true) (hx : a_g (some (.inl q)) x) : x ≠ 0 := by
  unfold a_nz at h
  simp only [Bool.or_eq_true, decide_eq_true_eq] at h
  obtain ⟨h1, h2, h3⟩ := hx
  rcases h with (h | h) | h
  · exact h3 h
  · omega
  · omega
theorem a_tmod {a b : Int} (h1 : -2147483648 ≤ b) (h2 : b ≤ 2147483648) (h0 : b ≠ 0) : -2147483648 ≤ a.tmod b ∧ a.tmod b ≤ 2147483647 := by
  have h6 : (a.tmod b).natAbs < b.natAbs := by
    rw [Int.natAbs_tmod]; exact Nat.mod_lt _ (by omega)
  revert h6
  generalize a.tmod b = z
  intro h6
  omega
theorem a_b2_ok {k : Nat} {x y : Int × Int × Bool} {v : AV} {a b : Int} (h : a_b2 k x y = some v) (ha : a_g (some (.inl x)) a) (hb : a_g (some (.inl y)) b) : ∃ z, e_b2 k a b = some z ∧ a_g v z := by
  have ha' := ha
  have hb' := hb
  obtain ⟨a1, a2, a3⟩ := ha
  obtain ⟨b1, b2, b3⟩ := hb
  unfold a_b2 at h
  split at h
  · cases h; exact ⟨_, rfl, a_clip_ok (by omega) (by omega)⟩
  · cases h; exact ⟨_, rfl, a_clip_ok (by omega) (by omega)⟩
  · cases h; exact ⟨_, rfl, a_T32_ok (a_w _)⟩
  · split at h
    · rename_i hz
      have h0 := a_nz_ok hz hb'
      cases h
      refine ⟨_, if_neg h0, ?_⟩
      split
      · rename_i hc
        obtain ⟨c1, c2, c3, c4⟩ := hc
        have hbc : b = y.1 := by omega
        have hd : a.tdiv b = a / y.1 := by rw [hbc, Int.tdiv_eq_ediv_of_nonneg (by omega)]
        have hd1 : 0 ≤ a / y.1 := Int.ediv_nonneg (by omega) (by omega)
        have hd2 : a / y.1 ≤ x.2.1 / y.1 := Int.ediv_le_ediv c3 a2
        have hd3 : a / y.1 ≤ a := Int.ediv_le_self _ (by omega)
        rw [hd, a_w_id (by omega) (by omega)]
        exact a_gi hd1 hd2
      · split
        · rename_i hc
          obtain ⟨c1, c2, c3⟩ := hc
          have hq : (a.tdiv b).natAbs ≤ 1073741824 := by
            rw [Int.natAbs_tdiv]
            refine (show a.natAbs / b.natAbs ≤ 1073741824 from ?_)
            have h1 : 2 ≤ b.natAbs := by omega
            have h2 : a.natAbs ≤ 2147483648 := by omega
            have h3 : a.natAbs / b.natAbs ≤ a.natAbs / 2 := Nat.div_le_div_left h1 (by decide)
            omega
          revert hq
          generalize a.tdiv b = z
          intro hq
          rw [a_w_id (by omega) (by omega)]
          exact a_gi (by omega) (by omega)
        · exact a_T32_ok (a_w _)
    · cases h
  · split at h
    · rename_i hz
      have h0 := a_nz_ok hz hb'
      split at h
      · rename_i hc
        cases h
        obtain ⟨c1, c3, c4⟩ := hc
        have hbc : b = y.1 := by omega
        refine ⟨_, if_neg h0, ?_⟩
        have hd : a.tmod b = a % y.1 := by rw [hbc, Int.tmod_eq_emod_of_nonneg (by omega)]
        have hd1 : 0 ≤ a % y.1 := Int.emod_nonneg _ (by omega)
        have hd2 : a % y.1 < y.1 := Int.emod_lt_of_pos _ c3
        rw [hd]
        exact a_gi hd1 (by omega)
      · split at h
        · rename_i hc
          cases h
          exact ⟨_, if_neg h0, a_T32_ok (a_tmod (by omega) (by omega) h0)⟩
        · cases h
    · cases h
  · cases h; exact ⟨_, rfl, a_T32_ok (a_bit _ _ _)⟩
  · cases h; exact ⟨_, rfl, a_T32_ok (a_bit _ _ _)⟩
  · cases h; exact ⟨_, rfl, a_T32_ok (a_bit _ _ _)⟩
  · cases h; exact ⟨_, rfl, a_T32_ok (a_bit _ _ _)⟩
  · cases h; exact ⟨_, rfl, a_T32_ok (a_bit _ _ _)⟩
  · cases h; exact ⟨_, rfl, a_T32_ok (a_bit _ _ _)⟩
  · cases h; exact ⟨_, rfl, a_T64_ok (a_W' _)⟩
  · cases h; exact ⟨_, rfl, a_T64_ok (a_W' _)⟩
  · cases h; exact ⟨_, rfl, a_T64_ok (a_W' _)⟩
  · split at h
    · rename_i hz
      cases h
      exact ⟨_, if_neg (a_nz_ok hz hb'), a_T64_ok (a_W' _)⟩
    · cases h
  · cases h; exact ⟨_, rfl, a_gi (by split <;> split <;> omega) (by split <;> split <;> omega)⟩
  · cases h; exact ⟨_, rfl, a_gi (by split <;> split <;> omega) (by split <;> split <;> omega)⟩
  · split at h
    · rename_i hk
      cases h
      have key : ∀ c : Bool, a_g (a_i 0 1) (if c = true then 1 else 0) := fun c => by cases c <;> exact a_gi (by decide) (by decide)
      rcases hk with hk | hk
      · obtain ⟨n, rfl⟩ : ∃ n, k = 40 + n := ⟨k - 40, by omega⟩
        exact ⟨_, (e_cr2 (by omega) a b).1, key _⟩
      · obtain ⟨n, rfl⟩ : ∃ n, k = 54 + n := ⟨k - 54, by omega⟩
        exact ⟨_, (e_cr2 (by omega) a b).2.1, key _⟩
    · cases h
theorem a_b1_ok {k : Nat} {x : Int × Int × Bool} {v : AV} {a : Int} (h : a_b1 k x = some v) (ha : a_g (some (.inl x)) a) : ∃ z, e_b1 k a = some z ∧ a_g v z := by
  have ha' := ha
  obtain ⟨a1, a2, a3⟩ := ha
  unfold a_b1 at h
  split at h
  · cases h; exact ⟨_, rfl, ha'⟩
  · cases h; exact ⟨_, rfl, a_T32_ok (a_w _)⟩
  · cases h; exact ⟨_, rfl, ha'⟩
  · cases h
    refine ⟨_, rfl, ?_⟩
    split
    · rename_i hc; rw [a_w_id (by omega) (by omega)]; exact ha'
    · exact a_T32_ok (a_w _)
  · cases h; exact ⟨_, rfl, a_gi (by omega) (by omega)⟩
  · cases h; exact ⟨_, rfl, a_gi (by omega) (by omega)⟩
  · split at h
    · rename_i hc
      cases h
      refine ⟨_, rfl, ?_⟩
      split
      · exact a_T32_ok ⟨by omega, by omega⟩
      · exact a_T32_ok (a_w _)
    · cases h
  · split at h
    · rename_i hk
      cases h
      have key : ∀ c : Bool, a_g (a_i 0 1) (if c = true then 1 else 0) := fun c => by cases c <;> exact a_gi (by decide) (by decide)
      obtain ⟨n, rfl⟩ : ∃ n, k = 46 + n := ⟨k - 46, by omega⟩
      exact ⟨_, (e_cr2 (by omega) a 0).2.2, key _⟩
    · cases h
theorem a_mt_ok {r : Nat} {x y : Int × Int × Bool} {a b : Int} (hr : e_crb r a b = true) (ha : a_g (some (.inl x)) a) (hb : a_g (some (.inl y)) b) : a_g (some (.inl (a_mt r x y).1)) a ∧ a_g (some (.inl (a_mt r x y).2)) b := by
  have ha' := ha
  have hb' := hb
  obtain ⟨a1, a2, a3⟩ := ha
  obtain ⟨b1, b2, b3⟩ := hb
  unfold a_mt
  split
  · have hab : a = b := of_decide_eq_true hr
    subst hab
    have : a_g (some (.inl (if x.1 ≤ y.1 then y.1 else x.1, if x.2.1 ≤ y.2.1 then x.2.1 else y.2.1, x.2.2 || y.2.2))) a := by
      refine ⟨by dsimp only; split <;> omega, by dsimp only; split <;> omega, fun h => ?_⟩
      dsimp only at h
      rw [Bool.or_eq_true] at h
      exact h.elim a3 b3
    exact ⟨this, this⟩
  · have hab : a ≠ b := of_decide_eq_true hr
    split
    · rename_i hy
      refine ⟨⟨by dsimp only; split <;> omega, by dsimp only; split <;> omega, fun h => ?_⟩, hb'⟩
      dsimp only at h
      rw [Bool.or_eq_true, decide_eq_true_eq] at h
      rcases h with h | h
      · exact a3 h
      · omega
    · exact ⟨ha', hb'⟩
  · have hab : a < b := of_decide_eq_true hr
    exact ⟨⟨a1, by dsimp only; split <;> omega, a3⟩, ⟨by dsimp only; split <;> omega, b2, b3⟩⟩
  · have hab : b ≤ a := of_decide_eq_true hr
    exact ⟨⟨by dsimp only; split <;> omega, a2, a3⟩, ⟨b1, by dsimp only; split <;> omega, b3⟩⟩
  · have hab : b < a := of_decide_eq_true hr
    exact ⟨⟨by dsimp only; split <;> omega, a2, a3⟩, ⟨b1, by dsimp only; split <;> omega, b3⟩⟩
  · rename_i h0 h1 h2 h3 h4
    have hab : a ≤ b := by
      unfold e_crb at hr
      split at hr
      · exact absurd rfl (h0 )
      · exact absurd rfl (h1 )
      · exact absurd rfl (h2 )
      · exact absurd rfl (h3 )
      · exact absurd rfl (h4 )
      · exact of_decide_eq_true hr
    exact ⟨⟨a1, by dsimp only; split <;> omega, a3⟩, ⟨by dsimp only; split <;> omega, b2, b3⟩⟩
/-! reads -/
theorem a_rd_ok {M : EM} {id k : Nat} {lo hi : Int} (hM : a_M M) (h5 : id ≠ 5) (h1 : lo ≤ (k : Int)) (h2 : (k : Int) ≤ hi) : a_g (a_rd id lo hi) (M id k) := by
  obtain ⟨m1, m2, m3⟩ := hM id k h5
  unfold a_rd
  split
  · rename_i s hs
    have hp := List.find?_some hs
    have hm := List.mem_of_find?_eq_some hs
    simp only [Bool.and_eq_true, decide_eq_true_eq] at hp
    have := m3 s hm (by omega) (by omega)
    exact a_gi this.1 this.2
  · exact a_gi m1 m2
theorem a_ld_ok {M : EM} {k : Nat} {i : Int × Int × Bool} {id j : Int} {v : AV} (h : a_ld k i id = some v) (hM : a_M M) (hj : a_g (some (.inl i)) j) : ∃ z, e_op k [id, j] M = some z ∧ a_g v z := by
  obtain ⟨j1, j2, -⟩ := hj
  unfold a_ld at h
  split at h
  · rename_i hc
    obtain ⟨c1, c2, c3, c4, c5⟩ := hc
    have hne : id.toNat ≠ 0 := by omega
    have hsz : e_sz M id.toNat = (e_sh id.toNat).2 := if_neg hne
    split at h
    · rename_i hk
      subst hk
      split at h
      · rename_i h100
        cases h
        have h5 : id.toNat ≠ 5 := fun e => by rw [e] at h100; exact absurd h100 (by decide +kernel)
        refine ⟨M id.toNat j.toNat, ?_, a_rd_ok hM h5 (by omega) (by omega)⟩
        simp only [e_op, if_pos]
        exact if_pos ⟨c1, c2, h100, by omega, by rw [hsz]; omega⟩
      · cases h
    · split at h
      · rename_i hk
        subst hk
        split at h
        · rename_i h102
          cases h
          refine ⟨e_gr id.toNat j.toNat, ?_, ?_⟩
          · simp only [e_op, if_neg (show ¬ (62 = 60) by decide), if_neg (show ¬ (62 = 61) by decide), if_pos]
            exact if_pos ⟨c1, c2, h102, by omega, by rw [hsz]; omega⟩
          · refine List.mem_map.mpr ⟨j.toNat - i.1.toNat, List.mem_range.mpr (by omega), ?_⟩
            rw [show i.1.toNat + (j.toNat - i.1.toNat) = j.toNat by omega]
        · cases h
      · cases h
  · cases h
theorem a_fld_ok {M : EM} {key : Nat} {id : Int} {v : AV} (h : a_fld key id = some v) (hM : a_M M) : ∃ z, e_gf key [id] M = some z ∧ a_g v z := by
  unfold a_fld at h
  split at h
  · rename_i hc
    cases h
    refine ⟨_, if_pos hc, ?_⟩
    split
    · exact List.mem_cons_self
    · refine a_rd_ok hM ?_ (Int.le_refl _) (Int.le_refl _)
      have := hc.1
      omega
  · cases h
theorem a_len_ok {M : EM} {id : Int} {v : AV} (h : a_len id = some v) : ∃ z, e_op 63 [id] M = some z ∧ a_g v z := by
  unfold a_len at h
  split at h
  · rename_i hc
    cases h
    have hne : id.toNat ≠ 0 := by omega
    have hsz : e_sz M id.toNat = (e_sh id.toNat).2 := if_neg hne
    refine ⟨(e_sz M id.toNat : Int), ?_, ?_⟩
    · simp only [e_op, if_pos]
      exact if_pos ⟨by omega, hc.2.1, hc.2.2⟩
    · rw [hsz]; exact a_gi (Int.le_refl _) (Int.le_refl _)
  · cases h
theorem a_all_ok {f : Int → Option AV} : ∀ {ids : List Int} {v : AV}, a_all f a_join ids = some v → ∀ x ∈ ids, ∃ w, f x = some w ∧ ∀ z, a_g w z → a_g v z
  | [], v, h, x, hx => by cases hx
  | [y], v, h, x, hx => by
    have : x = y := List.mem_singleton.mp hx
    subst this
    exact ⟨v, h, fun z hz => hz⟩
  | y :: y2 :: t, v, h, x, hx => by
    unfold a_all at h
    split at h
    · rename_i a b h1 h2
      cases h
      rcases List.mem_cons.mp hx with rfl | hx
      · exact ⟨a, h1, fun z hz => a_join_ok (Or.inl hz)⟩
      · obtain ⟨w, w1, w2⟩ := a_all_ok h2 x hx
        exact ⟨w, w1, fun z hz => a_join_ok (Or.inr (w2 z hz))⟩
    · cases h
/-! environments -/
theorem a_E_at {g : Nat → Int} {E : AE} {L : List Int} (hE : a_E g E L) (i : Nat) : a_g (E.getD i (none, [])).1 (L.getD i 0) := by
  by_cases hi : i < E.length
  · exact (hE.2 i hi).1
  · rw [List.getD_eq_getElem?_getD, List.getElem?_eq_none (by omega)]
    exact trivial
theorem a_E_set {g : Nat → Int} {E : AE} {L : List Int} {i : Nat} {v : AV} {T : AT} (hE : a_E g E L) (hv : a_g v (L.getD i 0)) (hT : ∀ t ∈ T, a_to g (L.getD i 0) t) : a_E g (E.set i (v, T)) L := by
  refine ⟨by rw [List.length_set]; exact hE.1, fun j hj => ?_⟩
  rw [List.length_set] at hj
  by_cases hji : j = i
  · subst hji
    rw [List.getD_eq_getElem?_getD, List.getElem?_set_self hj]
    exact ⟨hv, hT⟩
  · rw [List.getD_eq_getElem?_getD, List.getElem?_set_ne (Ne.symm hji), ← List.getD_eq_getElem?_getD]
    exact hE.2 j hj
theorem a_E_tags {g : Nat → Int} {E : AE} {L : List Int} (hE : a_E g E L) (i : Nat) : ∀ t ∈ (E.getD i (none, [])).2, a_to g (L.getD i 0) t := by
  by_cases hi : i < E.length
  · exact (hE.2 i hi).2
  · rw [List.getD_eq_getElem?_getD, List.getElem?_eq_none (by omega)]
    intro t ht; cases ht
theorem a_kill_no {E : AE} (h : E ≠ []) : a_dead (a_kill E) = true := by
  cases E with
  | nil => exact absurd rfl h
  | cons q t => rfl
theorem a_vc_ok {g : Nat → Int} {E : AE} {L : List Int} (hE : a_E g E L) {K : Nat → List Int → EM → EO} : ∀ {e : e_X} {i : Nat} {c : Int}, a_vc E e = some (i, c) → ∀ M xs, e_ev K L e M = some xs → xs.1 = [L.getD i 0 + c]
  | .mulL k e, i, c, h, M, xs, hx => by
    unfold a_vc at h
    split at h
    · rename_i hk
      unfold e_ev at hx
      rw [if_pos hk] at hx
      exact a_vc_ok hE h M xs hx
    · rename_i hk
      split at h
      · rename_i hk2
        subst hk2
        split at h
        · rename_i i' c'
          split at h
          · rename_i q hq
            split at h
            · rename_i hb
              obtain ⟨rfl, rfl⟩ : i' = i ∧ c' = c := by cases h; exact ⟨rfl, rfl⟩
              have h1 := a_E_at hE i'
              rw [hq] at h1
              obtain ⟨h2, h3, -⟩ := h1
              simp only [e_ev, if_neg hk] at hx
              have h9 : e_op (10 : Int).toNat [L.getD i' 0, c'] M = some (e_w (L.getD i' 0 + c')) := rfl
              simp only [Option.bind_some, List.cons_append, List.nil_append, if_neg (show ¬ ((5000 : Int) ≤ 10) by decide), h9] at hx
              cases hx
              rw [a_w_id (by omega) (by omega)]
            · cases h
          · cases h
        · cases h
      · cases h
  | .var j, i, c, h, M, xs, hx => by
    cases h
    cases hx
    rw [Int.add_zero]
  | .num _, _, _, h, _, _, _ => by cases h
  | .add _ _, _, _, h, _, _, _ => by cases h
  | .sub _ _, _, _, h, _, _, _ => by cases h
  | .neg _, _, _, h, _, _, _ => by cases h
  | .mulR _ _, _, _, h, _, _, _ => by cases h
theorem a_cut_ok {g : Nat → Int} {E : AE} {L : List Int} (hE : a_E g E L) {i : Option (Nat × Int)} {z : Int × Int × Bool} {a : Int} (hi : ∀ s c, i = some (s, c) → a = L.getD s 0 + c) (ha : a_g (some (.inl z)) a) : a_E g (a_cut E i z) L := by
  unfold a_cut
  split
  · exact hE
  · rename_i ic
    have h1 := hi ic.1 ic.2 rfl
    split
    · rename_i q hq
      have h2 := a_E_at hE ic.1
      rw [hq] at h2
      obtain ⟨h3, h4, h5⟩ := h2
      obtain ⟨z1, z2, z3⟩ := ha
      refine a_E_set hE ⟨by dsimp only; split <;> omega, by dsimp only; split <;> omega, fun h => ?_⟩ (a_E_tags hE _)
      dsimp only at h
      rw [Bool.or_eq_true, Bool.and_eq_true, decide_eq_true_eq] at h
      rcases h with h | ⟨h, h'⟩
      · exact h5 h
      · have := z3 h'
        omega
    · exact hE
/-- a_cut keeps what a_vc reads -/
theorem a_cut2_ok {g : Nat → Int} {E : AE} {L : List Int} (hE : a_E g E L) {i j : Option (Nat × Int)} {z : (Int × Int × Bool) × (Int × Int × Bool)} {a b : Int} (hi : ∀ s c, i = some (s, c) → a = L.getD s 0 + c) (hj : ∀ s c, j = some (s, c) → b = L.getD s 0 + c) (ha : a_g (some (.inl z.1)) a) (hb : a_g (some (.inl z.2)) b) : a_E g (a_cut2 E i j z) L := by
  unfold a_cut2
  split
  · rename_i h
    exfalso
    rw [Bool.or_eq_true] at h
    obtain ⟨a1, a2, -⟩ := ha
    obtain ⟨b1, b2, -⟩ := hb
    rcases h with h | h
    · have := of_decide_eq_true h; omega
    · have := of_decide_eq_true h; omega
  · exact a_cut_ok (a_cut_ok hE hi ha) hj hb
