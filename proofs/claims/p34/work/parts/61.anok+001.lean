theorem a_b1_ok {k : Nat} {x : Int × Int × Bool} {v : AV} {a : Int} (h : a_b1 k x = some v) (ha : a_g (some (.inl x)) a) : ∃ z, e_b1 k a = some z ∧ a_g v z := by
  have ha' := ha
  obtain ⟨a1, a2, a3⟩ := ha
  unfold a_b1 at h
  split at h
  · cases h; exact ⟨_, rfl, ha'⟩
  · cases h; exact ⟨_, rfl, a_T32_ok (a_w _)⟩
  · cases h; exact ⟨_, rfl, ha'⟩
  · cases h
    refine ⟨_, rfl, ?_⟩
    split
    · rename_i hc; rw [a_w_id (by omega) (by omega)]; exact ha'
    · exact a_T32_ok (a_w _)
  · cases h; exact ⟨_, rfl, a_gi (by omega) (by omega)⟩
  · cases h; exact ⟨_, rfl, a_gi (by omega) (by omega)⟩
  · split at h
    · rename_i hc
      cases h
      refine ⟨_, rfl, ?_⟩
      split
      · exact a_T32_ok ⟨by omega, by omega⟩
      · exact a_T32_ok (a_w _)
    · cases h
  · split at h
    · rename_i hk
      cases h
      have key : ∀ c : Bool, a_g (a_i 0 1) (if c = true then 1 else 0) := fun c => by cases c <;> exact a_gi (by decide) (by decide)
      obtain ⟨n, rfl⟩ : ∃ n, k = 46 + n := ⟨k - 46, by omega⟩
      exact ⟨_, (e_cr2 (by omega) a 0).2.2, key _⟩
    · cases h
theorem a_mt_ok {r : Nat} {x y : Int × Int × Bool} {a b : Int} (hr : e_crb r a b = true) (ha : a_g (some (.inl x)) a) (hb : a_g (some (.inl y)) b) : a_g (some (.inl (a_mt r x y).1)) a ∧ a_g (some (.inl (a_mt r x y).2)) b := by
  have ha' := ha
  have hb' := hb
  obtain ⟨a1, a2, a3⟩ := ha
  obtain ⟨b1, b2, b3⟩ := hb
  unfold a_mt
  split
  · have hab : a = b := of_decide_eq_true hr
    subst hab
    have : a_g (some (.inl (if x.1 ≤ y.1 then y.1 else x.1, if x.2.1 ≤ y.2.1 then x.2.1 else y.2.1, x.2.2 || y.2.2))) a := by
      refine ⟨by dsimp only; split <;> omega, by dsimp only; split <;> omega, fun h => ?_⟩
      dsimp only at h
      rw [Bool.or_eq_true] at h
      exact h.elim a3 b3
    exact ⟨this, this⟩
  · have hab : a ≠ b := of_decide_eq_true hr
    split
    · rename_i hy
      refine ⟨⟨by dsimp only; split <;> omega, by dsimp only; split <;> omega, fun h => ?_⟩, hb'⟩
      dsimp only at h
      rw [Bool.or_eq_true, decide_eq_true_eq] at h
      rcases h with h | h
      · exact a3 h
      · omega
    · exact ⟨ha', hb'⟩
  · have hab : a < b := of_decide_eq_true hr
    exact ⟨⟨a1, by dsimp only; split <;> omega, a3⟩, ⟨by dsimp only; split <;> omega, b2, b3⟩⟩
  · have hab : b ≤ a := of_decide_eq_true hr
    exact ⟨⟨by dsimp only; split <;> omega, a2, a3⟩, ⟨b1, by dsimp only; split <;> omega, b3⟩⟩
  · have hab : b < a := of_decide_eq_true hr
    exact ⟨⟨by dsimp only; split <;> omega, a2, a3⟩, ⟨b1, by dsimp only; split <;> omega, b3⟩⟩
  · rename_i h0 h1 h2 h3 h4
    have hab : a ≤ b := by
      unfold e_crb at hr
      split at hr
      · exact absurd rfl (h0 )
      · exact absurd rfl (h1 )
      · exact absurd rfl (h2 )
      · exact absurd rfl (h3 )
      · exact absurd rfl (h4 )
      · exact of_decide_eq_true hr
    exact ⟨⟨a1, by dsimp only; split <;> omega, a3⟩, ⟨by dsimp only; split <;> omega, b2, b3⟩⟩
/-! reads -/
theorem a_rd_ok {M : EM} {id k : Nat} {lo hi : Int} (hM : a_M M) (h5 : id ≠ 5) (h1 : lo ≤ (k : Int)) (h2 : (k : Int) ≤ hi) : a_g (a_rd id lo hi) (M id k) := by
  obtain ⟨m1, m2, m3⟩ := hM id k h5
  unfold a_rd
  split
  · rename_i s hs
    have hp := List.find?_some hs
    have hm := List.mem_of_find?_eq_some hs
    simp only [Bool.and_eq_true, decide_eq_true_eq] at hp
    have := m3 s hm (by omega) (by omega)
    exact a_gi this.1 this.2
  · exact a_gi m1 m2
theorem a_ld_ok {M : EM} {k : Nat} {i : Int × Int × Bool} {id j : Int} {v : AV} (h : a_ld k i id = some v) (hM : a_M M) (hj : a_g (some (.inl i)) j) : ∃ z, e_op k [id, j] M = some z ∧ a_g v z := by
  obtain ⟨j1, j2, -⟩ := hj
  unfold a_ld at h
  split at h
  · rename_i hc
    obtain ⟨c1, c2, c3, c4, c5⟩ := hc
    have hne : id.toNat ≠ 0 := by omega
    have hsz : e_sz M id.toNat = (e_sh id.toNat).2 := if_neg hne
    split at h
    · rename_i hk
      subst hk
      split at h
      · rename_i h100
        cases h
        have h5 : id.toNat ≠ 5 := fun e => by rw [e] at h100; exact absurd h100 (by decide +kernel)
        refine ⟨M id.toNat j.toNat, ?_, a_rd_ok hM h5 (by omega) (by omega)⟩
        simp only [e_op, if_pos]
        exact if_pos ⟨c1, c2, h100, by omega, by rw [hsz]; omega⟩
      · cases h
    · split at h
      · rename_i hk
        subst hk
        split at h
        · rename_i h102
          cases h
          refine ⟨e_gr id.toNat j.toNat, ?_, ?_⟩
          · simp only [e_op, if_neg (show ¬ (62 = 60) by decide), if_neg (show ¬ (62 = 61) by decide), if_pos]
            exact if_pos ⟨c1, c2, h102, by omega, by rw [hsz]; omega⟩
          · refine List.mem_map.mpr ⟨j.toNat - i.1.toNat, List.mem_range.mpr (by omega), ?_⟩
            rw [show i.1.toNat + (j.toNat - i.1.toNat) = j.toNat by omega]
        · cases h
      · cases h
  · cases h
theorem a_fld_ok {M : EM} {key : Nat} {id : Int} {v : AV} (h : a_fld key id = some v) (hM : a_M M) : ∃ z, e_gf key [id] M = some z ∧ a_g v z := by
  unfold a_fld at h
  split at h
  · rename_i hc
    cases h
    refine ⟨_, if_pos hc, ?_⟩
    split
    · exact List.mem_cons_self
    · refine a_rd_ok hM ?_ (Int.le_refl _) (Int.le_refl _)
      have := hc.1
      omega
  · cases h
theorem a_len_ok {M : EM} {id : Int} {v : AV} (h : a_len id = some v) : ∃ z, e_op 63 [id] M = some z ∧ a_g v z := by
  unfold a_len at h
  split at h
  · rename_i hc
    cases h
    have hne : id.toNat ≠ 0 := by omega
    have hsz : e_sz M id.toNat = (e_sh id.toNat).2 := if_neg hne
    refine ⟨(e_sz M id.toNat : Int), ?_, ?_⟩
    · simp only [e_op, if_pos]
      exact if_pos ⟨by omega, hc.2.1, hc.2.2⟩
    · rw [hsz]; exact a_gi (Int.le_refl _) (Int.le_refl _)
  · cases h
theorem a_all_ok {f : Int → Option AV} : ∀ {ids : List Int} {v : AV}, a_all f a_join ids = some v → ∀ x ∈ ids, ∃ w, f x = some w ∧ ∀ z, a_g w z → a_g v z
  | [], v, h, x, hx => by cases hx
  | [y], v, h, x, hx => by
    have : x = y := List.mem_singleton.mp hx
    subst this
    exact ⟨v, h, fun z hz => hz⟩
  | y :: y2 :: t, v, h, x, hx => by
    unfold a_all at h
    split at h
    · rename_i a b h1 h2
      cases h
      rcases List.mem_cons.mp hx with rfl | hx
      · exact ⟨a, h1, fun z hz => a_join_ok (Or.inl hz)⟩
      · obtain ⟨w, w1, w2⟩ := a_all_ok h2 x hx
        exact ⟨w, w1, fun z hz => a_join_ok (Or.inr (w2 z hz))⟩
    · cases h
