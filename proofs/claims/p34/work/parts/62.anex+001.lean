section AEX
variable {W : AW} {call : Nat → List AV → Option AV} {g : Nat → Int}
theorem a_is_ok {c : Int} {L : List Int} {K : Nat → List Int → EM → EO} : ∀ {e : e_X}, a_is c e = true → ∀ M, e_ev K L e M = some ([c], M)
  | .num v, h, M => by have := of_decide_eq_true h; subst this; rfl
  | .mulL k e, h, M => by
    unfold a_is at h
    split at h
    · rename_i hk
      unfold e_ev
      rw [if_pos hk]
      exact a_is_ok h M
    · cases h
  | .var _, h, _ => by cases h
  | .add _ _, h, _ => by cases h
  | .sub _ _, h, _ => by cases h
  | .neg _, h, _ => by cases h
  | .mulR _ _, h, _ => by cases h
theorem a_op_01 {c : Bool} {b : Int} (h : (if c = true then (1 : Int) else 0) = b) : (b ≠ 0 → c = true) ∧ (b = 0 → c = false) := by
  subst h
  cases c
  · exact ⟨fun h => absurd rfl h, fun _ => rfl⟩
  · exact ⟨fun _ => rfl, fun h => by cases h⟩
theorem a_ng_ok {n : Nat} (hn : n < 6) {a b : Int} (h : e_crb n a b = false) : e_crb (e_ng n) a b = true := by rw [e_cr_ng hn, h]; rfl
theorem a_cmp_ok {E : AE} {k : Nat} {e : e_X} {xs : List AV} {R : AR} (hk : 40 ≤ k ∧ k < 60) (h : a_cmp E e k xs = some R) {L : List Int} {M M' : EM} {ys : List Int} (hE : a_E g E L) (he : e_ev E_C L e M = some (ys, M')) (hg : a_gs xs ys) :
    ∃ z, e_op k ys M' = some z ∧ a_gs R.1 [z] ∧ (z ≠ 0 → a_E g R.2.1 L) ∧ (z = 0 → a_E g R.2.2 L) := by
  unfold a_cmp at h
  have key : ∀ c : Bool, a_g (a_i 0 1) (if c = true then 1 else 0) := fun c => by cases c <;> exact a_gi (by decide) (by decide)
  split at h
  · rename_i x y
    obtain ⟨a, b, rfl, ha, hb⟩ := a_gs_2 hg
    split at h
    · rename_i hk2
      have hop : ∃ r, r < 6 ∧ (if k < 46 then k - 40 else k - 54) = r ∧ e_op k [a, b] M' = some (if e_crb r a b = true then 1 else 0) := by
        have hn : ¬ k = 60 ∧ ¬ k = 61 ∧ ¬ k = 62 := by omega
        have he2 : e_op k [a, b] M' = e_b2 k a b := by
          simp only [e_op, if_neg hn.1, if_neg hn.2.1, if_neg hn.2.2]
        rw [he2]
        by_cases h46 : k < 46
        · obtain ⟨n, rfl⟩ : ∃ n, k = 40 + n := ⟨k - 40, by omega⟩
          exact ⟨n, by omega, by rw [if_pos h46]; omega, (e_cr2 (by omega) a b).1⟩
        · obtain ⟨n, rfl⟩ : ∃ n, k = 54 + n := ⟨k - 54, by omega⟩
          exact ⟨n, by omega, by rw [if_neg h46]; omega, (e_cr2 (by omega) a b).2.1⟩
      obtain ⟨r, hr, hr1, hr2⟩ := hop
      rw [hr1] at h
      split at h
      · rename_i ea eb
        cases h
        simp only [e_ev, Option.bind_eq_some_iff] at he
        obtain ⟨p, hp, q, hq, h9⟩ := he
        have h10 : p.1 ++ q.1 = [a, b] := by
          have := congrArg (fun o => (o.map (fun z => z.1)).getD []) h9
          simpa using this
        have hva : ∀ s c, a_vc E ea = some (s, c) → a = L.getD s 0 + c := by
          intro s c hs
          have h11 := a_vc_ok hE hs M p hp
          rw [h11] at h10
          simp at h10
          exact h10.1.symm
        have hvb : ∀ s c, a_vc E eb = some (s, c) → b = L.getD s 0 + c := by
          intro s c hs
          have h11 := a_vc_ok hE hs p.2 q hq
          rw [h11] at h10
          have h12 := congrArg List.reverse h10
          simp at h12
          exact h12.1.symm
        refine ⟨_, hr2, ⟨key _, trivial⟩, fun hz => ?_, fun hz => ?_⟩
        · have hc := (a_op_01 rfl).1 hz
          obtain ⟨m1, m2⟩ := a_mt_ok hc ha hb
          exact a_cut2_ok hE hva hvb m1 m2
        · have hc := (a_op_01 rfl).2 hz
          obtain ⟨m1, m2⟩ := a_mt_ok (a_ng_ok hr hc) ha hb
          exact a_cut2_ok hE hva hvb m1 m2
      · cases h
        exact ⟨_, hr2, ⟨key _, trivial⟩, fun _ => hE, fun _ => hE⟩
    · cases h
  · rename_i x
    obtain ⟨a, rfl, ha⟩ := a_gs_1 hg
    split at h
    · rename_i hk2
      cases h
      obtain ⟨n, rfl⟩ : ∃ n, k = 46 + n := ⟨k - 46, by omega⟩
      rw [show 46 + n - 46 = n by omega]
      have hn : n < 6 := by omega
      have hr2 : e_op (46 + n) [a] M' = some (if e_crb n a 0 = true then 1 else 0) := by
        simp only [e_op, if_neg (show ¬ (46 + n = 63) by omega), (e_cr2 hn a 0).2.2]
      have hva : ∀ s c, a_vc E e = some (s, c) → a = L.getD s 0 + c := by
        intro s c hs
        have h11 := a_vc_ok hE hs M _ he
        cases h11
        rfl
      have h00 : a_g (some (.inl ((0 : Int), (0 : Int), false))) 0 := ⟨Int.le_refl _, Int.le_refl _, fun h => by cases h⟩
      refine ⟨_, hr2, ⟨key _, trivial⟩, fun hz => ?_, fun hz => ?_⟩
      · have hc := (a_op_01 rfl).1 hz
        obtain ⟨m1, m2⟩ := a_mt_ok hc ha h00
        exact a_cut2_ok hE hva (fun s c hs => by cases hs) m1 m2
      · have hc := (a_op_01 rfl).2 hz
        obtain ⟨m1, m2⟩ := a_mt_ok (a_ng_ok hn hc) ha h00
        exact a_cut2_ok hE hva (fun s c hs => by cases hs) m1 m2
    · cases h
  · cases h
theorem a_nul_ok {E : AE} {e : e_X} {isn : Bool} {ids : List Int} {L : List Int} {M M' : EM} {x : Int} (hE : a_E g E L) (he : e_ev E_C L e M = some ([x], M')) (hx : x ∈ ids) :
    ∃ z, e_op (if isn = true then 52 else 53) [x] M' = some z ∧ a_gs (a_nul E e isn ids).1 [z] ∧ (z ≠ 0 → a_E g (a_nul E e isn ids).2.1 L) ∧ (z = 0 → a_E g (a_nul E e isn ids).2.2 L) := by
  have hop : e_op (if isn = true then 52 else 53) [x] M' = some (if (decide (x = -1) == isn) = true then 1 else 0) := by
    cases isn
    · by_cases hx1 : x = -1 <;> simp [e_op, e_b1, hx1]
    · by_cases hx1 : x = -1 <;> simp [e_op, e_b1, hx1]
  refine ⟨_, hop, ?_⟩
  have key : ∀ c : Bool, a_g (a_i 0 1) (if c = true then 1 else 0) := fun c => by cases c <;> exact a_gi (by decide) (by decide)
  unfold a_nul
  split
  · rename_i i
    cases he
    refine ⟨⟨key _, trivial⟩, fun hz => ?_, fun hz => ?_⟩
    · have hc := (a_op_01 rfl).1 hz
      exact a_E_set hE (List.mem_filter.mpr ⟨hx, hc⟩) (a_E_tags hE _)
    · have hc := (a_op_01 rfl).2 hz
      exact a_E_set hE (List.mem_filter.mpr ⟨hx, by rw [hc]; rfl⟩) (a_E_tags hE _)
  · exact ⟨⟨key _, trivial⟩, fun _ => hE, fun _ => hE⟩
theorem a_opx_ok {E : AE} {k : Nat} {e : e_X} {xs : List AV} {R : AR} (h : a_opx E k e xs = some R) {L : List Int} {M M' : EM} {ys : List Int} (hE : a_E g E L) (hM : a_M M') (he : e_ev E_C L e M = some (ys, M')) (hg : a_gs xs ys) :
    ∃ z, e_op k ys M' = some z ∧ a_gs R.1 [z] ∧ (z ≠ 0 → a_E g R.2.1 L) ∧ (z = 0 → a_E g R.2.2 L) := by
  unfold a_opx at h
  split at h
  · rename_i hk
    split at h
    · rename_i x
      obtain ⟨a, rfl, ha1, ha2, -⟩ := a_gs_1 hg
      split at h
      · rename_i hx
        cases h
        refine ⟨a, ?_, ⟨?_, trivial⟩, fun _ => hE, fun _ => hE⟩
        · rcases hk with rfl | rfl <;> rfl
        · show a ∈ [x.1]
          rw [List.mem_singleton]; omega
      · cases h
    · cases h
  split at h
  · rename_i hk
    subst hk
    split at h
    · rename_i ids
      obtain ⟨a, rfl, ha⟩ := a_gs_1 hg
      obtain ⟨v, hv, rfl⟩ := Option.map_eq_some_iff.mp h
      obtain ⟨w, w1, w2⟩ := a_all_ok hv a ha
      obtain ⟨z, z1, z2⟩ := a_len_ok (M := M') w1
      exact ⟨z, z1, ⟨w2 z z2, trivial⟩, fun _ => hE, fun _ => hE⟩
    · cases h
  split at h
  · split at h
    · rename_i ids i
      obtain ⟨a, j, rfl, ha, hj⟩ := a_gs_2 hg
      obtain ⟨v, hv, rfl⟩ := Option.map_eq_some_iff.mp h
      obtain ⟨w, w1, w2⟩ := a_all_ok hv a ha
      obtain ⟨z, z1, z2⟩ := a_ld_ok w1 hM hj
      exact ⟨z, z1, ⟨w2 z z2, trivial⟩, fun _ => hE, fun _ => hE⟩
    · cases h
  split at h
  · rename_i hk
    split at h
    · rename_i ids
      obtain ⟨a, rfl, ha⟩ := a_gs_1 hg
      cases h
      have h1 := a_nul_ok (isn := k == 52) hE he ha
      rcases hk with rfl | rfl
      · exact h1
      · exact h1
    · cases h
  split at h
  · rename_i hk
    exact a_cmp_ok hk h hE he hg
  · rename_i n2 n63 n60 n52 n40
    split at h
    · rename_i x y
      obtain ⟨a, b, rfl, ha, hb⟩ := a_gs_2 hg
      obtain ⟨v, hv, rfl⟩ := Option.map_eq_some_iff.mp h
      obtain ⟨z, z1, z2⟩ := a_b2_ok hv ha hb
      refine ⟨z, ?_, ⟨z2, trivial⟩, fun _ => hE, fun _ => hE⟩
      have n61 : ¬ k = 61 := fun h => by subst h; cases hv
      simp only [e_op, if_neg (fun h => n60 (Or.inl h)), if_neg n61, if_neg (fun h => n60 (Or.inr h))]
      exact z1
    · rename_i x
      obtain ⟨a, rfl, ha⟩ := a_gs_1 hg
      obtain ⟨v, hv, rfl⟩ := Option.map_eq_some_iff.mp h
      obtain ⟨z, z1, z2⟩ := a_b1_ok hv ha
      refine ⟨z, ?_, ⟨z2, trivial⟩, fun _ => hE, fun _ => hE⟩
      simp only [e_op, if_neg n63]
      exact z1
    · cases h
end AEX
