section
theorem a_fr_rf {W : AW} {M : EM} : a_fr W M M := fun _ _ _ => rfl
theorem a_fr_tr {W : AW} {M M1 M2 : EM} (h1 : a_fr W M M1) (h2 : a_fr W M1 M2) : a_fr W M M2 := fun id k hw => (h2 id k hw).trans (h1 id k hw)
theorem a_gs_app : ∀ {vs ws : List AV} {xs ys : List Int}, a_gs vs xs → a_gs ws ys → a_gs (vs ++ ws) (xs ++ ys)
  | [], _, [], _, _, h => h
  | _ :: _, _, _ :: _, _, h, k => ⟨h.1, a_gs_app h.2 k⟩
  | [], _, _ :: _, _, h, _ => h.elim
  | _ :: _, _, [], _, h, _ => h.elim
theorem a_gs_1 {v : AV} {xs : List Int} (h : a_gs [v] xs) : ∃ x, xs = [x] ∧ a_g v x := by
  match xs, h with
  | [x], h => exact ⟨x, rfl, h.1⟩
  | [], h => exact h.elim
  | _ :: _ :: _, h => exact h.2.elim
theorem a_gs_c {v : AV} {vs : List AV} {xs : List Int} (h : a_gs (v :: vs) xs) : ∃ x xs', xs = x :: xs' ∧ a_g v x ∧ a_gs vs xs' := by
  match xs, h with
  | x :: xs', h => exact ⟨x, xs', rfl, h.1, h.2⟩
  | [], h => exact h.elim
theorem a_gs_2 {v w : AV} {xs : List Int} (h : a_gs [v, w] xs) : ∃ x y, xs = [x, y] ∧ a_g v x ∧ a_g w y := by
  obtain ⟨x, xs', rfl, h1, h2⟩ := a_gs_c h
  obtain ⟨y, rfl, h3⟩ := a_gs_1 h2
  exact ⟨x, y, rfl, h1, h3⟩
theorem a_gs_3 {v w u : AV} {xs : List Int} (h : a_gs [v, w, u] xs) : ∃ x y z, xs = [x, y, z] ∧ a_g v x ∧ a_g w y ∧ a_g u z := by
  obtain ⟨x, xs', rfl, h1, h2⟩ := a_gs_c h
  obtain ⟨y, z, rfl, h3, h4⟩ := a_gs_2 h2
  exact ⟨x, y, z, rfl, h1, h3, h4⟩
theorem a_gs_len {vs : List AV} {xs : List Int} (h : vs.length = 1) (hx : a_gs vs xs) : ∃ x, xs = [x] := by
  match vs, h with
  | [v], _ =>
    obtain ⟨x, rfl, -⟩ := a_gs_1 hx
    exact ⟨x, rfl⟩
/-- calls that the analysis has looked at -/
def a_CALL (W : AW) (call : Nat → List AV → Option AV) : Prop := ∀ u xs v, call u xs = some v → ∀ as M, a_gs xs as → a_M M → ∃ r M', E_C u as M = some (r, M') ∧ a_g v r ∧ a_M M' ∧ a_fr W M M'
def a_XP (W : AW) (g : Nat → Int) (E : AE) (e : e_X) (R : AR) : Prop := ∀ L M, a_E g E L → a_M M → ∃ xs M', e_ev E_C L e M = some (xs, M') ∧ a_gs R.1 xs ∧ a_M M' ∧ a_fr W M M' ∧ ∀ b, xs = [b] → (b ≠ 0 → a_E g R.2.1 L) ∧ (b = 0 → a_E g R.2.2 L)
section AEX
variable {W : AW} {call : Nat → List AV → Option AV} {g : Nat → Int}
theorem a_is_ok {c : Int} {L : List Int} {K : Nat → List Int → EM → EO} : ∀ {e : e_X}, a_is c e = true → ∀ M, e_ev K L e M = some ([c], M)
  | .num v, h, M => by have := of_decide_eq_true h; subst this; rfl
  | .mulL k e, h, M => by
    unfold a_is at h
    split at h
    · rename_i hk
      unfold e_ev
      rw [if_pos hk]
      exact a_is_ok h M
    · cases h
  | .var _, h, _ => by cases h
  | .add _ _, h, _ => by cases h
  | .sub _ _, h, _ => by cases h
  | .neg _, h, _ => by cases h
  | .mulR _ _, h, _ => by cases h
theorem a_op_01 {c : Bool} {b : Int} (h : (if c = true then (1 : Int) else 0) = b) : (b ≠ 0 → c = true) ∧ (b = 0 → c = false) := by
  subst h
  cases c
  · exact ⟨fun h => absurd rfl h, fun _ => rfl⟩
  · exact ⟨fun _ => rfl, fun h => by cases h⟩
theorem a_ng_ok {n : Nat} (hn : n < 6) {a b : Int} (h : e_crb n a b = false) : e_crb (e_ng n) a b = true := by rw [e_cr_ng hn, h]; rfl
theorem a_cmp_ok {E : AE} {k : Nat} {e : e_X} {xs : List AV} {R : AR} (hk : 40 ≤ k ∧ k < 60) (h : a_cmp E e k xs = some R) {L : List Int} {M M' : EM} {ys : List Int} (hE : a_E g E L) (he : e_ev E_C L e M = some (ys, M')) (hg : a_gs xs ys) :
    ∃ z, e_op k ys M' = some z ∧ a_gs R.1 [z] ∧ (z ≠ 0 → a_E g R.2.1 L) ∧ (z = 0 → a_E g R.2.2 L) := by
  unfold a_cmp at h
  have key : ∀ c : Bool, a_g (a_i 0 1) (if c = true then 1 else 0) := fun c => by cases c <;> exact a_gi (by decide) (by decide)
  split at h
  · rename_i x y
    obtain ⟨a, b, rfl, ha, hb⟩ := a_gs_2 hg
    split at h
    · rename_i hk2
      have hop : ∃ r, r < 6 ∧ (if k < 46 then k - 40 else k - 54) = r ∧ e_op k [a, b] M' = some (if e_crb r a b = true then 1 else 0) := by
        have hn : ¬ k = 60 ∧ ¬ k = 61 ∧ ¬ k = 62 := by omega
        have he2 : e_op k [a, b] M' = e_b2 k a b := by
          simp only [e_op, if_neg hn.1, if_neg hn.2.1, if_neg hn.2.2]
        rw [he2]
        by_cases h46 : k < 46
        · obtain ⟨n, rfl⟩ : ∃ n, k = 40 + n := ⟨k - 40, by omega⟩
          exact ⟨n, by omega, by rw [if_pos h46]; omega, (e_cr2 (by omega) a b).1⟩
        · obtain ⟨n, rfl⟩ : ∃ n, k = 54 + n := ⟨k - 54, by omega⟩
          exact ⟨n, by omega, by rw [if_neg h46]; omega, (e_cr2 (by omega) a b).2.1⟩
      obtain ⟨r, hr, hr1, hr2⟩ := hop
      rw [hr1] at h
      split at h
      · rename_i ea eb
        cases h
        simp only [e_ev, Option.bind_eq_some_iff] at he
        obtain ⟨p, hp, q, hq, h9⟩ := he
        have h10 : p.1 ++ q.1 = [a, b] := by
          have := congrArg (fun o => (o.map (fun z => z.1)).getD []) h9
          simpa using this
        have hva : ∀ s c, a_vc E ea = some (s, c) → a = L.getD s 0 + c := by
          intro s c hs
          have h11 := a_vc_ok hE hs M p hp
          rw [h11] at h10
          simp at h10
          exact h10.1.symm
        have hvb : ∀ s c, a_vc E eb = some (s, c) → b = L.getD s 0 + c := by
          intro s c hs
          have h11 := a_vc_ok hE hs p.2 q hq
          rw [h11] at h10
          have h12 := congrArg List.reverse h10
          simp at h12
          exact h12.1.symm
        refine ⟨_, hr2, ⟨key _, trivial⟩, fun hz => ?_, fun hz => ?_⟩
        · have hc := (a_op_01 rfl).1 hz
          obtain ⟨m1, m2⟩ := a_mt_ok hc ha hb
          exact a_cut2_ok hE hva hvb m1 m2
        · have hc := (a_op_01 rfl).2 hz
          obtain ⟨m1, m2⟩ := a_mt_ok (a_ng_ok hr hc) ha hb
          exact a_cut2_ok hE hva hvb m1 m2
      · cases h
        exact ⟨_, hr2, ⟨key _, trivial⟩, fun _ => hE, fun _ => hE⟩
    · cases h
  · rename_i x
    obtain ⟨a, rfl, ha⟩ := a_gs_1 hg
    split at h
    · rename_i hk2
      cases h
      obtain ⟨n, rfl⟩ : ∃ n, k = 46 + n := ⟨k - 46, by omega⟩
      rw [show 46 + n - 46 = n by omega]
      have hn : n < 6 := by omega
      have hr2 : e_op (46 + n) [a] M' = some (if e_crb n a 0 = true then 1 else 0) := by
        simp only [e_op, if_neg (show ¬ (46 + n = 63) by omega), (e_cr2 hn a 0).2.2]
      have hva : ∀ s c, a_vc E e = some (s, c) → a = L.getD s 0 + c := by
        intro s c hs
        have h11 := a_vc_ok hE hs M _ he
        cases h11
        rfl
      have h00 : a_g (some (.inl ((0 : Int), (0 : Int), false))) 0 := ⟨Int.le_refl _, Int.le_refl _, fun h => by cases h⟩
      refine ⟨_, hr2, ⟨key _, trivial⟩, fun hz => ?_, fun hz => ?_⟩
      · have hc := (a_op_01 rfl).1 hz
        obtain ⟨m1, m2⟩ := a_mt_ok hc ha h00
        exact a_cut2_ok hE hva (fun s c hs => by cases hs) m1 m2
      · have hc := (a_op_01 rfl).2 hz
        obtain ⟨m1, m2⟩ := a_mt_ok (a_ng_ok hn hc) ha h00
        exact a_cut2_ok hE hva (fun s c hs => by cases hs) m1 m2
    · cases h
  · cases h
theorem a_nul_ok {E : AE} {e : e_X} {isn : Bool} {ids : List Int} {L : List Int} {M M' : EM} {x : Int} (hE : a_E g E L) (he : e_ev E_C L e M = some ([x], M')) (hx : x ∈ ids) :
    ∃ z, e_op (if isn = true then 52 else 53) [x] M' = some z ∧ a_gs (a_nul E e isn ids).1 [z] ∧ (z ≠ 0 → a_E g (a_nul E e isn ids).2.1 L) ∧ (z = 0 → a_E g (a_nul E e isn ids).2.2 L) := by
  have hop : e_op (if isn = true then 52 else 53) [x] M' = some (if (decide (x = -1) == isn) = true then 1 else 0) := by
    cases isn
    · by_cases hx1 : x = -1 <;> simp [e_op, e_b1, hx1]
    · by_cases hx1 : x = -1 <;> simp [e_op, e_b1, hx1]
  refine ⟨_, hop, ?_⟩
  have key : ∀ c : Bool, a_g (a_i 0 1) (if c = true then 1 else 0) := fun c => by cases c <;> exact a_gi (by decide) (by decide)
  unfold a_nul
  split
  · rename_i i
    cases he
    refine ⟨⟨key _, trivial⟩, fun hz => ?_, fun hz => ?_⟩
    · have hc := (a_op_01 rfl).1 hz
      exact a_E_set hE (List.mem_filter.mpr ⟨hx, hc⟩) (a_E_tags hE _)
    · have hc := (a_op_01 rfl).2 hz
      exact a_E_set hE (List.mem_filter.mpr ⟨hx, by rw [hc]; rfl⟩) (a_E_tags hE _)
  · exact ⟨⟨key _, trivial⟩, fun _ => hE, fun _ => hE⟩
theorem a_opx_ok {E : AE} {k : Nat} {e : e_X} {xs : List AV} {R : AR} (h : a_opx E k e xs = some R) {L : List Int} {M M' : EM} {ys : List Int} (hE : a_E g E L) (hM : a_M M') (he : e_ev E_C L e M = some (ys, M')) (hg : a_gs xs ys) :
    ∃ z, e_op k ys M' = some z ∧ a_gs R.1 [z] ∧ (z ≠ 0 → a_E g R.2.1 L) ∧ (z = 0 → a_E g R.2.2 L) := by
  unfold a_opx at h
  split at h
  · rename_i hk
    split at h
    · rename_i x
      obtain ⟨a, rfl, ha1, ha2, -⟩ := a_gs_1 hg
      split at h
      · rename_i hx
        cases h
        refine ⟨a, ?_, ⟨?_, trivial⟩, fun _ => hE, fun _ => hE⟩
        · rcases hk with rfl | rfl <;> rfl
        · show a ∈ [x.1]
          rw [List.mem_singleton]; omega
      · cases h
    · cases h
  split at h
  · rename_i hk
    subst hk
    split at h
    · rename_i ids
      obtain ⟨a, rfl, ha⟩ := a_gs_1 hg
      obtain ⟨v, hv, rfl⟩ := Option.map_eq_some_iff.mp h
      obtain ⟨w, w1, w2⟩ := a_all_ok hv a ha
      obtain ⟨z, z1, z2⟩ := a_len_ok (M := M') w1
      exact ⟨z, z1, ⟨w2 z z2, trivial⟩, fun _ => hE, fun _ => hE⟩
    · cases h
  split at h
  · split at h
    · rename_i ids i
      obtain ⟨a, j, rfl, ha, hj⟩ := a_gs_2 hg
      obtain ⟨v, hv, rfl⟩ := Option.map_eq_some_iff.mp h
      obtain ⟨w, w1, w2⟩ := a_all_ok hv a ha
      obtain ⟨z, z1, z2⟩ := a_ld_ok w1 hM hj
      exact ⟨z, z1, ⟨w2 z z2, trivial⟩, fun _ => hE, fun _ => hE⟩
    · cases h
  split at h
  · rename_i hk
    split at h
    · rename_i ids
      obtain ⟨a, rfl, ha⟩ := a_gs_1 hg
      cases h
      have h1 := a_nul_ok (isn := k == 52) hE he ha
      rcases hk with rfl | rfl
      · exact h1
      · exact h1
    · cases h
  split at h
  · rename_i hk
    exact a_cmp_ok hk h hE he hg
  · rename_i n2 n63 n60 n52 n40
    split at h
    · rename_i x y
      obtain ⟨a, b, rfl, ha, hb⟩ := a_gs_2 hg
      obtain ⟨v, hv, rfl⟩ := Option.map_eq_some_iff.mp h
      obtain ⟨z, z1, z2⟩ := a_b2_ok hv ha hb
      refine ⟨z, ?_, ⟨z2, trivial⟩, fun _ => hE, fun _ => hE⟩
      have n61 : ¬ k = 61 := fun h => by subst h; cases hv
      simp only [e_op, if_neg (fun h => n60 (Or.inl h)), if_neg n61, if_neg (fun h => n60 (Or.inr h))]
      exact z1
    · rename_i x
      obtain ⟨a, rfl, ha⟩ := a_gs_1 hg
      obtain ⟨v, hv, rfl⟩ := Option.map_eq_some_iff.mp h
      obtain ⟨z, z1, z2⟩ := a_b1_ok hv ha
      refine ⟨z, ?_, ⟨z2, trivial⟩, fun _ => hE, fun _ => hE⟩
      simp only [e_op, if_neg n63]
      exact z1
    · cases h
theorem a_ite_ok {a b c : e_X} {E : AE} {p R : AR} {ra rb : Option AR} (hc : a_XP W g E c p) (ha : ∀ q, ra = some q → a_XP W g p.2.1 a q) (hb : ∀ q, rb = some q → a_XP W g p.2.2 b q) (hp1 : ∀ xs, a_gs p.1 xs → ∃ x, xs = [x]) (h : a_ite a b E p.2.1 p.2.2 ra rb = some R) : a_XP W g E (.sub c (.add a b)) R := by
  intro L M hE hM
  obtain ⟨xs, M1, e1, e2, e3, e4, e5⟩ := hc L M hE hM
  obtain ⟨x, rfl⟩ := hp1 xs e2
  obtain ⟨h5, h6⟩ := e5 x rfl
  have hev : e_ev E_C L (.sub c (.add a b)) M = (if x = 0 then e_ev E_C L b M1 else e_ev E_C L a M1) := by
    simp only [e_ev, e1, Option.bind_some]
    by_cases hx : x = 0
    · rw [if_pos hx, if_pos (by rw [hx])]
    · rw [if_neg hx, if_neg (fun q => hx (by cases q; rfl))]
  rw [hev]
  unfold a_ite at h
  by_cases hx : x = 0
  · rw [if_pos hx]
    have hF := h6 hx
    have hnd : ¬ a_dead p.2.2 = true := fun q => a_dead_ok q hF
    rw [if_neg hnd] at h
    cases hrb : rb with
    | none =>
      rw [hrb] at h
      simp only [Option.map_none] at h
      first
        | (cases h; done)
        | (split at h <;> simp_all)
    | some q =>
      rw [hrb] at h
      obtain ⟨ys, M2, f1, f2, f3, f4, f5⟩ := hb q hrb L M1 hF e3
      rw [f1]
      simp only [Option.map_some] at h
      split at h
      · rename_i pp qq h1 h2
        cases h2
        split at h
        · rename_i u v hu hv
          cases h
          rw [hv] at f2
          obtain ⟨y, rfl, hy⟩ := a_gs_1 f2
          refine ⟨[y], M2, rfl, ⟨a_join_ok (Or.inr hy), trivial⟩, f3, a_fr_tr e4 f4, fun b' hb' => ?_⟩
          cases hb'
          obtain ⟨f6, f7⟩ := f5 y rfl
          refine ⟨fun hy0 => ?_, fun hy0 => ?_⟩
          · dsimp only
            split
            · rename_i h0
              have := a_is_ok (L := L) (K := E_C) h0 M1
              rw [this] at f1
              cases f1
              exact absurd rfl hy0
            · split
              · exact f6 hy0
              · exact hE
          · dsimp only
            split
            · rename_i h0
              have := a_is_ok (L := L) (K := E_C) h0 M1
              rw [this] at f1
              cases f1
              cases hy0
            · split
              · exact f7 hy0
              · exact hE
        · cases h
      · rename_i pp h1 h2
        cases h2
      · rename_i qq h1 h2
        cases h2
        cases h
        refine ⟨ys, M2, rfl, f2, f3, a_fr_tr e4 f4, fun b' hb' => ?_⟩
        obtain ⟨f6, f7⟩ := f5 b' hb'
        refine ⟨fun hy0 => ?_, fun hy0 => ?_⟩
        · dsimp only
          split
          · rename_i h0
            have := a_is_ok (L := L) (K := E_C) h0 M1
            rw [this] at f1
            cases f1
            cases hb'
            exact absurd rfl hy0
          · split
            · exact f6 hy0
            · exact hE
        · dsimp only
          split
          · rename_i h0
            have := a_is_ok (L := L) (K := E_C) h0 M1
            rw [this] at f1
            cases f1
            cases hb'
            cases hy0
          · split
            · exact f7 hy0
            · exact hE
      · cases h
  · rw [if_neg hx]
    have hT := h5 hx
    have hnd : ¬ a_dead p.2.1 = true := fun q => a_dead_ok q hT
    rw [if_neg hnd] at h
    cases hra : ra with
    | none =>
      rw [hra] at h
      simp only [Option.map_none] at h
      first
        | (cases h; done)
        | (split at h <;> simp_all)
    | some q =>
      rw [hra] at h
      obtain ⟨ys, M2, f1, f2, f3, f4, f5⟩ := ha q hra L M1 hT e3
      rw [f1]
      simp only [Option.map_some] at h
      split at h
      · rename_i pp qq h1 h2
        cases h1
        split at h
        · rename_i u v hu hv
          cases h
          rw [hu] at f2
          obtain ⟨y, rfl, hy⟩ := a_gs_1 f2
          refine ⟨[y], M2, rfl, ⟨a_join_ok (Or.inl hy), trivial⟩, f3, a_fr_tr e4 f4, fun b' hb' => ?_⟩
          cases hb'
          obtain ⟨f6, f7⟩ := f5 y rfl
          refine ⟨fun hy0 => ?_, fun hy0 => ?_⟩
          · dsimp only
            split
            · exact f6 hy0
            · split
              · rename_i h0
                have := a_is_ok (L := L) (K := E_C) h0 M1
                rw [this] at f1
                cases f1
                exact absurd rfl hy0
              · exact hE
          · dsimp only
            split
            · exact f7 hy0
            · split
              · rename_i h0
                have := a_is_ok (L := L) (K := E_C) h0 M1
                rw [this] at f1
                cases f1
                cases hy0
              · exact hE
        · cases h
      · rename_i pp h1 h2
        cases h1
        cases h
        refine ⟨ys, M2, rfl, f2, f3, a_fr_tr e4 f4, fun b' hb' => ?_⟩
        obtain ⟨f6, f7⟩ := f5 b' hb'
        refine ⟨fun hy0 => ?_, fun hy0 => ?_⟩
        · dsimp only
          split
          · rename_i h0
            have := a_is_ok (L := L) (K := E_C) h0 M1
            rw [this] at f1
            cases f1
            cases hb'
            exact absurd rfl hy0
          · split
            · exact f6 hy0
            · exact hE
        · dsimp only
          split
          · rename_i h0
            have := a_is_ok (L := L) (K := E_C) h0 M1
            rw [this] at f1
            cases f1
            cases hb'
            cases hy0
          · split
            · exact f7 hy0
            · exact hE
      · rename_i qq h1 h2
        cases h1
      · cases h
theorem a_ex_ok (hC : a_CALL W call) : ∀ (e : e_X) (E : AE) (R : AR), a_ex call e E = some R → a_XP W g E e R
  | .num v, E, R, h => by
    cases h
    intro L M hE hM
    exact ⟨[v], M, rfl, ⟨a_gi (Int.le_refl _) (Int.le_refl _), trivial⟩, hM, a_fr_rf, fun b hb => ⟨fun _ => hE, fun _ => hE⟩⟩
  | .var i, E, R, h => by
    unfold a_ex at h
    split at h
    · cases h
      intro L M hE hM
      exact ⟨[L.getD i 0], M, rfl, ⟨a_E_at hE i, trivial⟩, hM, a_fr_rf, fun b hb => ⟨fun _ => hE, fun _ => hE⟩⟩
    · cases h
  | .add a b, E, R, h => by
    unfold a_ex at h
    split at h
    · rename_i p q hp hq
      cases h
      intro L M hE hM
      obtain ⟨xs, M1, e1, e2, e3, e4, -⟩ := a_ex_ok hC a E p hp L M hE hM
      obtain ⟨ys, M2, f1, f2, f3, f4, -⟩ := a_ex_ok hC b E q hq L M1 hE e3
      refine ⟨xs ++ ys, M2, ?_, a_gs_app e2 f2, f3, a_fr_tr e4 f4, fun b hb => ⟨fun _ => hE, fun _ => hE⟩⟩
      simp only [e_ev, e1, f1, Option.bind_some]
    · cases h
  | .mulL k a, E, R, h => by
    unfold a_ex at h
    split at h
    · rename_i hk
      intro L M hE hM
      have := a_ex_ok hC a E R h L M hE hM
      unfold e_ev
      rw [if_pos hk]
      exact this
    · rename_i hk
      split at h
      · cases h
      · rename_i p hp
        intro L M hE hM
        obtain ⟨xs, M1, e1, e2, e3, e4, -⟩ := a_ex_ok hC a E p hp L M hE hM
        unfold e_ev
        rw [if_neg hk, e1, Option.bind_some]
        split at h
        · rename_i h5
          rw [if_pos h5]
          obtain ⟨v, hv, rfl⟩ := Option.map_eq_some_iff.mp h
          obtain ⟨r, M2, f1, f2, f3, f4⟩ := hC _ _ _ hv xs M1 e2 e3
          rw [f1, Option.bind_some]
          exact ⟨[r], M2, rfl, ⟨f2, trivial⟩, f3, a_fr_tr e4 f4, fun b hb => ⟨fun _ => hE, fun _ => hE⟩⟩
        · rename_i h5
          rw [if_neg h5]
          obtain ⟨z, z1, z2, z3, z4⟩ := a_opx_ok h hE e3 e1 e2
          dsimp only
          rw [z1, Option.bind_some]
          exact ⟨[z], M1, rfl, z2, e3, e4, fun b hb => by cases hb; exact ⟨z3, z4⟩⟩
  | .mulR a k, E, R, h => by
    unfold a_ex at h
    split at h
    · rename_i ids _ _ hp
      obtain ⟨v, hv, rfl⟩ := Option.map_eq_some_iff.mp h
      intro L M hE hM
      obtain ⟨xs, M1, e1, e2, e3, e4, -⟩ := a_ex_ok hC a E _ hp L M hE hM
      obtain ⟨x, rfl, hx⟩ := a_gs_1 e2
      obtain ⟨w, w1, w2⟩ := a_all_ok hv x hx
      obtain ⟨z, z1, z2⟩ := a_fld_ok w1 e3
      refine ⟨[z], M1, ?_, ⟨w2 z z2, trivial⟩, e3, e4, fun b hb => ⟨fun _ => hE, fun _ => hE⟩⟩
      simp only [e_ev, e1, Option.bind_some, z1]
    · cases h
  | .sub c (.add a b), E, R, h => by
    unfold a_ex at h
    split at h
    · cases h
    · rename_i p hp
      split at h
      · rename_i hl
        exact a_ite_ok (a_ex_ok hC c E p hp) (fun q hq => a_ex_ok hC a p.2.1 q hq) (fun q hq => a_ex_ok hC b p.2.2 q hq) (fun xs hxs => a_gs_len hl hxs) h
      · cases h
  | .sub _ (.num _), _, _, h => by simp [a_ex] at h
  | .sub _ (.var _), _, _, h => by simp [a_ex] at h
  | .sub _ (.sub _ _), _, _, h => by simp [a_ex] at h
  | .sub _ (.neg _), _, _, h => by simp [a_ex] at h
  | .sub _ (.mulL _ _), _, _, h => by simp [a_ex] at h
  | .sub _ (.mulR _ _), _, _, h => by simp [a_ex] at h
  | .neg _, _, _, h => by simp [a_ex] at h
end AEX
end
section
section ATR
variable {W : AW} {call : Nat → List AV → Option AV} {g : Nat → Int}
def a_OUT (W : AW) (rho : AV) (M : EM) (o : EO) : Prop := ∃ r M', o = some (r, M') ∧ a_g rho r ∧ a_M M' ∧ a_fr W M M'
theorem a_OUT_tr {rho : AV} {M M1 : EM} {o : EO} (h : a_fr W M M1) (ho : a_OUT W rho M1 o) : a_OUT W rho M o := by
  obtain ⟨r, M', h1, h2, h3, h4⟩ := ho
  exact ⟨r, M', h1, h2, h3, a_fr_tr h h4⟩
theorem a_up_ok {id k : Nat} {lo hi x : Int} {v : Int × Int × Bool} {M : EM} (h : a_ok W id lo hi v = true) (h1 : lo ≤ (k : Int)) (h2 : (k : Int) ≤ hi) (hx : a_g (some (.inl v)) x) (hM : a_M M) : a_M (e_up M id k x) ∧ a_fr W M (e_up M id k x) := by
  obtain ⟨x1, x2, -⟩ := hx
  unfold a_ok at h
  simp only [Bool.or_eq_true, Bool.and_eq_true, decide_eq_true_eq] at h
  rcases h with (h | h) | ⟨⟨⟨⟨⟨c0, c8⟩, c1⟩, c2⟩, c3⟩, c4⟩
  · omega
  · omega
  · have heq : ∀ b j, ¬ (b = id ∧ j = k) → e_up M id k x b j = M b j := by
      intro b j hn
      unfold e_up
      by_cases hb : b = id
      · rw [if_pos hb, if_neg (fun hj => hn ⟨hb, hj⟩)]
      · rw [if_neg hb]
    have hself : e_up M id k x id k = x := by unfold e_up; simp
    refine ⟨fun b j h5 => ?_, fun b j hw => ?_⟩
    · by_cases hb : b = id ∧ j = k
      · obtain ⟨rfl, rfl⟩ := hb
        rw [hself]
        refine ⟨by omega, by omega, fun s hs hs1 hs2 => ?_⟩
        have := List.all_eq_true.mp c3 s hs
        simp only [Bool.or_eq_true, Bool.and_eq_true, decide_eq_true_eq] at this
        rcases this with (h | h) | ⟨h, h'⟩
        · omega
        · omega
        · exact ⟨by omega, by omega⟩
      · rw [heq b j hb]; exact hM b j h5
    · refine heq b j (fun hb => ?_)
      obtain ⟨rfl, rfl⟩ := hb
      obtain ⟨w, w1, w2⟩ := List.any_eq_true.mp c4
      simp only [Bool.and_eq_true, decide_eq_true_eq] at w2
      exact hw w w1 ⟨w2.1.1, by omega, by omega⟩
theorem a_tag_ok {E : AE} {e : e_X} {L : List Int} {M M' : EM} {x : Int} (hE : a_E g E L) (he : e_ev E_C L e M = some ([x], M')) : ∀ t ∈ a_tag E e, a_to g x t := by
  intro t ht
  unfold a_tag at ht
  split at ht
  · cases he; exact a_E_tags hE _ t ht
  · split at ht
    · rename_i hk
      subst hk
      split at ht
      · rename_i i c
        split at ht
        · rename_i q hq
          split at ht
          · rename_i hb
            have h1 := a_E_at hE i
            rw [hq] at h1
            obtain ⟨h2, h3, -⟩ := h1
            have h9 : e_op (10 : Int).toNat [L.getD i 0, c] M = some (e_w (L.getD i 0 + c)) := rfl
            simp only [e_ev, if_neg (show ¬ ((10 : Int) < 0) by decide), Option.bind_some, List.cons_append, List.nil_append, if_neg (show ¬ ((5000 : Int) ≤ 10) by decide), h9] at he
            cases he
            rw [a_w_id (by omega) (by omega)]
            obtain ⟨u, hu, rfl⟩ := List.mem_map.mp ht
            have h4 := a_E_tags hE i u hu
            unfold a_to at h4 ⊢
            dsimp only
            cases hup : u.2.1
            · rw [hup] at h4
              simp only [Bool.false_eq_true, if_false] at h4 ⊢
              refine (show u.2.2 - c ≤ g u.1 - (L.getD i 0 + c) from ?_)
              omega
            · rw [hup] at h4
              simp only [if_true] at h4 ⊢
              refine (show u.2.2 + c ≤ L.getD i 0 + c - g u.1 from ?_)
              omega
          · cases ht
        · cases ht
      · cases ht
    · cases ht
  · cases ht
def a_AP (W : AW) (g : Nat → Int) (E : AE) (e : e_X) (l : List (AV × AT × AE)) : Prop := ∀ L M, a_E g E L → a_M M → ∃ x M', e_ev E_C L e M = some ([x], M') ∧ a_M M' ∧ a_fr W M M' ∧ ∃ q ∈ l, a_g q.1 x ∧ (∀ t ∈ q.2.1, a_to g x t) ∧ a_E g q.2.2 L
theorem a_alt1 (hC : a_CALL W call) {e : e_X} {E : AE} {x : AV} {p q : AE} (h : a_ex call e E = some ([x], p, q)) : a_AP W g E e [(x, a_tag E e, E)] := by
  intro L M hE hM
  obtain ⟨xs, M1, e1, e2, e3, e4, -⟩ := a_ex_ok (g := g) hC e E _ h L M hE hM
  obtain ⟨y, rfl, hy⟩ := a_gs_1 e2
  exact ⟨y, M1, e1, e3, e4, _, List.mem_cons_self, hy, a_tag_ok hE e1, hE⟩
theorem a_alts_ok (hC : a_CALL W call) : ∀ (e : e_X) (E : AE) (l : List (AV × AT × AE)), a_alts call e E = some l → a_AP W g E e l
  | .mulL k a, E, l, h => by
    unfold a_alts at h
    split at h
    · rename_i hk
      intro L M hE hM
      have := a_alts_ok hC a E l h L M hE hM
      unfold e_ev
      rw [if_pos hk]
      exact this
    · split at h
      · rename_i x p q hx
        cases h
        exact a_alt1 hC hx
      · cases h
  | .sub c (.add a b), E, l, h => by
    unfold a_alts at h
    split at h
    · cases h
    · rename_i p hp
      split at h
      · rename_i hl
        split at h
        · rename_i la lb hla hlb
          cases h
          intro L M hE hM
          obtain ⟨xs, M1, e1, e2, e3, e4, e5⟩ := a_ex_ok (g := g) hC c E p hp L M hE hM
          obtain ⟨x, rfl⟩ := a_gs_len hl e2
          obtain ⟨h5, h6⟩ := e5 x rfl
          have hev : e_ev E_C L (.sub c (.add a b)) M = (if x = 0 then e_ev E_C L b M1 else e_ev E_C L a M1) := by
            simp only [e_ev, e1, Option.bind_some]
            by_cases hx : x = 0
            · rw [if_pos hx, if_pos (by rw [hx])]
            · rw [if_neg hx, if_neg (fun q => hx (by cases q; rfl))]
          rw [hev]
          by_cases hx : x = 0
          · rw [if_pos hx]
            have hF := h6 hx
            rw [if_neg (fun q => a_dead_ok q hF)] at hlb
            obtain ⟨y, M2, f1, f2, f3, q, hq, f4⟩ := a_alts_ok hC b p.2.2 lb hlb L M1 hF e3
            exact ⟨y, M2, f1, f2, a_fr_tr e4 f3, q, List.mem_append.mpr (Or.inr hq), f4⟩
          · rw [if_neg hx]
            have hT := h5 hx
            rw [if_neg (fun q => a_dead_ok q hT)] at hla
            obtain ⟨y, M2, f1, f2, f3, q, hq, f4⟩ := a_alts_ok hC a p.2.1 la hla L M1 hT e3
            exact ⟨y, M2, f1, f2, a_fr_tr e4 f3, q, List.mem_append.mpr (Or.inl hq), f4⟩
        · cases h
      · cases h
  | .num v, E, l, h => by
    unfold a_alts at h
    split at h
    · rename_i x p q hx
      cases h
      exact a_alt1 hC hx
    · cases h
  | .var v, E, l, h => by
    unfold a_alts at h
    split at h
    · rename_i x p q hx
      cases h
      exact a_alt1 hC hx
    · cases h
  | .add a b, E, l, h => by
    unfold a_alts at h
    split at h
    · rename_i x p q hx
      cases h
      exact a_alt1 hC hx
    · cases h
  | .neg a, E, l, h => by
    unfold a_alts at h
    split at h
    · rename_i x p q hx
      cases h
      exact a_alt1 hC hx
    · cases h
  | .mulR a k, E, l, h => by
    unfold a_alts at h
    split at h
    · rename_i x p q hx
      cases h
      exact a_alt1 hC hx
    · cases h
  | .sub c (.num _), E, l, h => by simp [a_alts, a_ex] at h
  | .sub c (.var _), E, l, h => by simp [a_alts, a_ex] at h
  | .sub c (.sub _ _), E, l, h => by simp [a_alts, a_ex] at h
  | .sub c (.neg _), E, l, h => by simp [a_alts, a_ex] at h
  | .sub c (.mulL _ _), E, l, h => by simp [a_alts, a_ex] at h
  | .sub c (.mulR _ _), E, l, h => by simp [a_alts, a_ex] at h
theorem a_wr_ok {i v : Int × Int × Bool} {id j x : Int} {M : EM} (h : a_wr W 100 i v id = true) (hj : a_g (some (.inl i)) j) (hx : a_g (some (.inl v)) x) (hM : a_M M) : ∃ M', e_st 100 [id, j, x] M = some M' ∧ a_M M' ∧ a_fr W M M' := by
  unfold a_wr at h
  simp only [Bool.and_eq_true, decide_eq_true_eq] at h
  obtain ⟨⟨⟨⟨⟨c1, c2⟩, c3⟩, c4⟩, c5⟩, c6⟩ := h
  obtain ⟨j1, j2, -⟩ := hj
  have hsz : e_sz M id.toNat = (e_sh id.toNat).2 := if_neg (by omega)
  obtain ⟨m1, m2⟩ := a_up_ok (k := j.toNat) c6 (by omega) (by omega) hx hM
  exact ⟨_, if_pos ⟨c1, by omega, c2, c3, by omega, by rw [hsz]; omega⟩, m1, m2⟩
theorem a_wf_ok {key : Nat} {v : Int × Int × Bool} {id x : Int} {M : EM} (h : a_wf W key v id = true) (hx : a_g (some (.inl v)) x) (hM : a_M M) : ∃ M', e_pf key [id, x] M = some M' ∧ a_M M' ∧ a_fr W M M' := by
  unfold a_wf at h
  simp only [Bool.and_eq_true, decide_eq_true_eq] at h
  obtain ⟨⟨c1, c2⟩, c3⟩ := h
  obtain ⟨m1, m2⟩ := a_up_ok (k := key % 64) c3 (Int.le_refl _) (Int.le_refl _) hx hM
  exact ⟨_, if_pos ⟨c1, c2⟩, m1, m2⟩
theorem a_full_ok {x y n : Int} {M : EM} (h : a_full W x y = true) (hM : a_M M) (h0 : 0 ≤ n) (h1 : n ≤ ((e_sh x.toNat).2 : Int)) (h2 : n ≤ ((e_sh y.toNat).2 : Int)) : ∃ M', e_cp [x, 0, y, 0, n] M = some M' ∧ a_M M' ∧ a_fr W M M' := by
  unfold a_full at h
  simp only [Bool.and_eq_true, decide_eq_true_eq] at h
  obtain ⟨⟨⟨⟨⟨⟨c1, c2⟩, c3⟩, c4⟩, c5⟩, c6⟩, c7⟩ := h
  have hcp : e_cp [x, 0, y, 0, n] M = some (e_cpm M x.toNat (0 : Int).toNat y.toNat (0 : Int).toNat n.toNat) := if_pos ⟨c2, c1, Int.le_refl _, Int.le_refl _, h0, by omega, by omega⟩
  refine ⟨_, hcp, fun b j h5 => ?_, fun b j hw => ?_⟩
  · unfold e_cpm
    split
    · rename_i hc
      obtain ⟨rfl, hc1, hc2⟩ := hc
      have hx5 : x.toNat ≠ 5 := by have := c1.1; omega
      obtain ⟨m1, m2, m3⟩ := hM x.toNat ((0 : Int).toNat + (j - (0 : Int).toNat)) hx5
      have hj : (0 : Int).toNat + (j - (0 : Int).toNat) = j := by simp
      rw [hj] at m1 m2 m3 ⊢
      refine ⟨?_, ?_, fun s hs => ?_⟩
      · unfold a_lo at m1 ⊢; rw [if_neg c5] at m1; rw [if_neg c6]; exact m1
      · unfold a_hi at m2 ⊢; rw [if_neg c5] at m2; rw [if_neg c6]; exact m2
      · rw [← c3] at hs
        exact m3 s hs
    · exact hM b j h5
  · unfold e_cpm
    rw [if_neg]
    intro hc
    obtain ⟨rfl, hc1, hc2⟩ := hc
    obtain ⟨w, w1, w2⟩ := List.any_eq_true.mp c7
    simp only [Bool.and_eq_true, decide_eq_true_eq] at w2
    have hz : (0 : Int).toNat = 0 := rfl
    rw [hz] at hc2
    exact hw w w1 ⟨w2.1.1, by omega, by omega⟩
theorem a_st_ok (hC : a_CALL W call) {s : e_X} {E E' : AE} (h : a_st W call s E = some E') : ∀ L M, a_E g E L → a_M M → ∃ L' M', e_sv E_C s L M = some (L', M') ∧ a_E g E' L' ∧ a_M M' ∧ a_fr W M M' := by
  intro L M hE hM
  unfold a_st at h
  split at h
  · rename_i k e
    split at h
    · rename_i hk
      subst hk
      split at h
      · rename_i ids i v p q hx
        split at h
        · rename_i hall
          cases h
          obtain ⟨xs, M1, e1, e2, e3, e4, -⟩ := a_ex_ok (g := g) hC e E _ hx L M hE hM
          obtain ⟨a, j, x, rfl, ha, hj, hx2⟩ := a_gs_3 e2
          obtain ⟨M2, m1, m2, m3⟩ := a_wr_ok (List.all_eq_true.mp hall a ha) hj hx2 e3
          refine ⟨L, M2, ?_, hE, m2, a_fr_tr e4 m3⟩
          simp only [e_sv, if_pos, e1, Option.bind_some, m1]
        · cases h
      · cases h
    rename_i n64
    split at h
    · rename_i hk
      subst hk
      split at h
      · rename_i as sp bs dp n p q hx
        split at h
        · rename_i hc
          cases h
          obtain ⟨c1, c2, c3, c4, c5, c6⟩ := hc
          obtain ⟨xs, M1, e1, e2, e3, e4, -⟩ := a_ex_ok (g := g) hC e E _ hx L M hE hM
          obtain ⟨x', r1, rfl, hx', g1⟩ := a_gs_c e2
          obtain ⟨sp', r2, rfl, hsp, g2⟩ := a_gs_c g1
          obtain ⟨y', dp', n', rfl, hy', hdp, hn⟩ := a_gs_3 g2
          obtain ⟨s1, s2, -⟩ := hsp
          obtain ⟨d1, d2, -⟩ := hdp
          obtain ⟨n1, n2, -⟩ := hn
          have hs0 : sp' = 0 := by omega
          have hd0 : dp' = 0 := by omega
          subst hs0 hd0
          have h8 := List.all_eq_true.mp (List.all_eq_true.mp c1 x' hx') y' hy'
          simp only [Bool.and_eq_true, decide_eq_true_eq] at h8
          obtain ⟨⟨h8, h9⟩, h10⟩ := h8
          obtain ⟨M2, m1, m2, m3⟩ := a_full_ok (n := n') h8 e3 (by omega) (by omega) (by omega)
          refine ⟨L, M2, ?_, hE, m2, a_fr_tr e4 m3⟩
          simp only [e_sv, if_neg (show ¬ ((66 : Int) = 64) by decide), if_neg (show ¬ ((66 : Int) = 65) by decide), if_pos, e1, Option.bind_some, m1]
        · cases h
      · cases h
    rename_i n66
    split at h
    · rename_i hk
      subst hk
      split at h
      · rename_i o x key
        split at h
        · rename_i ids p q v p2 q2 ho hx
          split at h
          · rename_i hall
            cases h
            obtain ⟨xs, M1, e1, e2, e3, e4, -⟩ := a_ex_ok (g := g) hC o E _ ho L M hE hM
            obtain ⟨a, rfl, ha⟩ := a_gs_1 e2
            obtain ⟨ys, M2, f1, f2, f3, f4, -⟩ := a_ex_ok (g := g) hC x E _ hx L M1 hE e3
            obtain ⟨b, rfl, hb⟩ := a_gs_1 f2
            have h1 := List.all_eq_true.mp hall a ha
            split at h1
            · rename_i qq hq
              split at h1
              · rename_i zz hz
                rw [Bool.and_eq_true] at h1
                obtain ⟨u, u1, u2⟩ := a_fld_ok hq e3
                obtain ⟨z, z1, z2⟩ := a_b2_ok hz u2 hb
                obtain ⟨M3, m1, m2, m3⟩ := a_wf_ok h1.1 z2 f3
                refine ⟨L, M3, ?_, hE, m2, a_fr_tr e4 (a_fr_tr f4 m3)⟩
                simp only [e_sv, if_neg (show ¬ ((67 : Int) = 64) by decide), if_neg (show ¬ ((67 : Int) = 65) by decide), if_neg (show ¬ ((67 : Int) = 66) by decide), if_pos, e1, Option.bind_some, u1, f1]
                rw [show ([b] : List Int).getD 0 0 = b from rfl, z1]
                simp only [Option.bind_some, List.cons_append, List.nil_append, m1]
              · cases h1
            · cases h1
          · cases h
        · cases h
      · cases h
    rename_i n67
    split at h
    · rename_i hk
      split at h
      · rename_i c
        split at h
        · rename_i hlen
          split at h
          · rename_i q hq
            have hi : ∀ j, j = k.toNat - 200 → e_sv E_C (.mulL k (.num c)) L M = some (L.set j (e_w (L.getD j 0 + c)), M) := by
              intro j hj
              rw [hj]
              simp only [e_sv, if_neg n64, if_neg (show ¬ k = 65 by omega), if_neg n66, if_neg n67, if_neg (show ¬ k = 68 by omega), if_neg (show ¬ (100 ≤ k ∧ k < 200) by omega), if_pos hk]
            generalize hgen : k.toNat - 200 = j at h hlen hq
            have hi := hi j hgen.symm
            have h1 := a_E_at hE j
            rw [hq] at h1
            obtain ⟨h2, h3, -⟩ := h1
            split at h
            · rename_i hb
              cases h
              rw [a_w_id (by omega) (by omega)] at hi
              refine ⟨_, M, hi, ?_, hM, a_fr_rf⟩
              refine ⟨by rw [List.length_set, List.length_set]; exact hE.1, fun s hs => ?_⟩
              rw [List.length_set] at hs
              by_cases hsj : s = j
              · subst hsj
                rw [List.getD_eq_getElem?_getD, List.getElem?_set_self hs, List.getD_eq_getElem?_getD, List.getElem?_set_self (by rw [hE.1]; exact hs)]
                refine ⟨a_gi (by show _ ≤ L.getD s 0 + c; omega) (by show L.getD s 0 + c ≤ _; omega), fun t ht => ?_⟩
                have h9 : e_op (10 : Int).toNat [L.getD s 0, c] M = some (e_w (L.getD s 0 + c)) := rfl
                refine a_tag_ok (e := .mulL 10 (.add (.var s) (.num c))) (x := L.getD s 0 + c) (M := M) (M' := M) hE ?_ t ht
                simp only [e_ev, if_neg (show ¬ ((10 : Int) < 0) by decide), Option.bind_some, List.cons_append, List.nil_append, if_neg (show ¬ ((5000 : Int) ≤ 10) by decide), h9]
                rw [a_w_id (by omega) (by omega)]
              · rw [List.getD_eq_getElem?_getD, List.getElem?_set_ne (Ne.symm hsj), List.getD_eq_getElem?_getD, List.getElem?_set_ne (Ne.symm hsj), ← List.getD_eq_getElem?_getD, ← List.getD_eq_getElem?_getD]
                exact hE.2 s hs
            · cases h
              refine ⟨_, M, hi, ?_, hM, a_fr_rf⟩
              refine ⟨by rw [List.length_set, List.length_set]; exact hE.1, fun s hs => ?_⟩
              rw [List.length_set] at hs
              by_cases hsj : s = j
              · subst hsj
                rw [List.getD_eq_getElem?_getD, List.getElem?_set_self hs, List.getD_eq_getElem?_getD, List.getElem?_set_self (by rw [hE.1]; exact hs)]
                exact ⟨a_T32_ok (a_w _), fun t ht => by cases ht⟩
              · rw [List.getD_eq_getElem?_getD, List.getElem?_set_ne (Ne.symm hsj), List.getD_eq_getElem?_getD, List.getElem?_set_ne (Ne.symm hsj), ← List.getD_eq_getElem?_getD, ← List.getD_eq_getElem?_getD]
                exact hE.2 s hs
          · cases h
        · cases h
      · cases h
    rename_i n200
    split at h
    · rename_i hk
      split at h
      · rename_i R hR
        cases h
        obtain ⟨xs, M1, e1, e2, e3, e4, -⟩ := a_ex_ok (g := g) hC _ E _ hR L M hE hM
        refine ⟨L, M1, ?_, hE, e3, e4⟩
        simp only [e_sv, if_neg n64, if_neg (show ¬ k = 65 by omega), if_neg n66, if_neg n67, if_neg (show ¬ k = 68 by omega), if_neg (show ¬ (100 ≤ k ∧ k < 200) by omega), if_neg n200, if_pos hk, e1, Option.bind_some]
      · cases h
    · cases h
  · rename_i e key
    split at h
    · rename_i ids v p q hx
      split at h
      · rename_i hall
        cases h
        obtain ⟨xs, M1, e1, e2, e3, e4, -⟩ := a_ex_ok (g := g) hC e E _ hx L M hE hM
        obtain ⟨a, x, rfl, ha, hx2⟩ := a_gs_2 e2
        obtain ⟨M2, m1, m2, m3⟩ := a_wf_ok (List.all_eq_true.mp hall a ha) hx2 e3
        refine ⟨L, M2, ?_, hE, m2, a_fr_tr e4 m3⟩
        simp only [e_sv, e1, Option.bind_some, m1]
      · cases h
    · cases h
  · cases h
end ATR
end
