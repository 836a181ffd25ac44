section AEX
variable {W : AW} {call : Nat → List AV → Option AV} {g : Nat → Int}
theorem a_ite_ok {a b c : e_X} {E : AE} {p R : AR} {ra rb : Option AR} (hc : a_XP W g E c p) (ha : ∀ q, ra = some q → a_XP W g p.2.1 a q) (hb : ∀ q, rb = some q → a_XP W g p.2.2 b q) (hp1 : ∀ xs, a_gs p.1 xs → ∃ x, xs = [x]) (h : a_ite a b E p.2.1 p.2.2 ra rb = some R) : a_XP W g E (.sub c (.add a b)) R := by
  intro L M hE hM
  obtain ⟨xs, M1, e1, e2, e3, e4, e5⟩ := hc L M hE hM
  obtain ⟨x, rfl⟩ := hp1 xs e2
  obtain ⟨h5, h6⟩ := e5 x rfl
  have hev : e_ev E_C L (.sub c (.add a b)) M = (if x = 0 then e_ev E_C L b M1 else e_ev E_C L a M1) := by
    simp only [e_ev, e1, Option.bind_some]
    by_cases hx : x = 0
    · rw [if_pos hx, if_pos (by rw [hx])]
    · rw [if_neg hx, if_neg (fun q => hx (by cases q; rfl))]
  rw [hev]
  unfold a_ite at h
  by_cases hx : x = 0
  · rw [if_pos hx]
    have hF := h6 hx
    have hnd : ¬ a_dead p.2.2 = true := fun q => a_dead_ok q hF
    rw [if_neg hnd] at h
    cases hrb : rb with
    | none =>
      rw [hrb] at h
      simp only [Option.map_none] at h
      first
        | (cases h; done)
        | (split at h <;> simp_all)
    | some q =>
      rw [hrb] at h
      obtain ⟨ys, M2, f1, f2, f3, f4, f5⟩ := hb q hrb L M1 hF e3
      rw [f1]
      simp only [Option.map_some] at h
      split at h
      · rename_i pp qq h1 h2
        cases h2
        split at h
        · rename_i u v hu hv
          cases h
          rw [hv] at f2
          obtain ⟨y, rfl, hy⟩ := a_gs_1 f2
          refine ⟨[y], M2, rfl, ⟨a_join_ok (Or.inr hy), trivial⟩, f3, a_fr_tr e4 f4, fun b' hb' => ?_⟩
          cases hb'
          obtain ⟨f6, f7⟩ := f5 y rfl
          refine ⟨fun hy0 => ?_, fun hy0 => ?_⟩
          · dsimp only
            split
            · rename_i h0
              have := a_is_ok (L := L) (K := E_C) h0 M1
              rw [this] at f1
              cases f1
              exact absurd rfl hy0
            · split
              · exact f6 hy0
              · exact hE
          · dsimp only
            split
            · rename_i h0
              have := a_is_ok (L := L) (K := E_C) h0 M1
              rw [this] at f1
              cases f1
              cases hy0
            · split
              · exact f7 hy0
              · exact hE
        · cases h
      · rename_i pp h1 h2
        cases h2
      · rename_i qq h1 h2
        cases h2
        cases h
        refine ⟨ys, M2, rfl, f2, f3, a_fr_tr e4 f4, fun b' hb' => ?_⟩
        obtain ⟨f6, f7⟩ := f5 b' hb'
        refine ⟨fun hy0 => ?_, fun hy0 => ?_⟩
        · dsimp only
          split
          · rename_i h0
            have := a_is_ok (L := L) (K := E_C) h0 M1
            rw [this] at f1
            cases f1
            cases hb'
            exact absurd rfl hy0
          · split
            · exact f6 hy0
            · exact hE
        · dsimp only
          split
          · rename_i h0
            have := a_is_ok (L := L) (K := E_C) h0 M1
            rw [this] at f1
            cases f1
            cases hb'
            cases hy0
          · split
            · exact f7 hy0
            · exact hE
      · cases h
  · rw [if_neg hx]
    have hT := h5 hx
    have hnd : ¬ a_dead p.2.1 = true := fun q => a_dead_ok q hT
    rw [if_neg hnd] at h
    cases hra : ra with
    | none =>
      rw [hra] at h
      simp only [Option.map_none] at h
      first
        | (cases h; done)
        | (split at h <;> simp_all)
    | some q =>
      rw [hra] at h
      obtain ⟨ys, M2, f1, f2, f3, f4, f5⟩ := ha q hra L M1 hT e3
      rw [f1]
      simp only [Option.map_some] at h
      split at h
      · rename_i pp qq h1 h2
        cases h1
        split at h
        · rename_i u v hu hv
          cases h
          rw [hu] at f2
          obtain ⟨y, rfl, hy⟩ := a_gs_1 f2
          refine ⟨[y], M2, rfl, ⟨a_join_ok (Or.inl hy), trivial⟩, f3, a_fr_tr e4 f4, fun b' hb' => ?_⟩
          cases hb'
          obtain ⟨f6, f7⟩ := f5 y rfl
          refine ⟨fun hy0 => ?_, fun hy0 => ?_⟩
          · dsimp only
            split
            · exact f6 hy0
            · split
              · rename_i h0
                have := a_is_ok (L := L) (K := E_C) h0 M1
                rw [this] at f1
                cases f1
                exact absurd rfl hy0
              · exact hE
          · dsimp only
            split
            · exact f7 hy0
            · split
              · rename_i h0
                have := a_is_ok (L := L) (K := E_C) h0 M1
                rw [this] at f1
                cases f1
                cases hy0
              · exact hE
        · cases h
      · rename_i pp h1 h2
        cases h1
        cases h
        refine ⟨ys, M2, rfl, f2, f3, a_fr_tr e4 f4, fun b' hb' => ?_⟩
        obtain ⟨f6, f7⟩ := f5 b' hb'
        refine ⟨fun hy0 => ?_, fun hy0 => ?_⟩
        · dsimp only
          split
          · rename_i h0
            have := a_is_ok (L := L) (K := E_C) h0 M1
            rw [this] at f1
            cases f1
            cases hb'
            exact absurd rfl hy0
          · split
            · exact f6 hy0
            · exact hE
        · dsimp only
          split
          · rename_i h0
            have := a_is_ok (L := L) (K := E_C) h0 M1
            rw [this] at f1
            cases f1
            cases hb'
            cases hy0
          · split
            · exact f7 hy0
            · exact hE
      · rename_i qq h1 h2
        cases h1
      · cases h
theorem a_ex_ok (hC : a_CALL W call) : ∀ (e : e_X) (E : AE) (R : AR), a_ex call e E = some R → a_XP W g E e R
  | .num v, E, R, h => by
    cases h
    intro L M hE hM
    exact ⟨[v], M, rfl, ⟨a_gi (Int.le_refl _) (Int.le_refl _), trivial⟩, hM, a_fr_rf, fun b hb => ⟨fun _ => hE, fun _ => hE⟩⟩
  | .var i, E, R, h => by
    unfold a_ex at h
    split at h
    · cases h
      intro L M hE hM
      exact ⟨[L.getD i 0], M, rfl, ⟨a_E_at hE i, trivial⟩, hM, a_fr_rf, fun b hb => ⟨fun _ => hE, fun _ => hE⟩⟩
    · cases h
  | .add a b, E, R, h => by
    unfold a_ex at h
    split at h
    · rename_i p q hp hq
      cases h
      intro L M hE hM
      obtain ⟨xs, M1, e1, e2, e3, e4, -⟩ := a_ex_ok hC a E p hp L M hE hM
      obtain ⟨ys, M2, f1, f2, f3, f4, -⟩ := a_ex_ok hC b E q hq L M1 hE e3
      refine ⟨xs ++ ys, M2, ?_, a_gs_app e2 f2, f3, a_fr_tr e4 f4, fun b hb => ⟨fun _ => hE, fun _ => hE⟩⟩
      simp only [e_ev, e1, f1, Option.bind_some]
    · cases h
  | .mulL k a, E, R, h => by
    unfold a_ex at h
    split at h
    · rename_i hk
      intro L M hE hM
      have := a_ex_ok hC a E R h L M hE hM
      unfold e_ev
      rw [if_pos hk]
      exact this
    · rename_i hk
      split at h
      · cases h
      · rename_i p hp
        intro L M hE hM
        obtain ⟨xs, M1, e1, e2, e3, e4, -⟩ := a_ex_ok hC a E p hp L M hE hM
        unfold e_ev
        rw [if_neg hk, e1, Option.bind_some]
        split at h
        · rename_i h5
          rw [if_pos h5]
          obtain ⟨v, hv, rfl⟩ := Option.map_eq_some_iff.mp h
          obtain ⟨r, M2, f1, f2, f3, f4⟩ := hC _ _ _ hv xs M1 e2 e3
          rw [f1, Option.bind_some]
          exact ⟨[r], M2, rfl, ⟨f2, trivial⟩, f3, a_fr_tr e4 f4, fun b hb => ⟨fun _ => hE, fun _ => hE⟩⟩
        · rename_i h5
          rw [if_neg h5]
          obtain ⟨z, z1, z2, z3, z4⟩ := a_opx_ok h hE e3 e1 e2
          dsimp only
          rw [z1, Option.bind_some]
          exact ⟨[z], M1, rfl, z2, e3, e4, fun b hb => by cases hb; exact ⟨z3, z4⟩⟩
  | .mulR a k, E, R, h => by
    unfold a_ex at h
    split at h
    · rename_i ids _ _ hp
      obtain ⟨v, hv, rfl⟩ := Option.map_eq_some_iff.mp h
      intro L M hE hM
      obtain ⟨xs, M1, e1, e2, e3, e4, -⟩ := a_ex_ok hC a E _ hp L M hE hM
      obtain ⟨x, rfl, hx⟩ := a_gs_1 e2
      obtain ⟨w, w1, w2⟩ := a_all_ok hv x hx
      obtain ⟨z, z1, z2⟩ := a_fld_ok w1 e3
      refine ⟨[z], M1, ?_, ⟨w2 z z2, trivial⟩, e3, e4, fun b hb => ⟨fun _ => hE, fun _ => hE⟩⟩
      simp only [e_ev, e1, Option.bind_some, z1]
    · cases h
  | .sub c (.add a b), E, R, h => by
    unfold a_ex at h
    split at h
    · cases h
    · rename_i p hp
      split at h
      · rename_i hl
        exact a_ite_ok (a_ex_ok hC c E p hp) (fun q hq => a_ex_ok hC a p.2.1 q hq) (fun q hq => a_ex_ok hC b p.2.2 q hq) (fun xs hxs => a_gs_len hl hxs) h
      · cases h
  | .sub _ (.num _), _, _, h => by simp [a_ex] at h
  | .sub _ (.var _), _, _, h => by simp [a_ex] at h
  | .sub _ (.sub _ _), _, _, h => by simp [a_ex] at h
  | .sub _ (.neg _), _, _, h => by simp [a_ex] at h
  | .sub _ (.mulL _ _), _, _, h => by simp [a_ex] at h
  | .sub _ (.mulR _ _), _, _, h => by simp [a_ex] at h
  | .neg _, _, _, h => by simp [a_ex] at h
end AEX
