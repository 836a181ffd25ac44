section ATR
variable {W : AW} {call : Nat → List AV → Option AV} {g : Nat → Int}
def a_OUT (W : AW) (rho : AV) (M : EM) (o : EO) : Prop := ∃ r M', o = some (r, M') ∧ a_g rho r ∧ a_M M' ∧ a_fr W M M'
theorem a_OUT_tr {rho : AV} {M M1 : EM} {o : EO} (h : a_fr W M M1) (ho : a_OUT W rho M1 o) : a_OUT W rho M o := by
  obtain ⟨r, M', h1, h2, h3, h4⟩ := ho
  exact ⟨r, M', h1, h2, h3, a_fr_tr h h4⟩
theorem a_up_ok {id k : Nat} {lo hi x : Int} {v : Int × Int × Bool} {M : EM} (h : a_ok W id lo hi v = true) (h1 : lo ≤ (k : Int)) (h2 : (k : Int) ≤ hi) (hx : a_g (some (.inl v)) x) (hM : a_M M) : a_M (e_up M id k x) ∧ a_fr W M (e_up M id k x) := by
  obtain ⟨x1, x2, -⟩ := hx
  unfold a_ok at h
  simp only [Bool.or_eq_true, Bool.and_eq_true, decide_eq_true_eq] at h
  rcases h with (h | h) | ⟨⟨⟨⟨⟨c0, c8⟩, c1⟩, c2⟩, c3⟩, c4⟩
  · omega
  · omega
  · have heq : ∀ b j, ¬ (b = id ∧ j = k) → e_up M id k x b j = M b j := by
      intro b j hn
      unfold e_up
      by_cases hb : b = id
      · rw [if_pos hb, if_neg (fun hj => hn ⟨hb, hj⟩)]
      · rw [if_neg hb]
    have hself : e_up M id k x id k = x := by unfold e_up; simp
    refine ⟨fun b j h5 => ?_, fun b j hw => ?_⟩
    · by_cases hb : b = id ∧ j = k
      · obtain ⟨rfl, rfl⟩ := hb
        rw [hself]
        refine ⟨by omega, by omega, fun s hs hs1 hs2 => ?_⟩
        have := List.all_eq_true.mp c3 s hs
        simp only [Bool.or_eq_true, Bool.and_eq_true, decide_eq_true_eq] at this
        rcases this with (h | h) | ⟨h, h'⟩
        · omega
        · omega
        · exact ⟨by omega, by omega⟩
      · rw [heq b j hb]; exact hM b j h5
    · refine heq b j (fun hb => ?_)
      obtain ⟨rfl, rfl⟩ := hb
      obtain ⟨w, w1, w2⟩ := List.any_eq_true.mp c4
      simp only [Bool.and_eq_true, decide_eq_true_eq] at w2
      exact hw w w1 ⟨w2.1.1, by omega, by omega⟩
theorem a_tag_ok {E : AE} {e : e_X} {L : List Int} {M M' : EM} {x : Int} (hE : a_E g E L) (he : e_ev E_C L e M = some ([x], M')) : ∀ t ∈ a_tag E e, a_to g x t := by
  intro t ht
  unfold a_tag at ht
  split at ht
  · cases he; exact a_E_tags hE _ t ht
  · split at ht
    · rename_i hk
      subst hk
      split at ht
      · rename_i i c
        split at ht
        · rename_i q hq
          split at ht
          · rename_i hb
            have h1 := a_E_at hE i
            rw [hq] at h1
            obtain ⟨h2, h3, -⟩ := h1
            have h9 : e_op (10 : Int).toNat [L.getD i 0, c] M = some (e_w (L.getD i 0 + c)) := rfl
            simp only [e_ev, if_neg (show ¬ ((10 : Int) < 0) by decide), Option.bind_some, List.cons_append, List.nil_append, if_neg (show ¬ ((5000 : Int) ≤ 10) by decide), h9] at he
            cases he
            rw [a_w_id (by omega) (by omega)]
            obtain ⟨u, hu, rfl⟩ := List.mem_map.mp ht
            have h4 := a_E_tags hE i u hu
            unfold a_to at h4 ⊢
            dsimp only
            cases hup : u.2.1
            · rw [hup] at h4
              simp only [Bool.false_eq_true, if_false] at h4 ⊢
              refine (show u.2.2 - c ≤ g u.1 - (L.getD i 0 + c) from ?_)
              omega
            · rw [hup] at h4
              simp only [if_true] at h4 ⊢
              refine (show u.2.2 + c ≤ L.getD i 0 + c - g u.1 from ?_)
              omega
          · cases ht
        · cases ht
      · cases ht
    · cases ht
  · cases ht
def a_AP (W : AW) (g : Nat → Int) (E : AE) (e : e_X) (l : List (AV × AT × AE)) : Prop := ∀ L M, a_E g E L → a_M M → ∃ x M', e_ev E_C L e M = some ([x], M') ∧ a_M M' ∧ a_fr W M M' ∧ ∃ q ∈ l, a_g q.1 x ∧ (∀ t ∈ q.2.1, a_to g x t) ∧ a_E g q.2.2 L
theorem a_alt1 (hC : a_CALL W call) {e : e_X} {E : AE} {x : AV} {p q : AE} (h : a_ex call e E = some ([x], p, q)) : a_AP W g E e [(x, a_tag E e, E)] := by
  intro L M hE hM
  obtain ⟨xs, M1, e1, e2, e3, e4, -⟩ := a_ex_ok (g := g) hC e E _ h L M hE hM
  obtain ⟨y, rfl, hy⟩ := a_gs_1 e2
  exact ⟨y, M1, e1, e3, e4, _, List.mem_cons_self, hy, a_tag_ok hE e1, hE⟩
theorem a_alts_ok (hC : a_CALL W call) : ∀ (e : e_X) (E : AE) (l : List (AV × AT × AE)), a_alts call e E = some l → a_AP W g E e l
  | .mulL k a, E, l, h => by
    unfold a_alts at h
    split at h
    · rename_i hk
      intro L M hE hM
      have := a_alts_ok hC a E l h L M hE hM
      unfold e_ev
      rw [if_pos hk]
      exact this
    · split at h
      · rename_i x p q hx
        cases h
        exact a_alt1 hC hx
      · cases h
  | .sub c (.add a b), E, l, h => by
    unfold a_alts at h
    split at h
    · cases h
    · rename_i p hp
      split at h
      · rename_i hl
        split at h
        · rename_i la lb hla hlb
          cases h
          intro L M hE hM
          obtain ⟨xs, M1, e1, e2, e3, e4, e5⟩ := a_ex_ok (g := g) hC c E p hp L M hE hM
          obtain ⟨x, rfl⟩ := a_gs_len hl e2
          obtain ⟨h5, h6⟩ := e5 x rfl
          have hev : e_ev E_C L (.sub c (.add a b)) M = (if x = 0 then e_ev E_C L b M1 else e_ev E_C L a M1) := by
            simp only [e_ev, e1, Option.bind_some]
            by_cases hx : x = 0
            · rw [if_pos hx, if_pos (by rw [hx])]
            · rw [if_neg hx, if_neg (fun q => hx (by cases q; rfl))]
          rw [hev]
          by_cases hx : x = 0
          · rw [if_pos hx]
            have hF := h6 hx
            rw [if_neg (fun q => a_dead_ok q hF)] at hlb
            obtain ⟨y, M2, f1, f2, f3, q, hq, f4⟩ := a_alts_ok hC b p.2.2 lb hlb L M1 hF e3
            exact ⟨y, M2, f1, f2, a_fr_tr e4 f3, q, List.mem_append.mpr (Or.inr hq), f4⟩
          · rw [if_neg hx]
            have hT := h5 hx
            rw [if_neg (fun q => a_dead_ok q hT)] at hla
            obtain ⟨y, M2, f1, f2, f3, q, hq, f4⟩ := a_alts_ok hC a p.2.1 la hla L M1 hT e3
            exact ⟨y, M2, f1, f2, a_fr_tr e4 f3, q, List.mem_append.mpr (Or.inl hq), f4⟩
        · cases h
      · cases h
  | .num v, E, l, h => by
    unfold a_alts at h
    split at h
    · rename_i x p q hx
      cases h
      exact a_alt1 hC hx
    · cases h
  | .var v, E, l, h => by
    unfold a_alts at h
    split at h
    · rename_i x p q hx
      cases h
      exact a_alt1 hC hx
    · cases h
  | .add a b, E, l, h => by
    unfold a_alts at h
    split at h
    · rename_i x p q hx
      cases h
      exact a_alt1 hC hx
    · cases h
  | .neg a, E, l, h => by
    unfold a_alts at h
    split at h
    · rename_i x p q hx
      cases h
      exact a_alt1 hC hx
    · cases h
  | .mulR a k, E, l, h => by
    unfold a_alts at h
    split at h
    · rename_i x p q hx
      cases h
      exact a_alt1 hC hx
    · cases h
  | .sub c (.num _), E, l, h => by simp [a_alts, a_ex] at h
  | .sub c (.var _), E, l, h => by simp [a_alts, a_ex] at h
  | .sub c (.sub _ _), E, l, h => by simp [a_alts, a_ex] at h
  | .sub c (.neg _), E, l, h => by simp [a_alts, a_ex] at h
  | .sub c (.mulL _ _), E, l, h => by simp [a_alts, a_ex] at h
  | .sub c (.mulR _ _), E, l, h => by simp [a_alts, a_ex] at h
end ATR
