section ECONT
variable {K J : Nat → List Int → EM → EO} {Kn Jn : Nat → Nat → List Int → EM → EO}
theorem e_two {P Q : Nat → Prop} (h1 : ∃ n, ∀ m, n ≤ m → P m) (h2 : ∃ n, ∀ m, n ≤ m → Q m) : ∃ n, ∀ m, n ≤ m → P m ∧ Q m := by
  obtain ⟨a, h1⟩ := h1
  obtain ⟨b, h2⟩ := h2
  exact ⟨max a b, fun m hm => ⟨h1 m (by omega), h2 m (by omega)⟩⟩
theorem e_b1t {α β : Type} {f : Nat → Option α} {g : Nat → α → Option β} {x : α} {y : β} (h1 : ∃ n, ∀ m, n ≤ m → f m = some x) (h2 : ∃ n, ∀ m, n ≤ m → g m x = some y) : ∃ n, ∀ m, n ≤ m → (f m).bind (g m) = some y := by
  obtain ⟨n, h⟩ := e_two h1 h2
  exact ⟨n, fun m hm => by rw [(h m hm).1, Option.bind_some]; exact (h m hm).2⟩
theorem e_b0t {α β : Type} {o : Option α} {g : Nat → α → Option β} {x : α} {y : β} (h1 : o = some x) (h2 : ∃ n, ∀ m, n ≤ m → g m x = some y) : ∃ n, ∀ m, n ≤ m → o.bind (g m) = some y := by
  subst h1
  exact h2
theorem e_ct0 {α : Type} {o : Option α} {y : α} (h : o = some y) : ∃ n : Nat, ∀ m : Nat, n ≤ m → o = some y := ⟨0, fun _ _ => h⟩
theorem e_ev_ct (hK : ∀ u as M r, K u as M = some r → ∃ n, ∀ m, n ≤ m → Kn m u as M = some r) {L : List Int} : ∀ (x : e_X) (M : EM) (r : List Int × EM), e_ev K L x M = some r → ∃ n, ∀ m, n ≤ m → e_ev (Kn m) L x M = some r
  | .num v, M, r, e => e_ct0 e
  | .var i, M, r, e => e_ct0 e
  | .add a b, M, r, e => by
    simp only [e_ev, Option.bind_eq_some_iff] at e
    obtain ⟨x, hx, y, hy, e⟩ := e
    simp only [e_ev]
    exact e_b1t (e_ev_ct hK a M x hx) (e_b1t (e_ev_ct hK b _ y hy) (e_ct0 e))
  | .mulL k a, M, r, e => by
    unfold e_ev at e ⊢
    split at e
    · rename_i h; simp only [if_pos h]; exact e_ev_ct hK a M r e
    · rename_i h; simp only [if_neg h]
      simp only [Option.bind_eq_some_iff] at e
      obtain ⟨x, hx, e⟩ := e
      refine e_b1t (e_ev_ct hK a M x hx) ?_
      split at e
      · rename_i h5; simp only [if_pos h5]
        simp only [Option.bind_eq_some_iff] at e
        obtain ⟨y, hy, e⟩ := e
        exact e_b1t (hK _ _ _ _ hy) (e_ct0 e)
      · rename_i h5; simp only [if_neg h5]; exact e_ct0 e
  | .mulR a k, M, r, e => by
    simp only [e_ev, Option.bind_eq_some_iff] at e
    obtain ⟨x, hx, e⟩ := e
    simp only [e_ev]
    exact e_b1t (e_ev_ct hK a M x hx) (e_ct0 (Option.bind_eq_some_iff.mpr e))
  | .sub c (.add a b), M, r, e => by
    simp only [e_ev, Option.bind_eq_some_iff] at e
    obtain ⟨x, hx, e⟩ := e
    simp only [e_ev]
    refine e_b1t (e_ev_ct hK c M x hx) ?_
    split at e
    · rename_i h; simp only [if_pos h]; exact e_ev_ct hK b _ r e
    · rename_i h; simp only [if_neg h]; exact e_ev_ct hK a _ r e
  | .sub c (.num _), M, r, e => by simp [e_ev] at e
  | .sub c (.var _), M, r, e => by simp [e_ev] at e
  | .sub c (.sub _ _), M, r, e => by simp [e_ev] at e
  | .sub c (.neg _), M, r, e => by simp [e_ev] at e
  | .sub c (.mulL _ _), M, r, e => by simp [e_ev] at e
  | .sub c (.mulR _ _), M, r, e => by simp [e_ev] at e
  | .neg _, M, r, e => by simp [e_ev] at e
theorem e_sv_ct (hK : ∀ u as M r, K u as M = some r → ∃ n, ∀ m, n ≤ m → Kn m u as M = some r) {s : e_X} {L : List Int} {M : EM} {r : List Int × EM} (e : e_sv K s L M = some r) : ∃ n, ∀ m, n ≤ m → e_sv (Kn m) s L M = some r := by
  unfold e_sv at e ⊢
  split at e
  · rename_i k x
    try dsimp only
    split at e
    · rename_i h; simp only [if_pos h]
      obtain ⟨y, hy, e⟩ := Option.bind_eq_some_iff.mp e
      exact e_b1t (e_ev_ct hK _ _ _ hy) (e_ct0 e)
    rename_i h; simp only [if_neg h]
    split at e
    · rename_i h; simp only [if_pos h]
      obtain ⟨y, hy, e⟩ := Option.bind_eq_some_iff.mp e
      exact e_b1t (e_ev_ct hK _ _ _ hy) (e_ct0 e)
    rename_i h; simp only [if_neg h]
    split at e
    · rename_i h; simp only [if_pos h]
      obtain ⟨y, hy, e⟩ := Option.bind_eq_some_iff.mp e
      exact e_b1t (e_ev_ct hK _ _ _ hy) (e_ct0 e)
    rename_i h; simp only [if_neg h]
    split at e
    · rename_i h; simp only [if_pos h]
      split at e
      · try dsimp only
        simp only [Option.bind_eq_some_iff] at e
        obtain ⟨y, hy, u, hu, q, hq, e⟩ := e
        exact e_b1t (e_ev_ct hK _ _ _ hy) (e_b0t hu (e_b1t (e_ev_ct hK _ _ _ hq) (e_ct0 (by simp only [Option.bind_eq_some_iff]; exact e))))
      · cases e
    rename_i h; simp only [if_neg h]
    split at e
    · rename_i h; simp only [if_pos h]
      split at e
      · try dsimp only
        simp only [Option.bind_eq_some_iff] at e
        obtain ⟨y, hy, u, hu, q, hq, e⟩ := e
        exact e_b1t (e_ev_ct hK _ _ _ hy) (e_b0t hu (e_b1t (e_ev_ct hK _ _ _ hq) (e_ct0 (by simp only [Option.bind_eq_some_iff]; exact e))))
      · cases e
    rename_i h; simp only [if_neg h]
    split at e
    · rename_i h; simp only [if_pos h]
      obtain ⟨y, hy, e⟩ := Option.bind_eq_some_iff.mp e
      exact e_b1t (e_ev_ct hK _ _ _ hy) (e_ct0 e)
    rename_i h; simp only [if_neg h]
    split at e
    · rename_i h; simp only [if_pos h]; exact e_ct0 e
    rename_i h; simp only [if_neg h]
    split at e
    · rename_i h; simp only [if_pos h]
      obtain ⟨y, hy, e⟩ := Option.bind_eq_some_iff.mp e
      exact e_b1t (e_ev_ct hK _ _ _ hy) (e_ct0 e)
    · cases e
  · try dsimp only
    obtain ⟨y, hy, e⟩ := Option.bind_eq_some_iff.mp e
    exact e_b1t (e_ev_ct hK _ _ _ hy) (e_ct0 e)
  · cases e
theorem e_tv_ct (hK : ∀ u as M r, K u as M = some r → ∃ n, ∀ m, n ≤ m → Kn m u as M = some r) (hJ : ∀ pc L M r, J pc L M = some r → ∃ n, ∀ m, n ≤ m → Jn m pc L M = some r) : ∀ (k : Nat) (t : e_X), SizeOf.sizeOf t ≤ k → ∀ (L : List Int) (M : EM) (r : Int × EM), e_tv K J t L M = some r → ∃ n, ∀ m, n ≤ m → e_tv (Kn m) (Jn m) t L M = some r := by
  intro k
  induction k with
  | zero => intro t ht; cases t <;> simp at ht
  | succ k ih =>
    intro t ht L M r e
    unfold e_tv at e ⊢
    split at e
    · rename_i k1 x
      simp at ht
      try dsimp only
      split at e
      · rename_i h; simp only [if_pos h]; exact ih x (by omega) L M r e
      rename_i h; simp only [if_neg h]
      split at e
      · rename_i h; simp only [if_pos h]
        obtain ⟨y, hy, e⟩ := Option.bind_eq_some_iff.mp e
        exact e_b1t (e_ev_ct hK _ _ _ hy) (e_ct0 e)
      rename_i h; simp only [if_neg h]
      split at e
      · rename_i h; simp only [if_pos h]; exact e_ct0 e
      rename_i h; simp only [if_neg h]
      split at e
      · rename_i h; simp only [if_pos h]
        obtain ⟨y, hy, e⟩ := Option.bind_eq_some_iff.mp e
        exact e_b1t (e_ev_ct hK _ _ _ hy) (e_ct0 e)
      rename_i h; simp only [if_neg h]
      split at e
      · rename_i h; simp only [if_pos h]
        obtain ⟨y, hy, e⟩ := Option.bind_eq_some_iff.mp e
        exact e_b1t (e_ev_ct hK _ _ _ hy) (hJ _ _ _ _ e)
      · cases e
    · rename_i c a b
      simp at ht
      try dsimp only
      obtain ⟨y, hy, e⟩ := Option.bind_eq_some_iff.mp e
      refine e_b1t (e_ev_ct hK _ _ _ hy) ?_
      split at e
      · rename_i h; simp only [if_pos h]; exact ih b (by omega) _ _ _ e
      · rename_i h; simp only [if_neg h]; exact ih a (by omega) _ _ _ e
    · rename_i s t
      simp at ht
      try dsimp only
      obtain ⟨y, hy, e⟩ := Option.bind_eq_some_iff.mp e
      exact e_b1t (e_sv_ct hK hy) (ih t (by omega) _ _ _ e)
    · try dsimp only
      obtain ⟨y, hy, e⟩ := Option.bind_eq_some_iff.mp e
      exact e_b1t (e_ev_ct hK _ _ _ hy) (hJ _ _ _ _ e)
    · rename_i ai as v t h0 h1
      simp at ht
      try dsimp only
      obtain ⟨y, hy, e⟩ := Option.bind_eq_some_iff.mp e
      obtain ⟨q, hq, e⟩ := Option.bind_eq_some_iff.mp e
      obtain ⟨z, hz, e⟩ := Option.bind_eq_some_iff.mp e
      refine e_b1t (e_ev_ct hK _ _ _ hy) (e_b1t (e_ev_ct hK _ _ _ hq) (e_b1t (hK _ _ _ _ hz) ?_))
      split at e
      · rename_i h; simp only [if_pos h]; exact ih h0 (by omega) _ _ _ e
      rename_i h; simp only [if_neg h]
      split at e
      · rename_i h; simp only [if_pos h]; exact ih h1 (by omega) _ _ _ e
      rename_i h; simp only [if_neg h]
      obtain ⟨w, hw, e⟩ := Option.bind_eq_some_iff.mp e
      exact e_b0t hw (ih t (by omega) _ _ _ e)
    · cases e
end ECONT
