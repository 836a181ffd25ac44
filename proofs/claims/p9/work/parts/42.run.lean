def e_lb (v pc : Nat) : Option (List (Nat × Nat) × e_X) := q_find ((e_prog.getD (v / 16) []).getD (v % 16) []) pc
def e_tr (v pc : Nat) : e_X := match e_lb v pc with
  | some q => q.2
  | none => .num 0
def e_pd : List Nat → List Int → List Int
  | [], _ => []
  | _, [] => []
  | t :: P, a :: as => if t = 1 then a :: 0 :: e_pd P as else a :: e_pd P as
/-- a frame's locals at its start -/
def e_pad (v : Nat) (as : List Int) : List Int := e_pd (e_pt v) as ++ List.replicate (e_nl v - (e_pd (e_pt v) as).length) 0
/-- a receiver of the method's class -/
def e_rok (v : Nat) (as : List Int) : Bool := match q_rc (e_vm v) with
  | none => true
  | some ci => decide (e_isO ci (as.getD 0 0))
/-- n labels deep -/
def e_run : Nat → Nat → Nat → List Int → EM → EO
  | 0, _, _, _, _ => none
  | n + 1, v, pc, L, M => e_tv (fun u as M' => if e_rok u as = true then e_run n u 0 (e_pad u as) M' else none) (fun pc' L' M' => e_run n v pc' L' M') (e_tr v pc) L M
section ECONT
variable {K J : Nat → List Int → EM → EO} {Kn Jn : Nat → Nat → List Int → EM → EO}
theorem e_two {P Q : Nat → Prop} (h1 : ∃ n, ∀ m, n ≤ m → P m) (h2 : ∃ n, ∀ m, n ≤ m → Q m) : ∃ n, ∀ m, n ≤ m → P m ∧ Q m := by
  obtain ⟨a, h1⟩ := h1
  obtain ⟨b, h2⟩ := h2
  exact ⟨max a b, fun m hm => ⟨h1 m (by omega), h2 m (by omega)⟩⟩
theorem e_b1t {α β : Type} {f : Nat → Option α} {g : Nat → α → Option β} {x : α} {y : β} (h1 : ∃ n, ∀ m, n ≤ m → f m = some x) (h2 : ∃ n, ∀ m, n ≤ m → g m x = some y) : ∃ n, ∀ m, n ≤ m → (f m).bind (g m) = some y := by
  obtain ⟨n, h⟩ := e_two h1 h2
  exact ⟨n, fun m hm => by rw [(h m hm).1, Option.bind_some]; exact (h m hm).2⟩
theorem e_b0t {α β : Type} {o : Option α} {g : Nat → α → Option β} {x : α} {y : β} (h1 : o = some x) (h2 : ∃ n, ∀ m, n ≤ m → g m x = some y) : ∃ n, ∀ m, n ≤ m → o.bind (g m) = some y := by
  subst h1
  exact h2
theorem e_ct0 {α : Type} {o : Option α} {y : α} (h : o = some y) : ∃ n : Nat, ∀ m : Nat, n ≤ m → o = some y := ⟨0, fun _ _ => h⟩
theorem e_ev_ct (hK : ∀ u as M r, K u as M = some r → ∃ n, ∀ m, n ≤ m → Kn m u as M = some r) {L : List Int} : ∀ (x : e_X) (M : EM) (r : List Int × EM), e_ev K L x M = some r → ∃ n, ∀ m, n ≤ m → e_ev (Kn m) L x M = some r
  | .num v, M, r, e => e_ct0 e
  | .var i, M, r, e => e_ct0 e
  | .add a b, M, r, e => by
    simp only [e_ev, Option.bind_eq_some_iff] at e
    obtain ⟨x, hx, y, hy, e⟩ := e
    simp only [e_ev]
    exact e_b1t (e_ev_ct hK a M x hx) (e_b1t (e_ev_ct hK b _ y hy) (e_ct0 e))
  | .mulL k a, M, r, e => by
    unfold e_ev at e ⊢
    split at e
    · rename_i h; simp only [if_pos h]; exact e_ev_ct hK a M r e
    · rename_i h; simp only [if_neg h]
      simp only [Option.bind_eq_some_iff] at e
      obtain ⟨x, hx, e⟩ := e
      refine e_b1t (e_ev_ct hK a M x hx) ?_
      split at e
      · rename_i h5; simp only [if_pos h5]
        simp only [Option.bind_eq_some_iff] at e
        obtain ⟨y, hy, e⟩ := e
        exact e_b1t (hK _ _ _ _ hy) (e_ct0 e)
      · rename_i h5; simp only [if_neg h5]; exact e_ct0 e
  | .mulR a k, M, r, e => by
    simp only [e_ev, Option.bind_eq_some_iff] at e
    obtain ⟨x, hx, e⟩ := e
    simp only [e_ev]
    exact e_b1t (e_ev_ct hK a M x hx) (e_ct0 (Option.bind_eq_some_iff.mpr e))
  | .sub c (.add a b), M, r, e => by
    simp only [e_ev, Option.bind_eq_some_iff] at e
    obtain ⟨x, hx, e⟩ := e
    simp only [e_ev]
    refine e_b1t (e_ev_ct hK c M x hx) ?_
    split at e
    · rename_i h; simp only [if_pos h]; exact e_ev_ct hK b _ r e
    · rename_i h; simp only [if_neg h]; exact e_ev_ct hK a _ r e
  | .sub c (.num _), M, r, e => by simp [e_ev] at e
  | .sub c (.var _), M, r, e => by simp [e_ev] at e
  | .sub c (.sub _ _), M, r, e => by simp [e_ev] at e
  | .sub c (.neg _), M, r, e => by simp [e_ev] at e
  | .sub c (.mulL _ _), M, r, e => by simp [e_ev] at e
  | .sub c (.mulR _ _), M, r, e => by simp [e_ev] at e
  | .neg _, M, r, e => by simp [e_ev] at e
theorem e_sv_ct (hK : ∀ u as M r, K u as M = some r → ∃ n, ∀ m, n ≤ m → Kn m u as M = some r) {s : e_X} {L : List Int} {M : EM} {r : List Int × EM} (e : e_sv K s L M = some r) : ∃ n, ∀ m, n ≤ m → e_sv (Kn m) s L M = some r := by
  unfold e_sv at e ⊢
  split at e
  · rename_i k x
    try dsimp only
    split at e
    · rename_i h; simp only [if_pos h]
      obtain ⟨y, hy, e⟩ := Option.bind_eq_some_iff.mp e
      exact e_b1t (e_ev_ct hK _ _ _ hy) (e_ct0 e)
    rename_i h; simp only [if_neg h]
    split at e
    · rename_i h; simp only [if_pos h]
      obtain ⟨y, hy, e⟩ := Option.bind_eq_some_iff.mp e
      exact e_b1t (e_ev_ct hK _ _ _ hy) (e_ct0 e)
    rename_i h; simp only [if_neg h]
    split at e
    · rename_i h; simp only [if_pos h]
      obtain ⟨y, hy, e⟩ := Option.bind_eq_some_iff.mp e
      exact e_b1t (e_ev_ct hK _ _ _ hy) (e_ct0 e)
    rename_i h; simp only [if_neg h]
    split at e
    · rename_i h; simp only [if_pos h]
      split at e
      · try dsimp only
        simp only [Option.bind_eq_some_iff] at e
        obtain ⟨y, hy, u, hu, q, hq, e⟩ := e
        exact e_b1t (e_ev_ct hK _ _ _ hy) (e_b0t hu (e_b1t (e_ev_ct hK _ _ _ hq) (e_ct0 (by simp only [Option.bind_eq_some_iff]; exact e))))
      · cases e
    rename_i h; simp only [if_neg h]
    split at e
    · rename_i h; simp only [if_pos h]
      split at e
      · try dsimp only
        simp only [Option.bind_eq_some_iff] at e
        obtain ⟨y, hy, u, hu, q, hq, e⟩ := e
        exact e_b1t (e_ev_ct hK _ _ _ hy) (e_b0t hu (e_b1t (e_ev_ct hK _ _ _ hq) (e_ct0 (by simp only [Option.bind_eq_some_iff]; exact e))))
      · cases e
    rename_i h; simp only [if_neg h]
    split at e
    · rename_i h; simp only [if_pos h]
      obtain ⟨y, hy, e⟩ := Option.bind_eq_some_iff.mp e
      exact e_b1t (e_ev_ct hK _ _ _ hy) (e_ct0 e)
    rename_i h; simp only [if_neg h]
    split at e
    · rename_i h; simp only [if_pos h]; exact e_ct0 e
    rename_i h; simp only [if_neg h]
    split at e
    · rename_i h; simp only [if_pos h]
      obtain ⟨y, hy, e⟩ := Option.bind_eq_some_iff.mp e
      exact e_b1t (e_ev_ct hK _ _ _ hy) (e_ct0 e)
    · cases e
  · try dsimp only
    obtain ⟨y, hy, e⟩ := Option.bind_eq_some_iff.mp e
    exact e_b1t (e_ev_ct hK _ _ _ hy) (e_ct0 e)
  · cases e
theorem e_tv_ct (hK : ∀ u as M r, K u as M = some r → ∃ n, ∀ m, n ≤ m → Kn m u as M = some r) (hJ : ∀ pc L M r, J pc L M = some r → ∃ n, ∀ m, n ≤ m → Jn m pc L M = some r) : ∀ (k : Nat) (t : e_X), SizeOf.sizeOf t ≤ k → ∀ (L : List Int) (M : EM) (r : Int × EM), e_tv K J t L M = some r → ∃ n, ∀ m, n ≤ m → e_tv (Kn m) (Jn m) t L M = some r := by
  intro k
  induction k with
  | zero => intro t ht; cases t <;> simp at ht
  | succ k ih =>
    intro t ht L M r e
    unfold e_tv at e ⊢
    split at e
    · rename_i k1 x
      simp at ht
      try dsimp only
      split at e
      · rename_i h; simp only [if_pos h]; exact ih x (by omega) L M r e
      rename_i h; simp only [if_neg h]
      split at e
      · rename_i h; simp only [if_pos h]
        obtain ⟨y, hy, e⟩ := Option.bind_eq_some_iff.mp e
        exact e_b1t (e_ev_ct hK _ _ _ hy) (e_ct0 e)
      rename_i h; simp only [if_neg h]
      split at e
      · rename_i h; simp only [if_pos h]; exact e_ct0 e
      rename_i h; simp only [if_neg h]
      split at e
      · rename_i h; simp only [if_pos h]
        obtain ⟨y, hy, e⟩ := Option.bind_eq_some_iff.mp e
        exact e_b1t (e_ev_ct hK _ _ _ hy) (e_ct0 e)
      rename_i h; simp only [if_neg h]
      split at e
      · rename_i h; simp only [if_pos h]
        obtain ⟨y, hy, e⟩ := Option.bind_eq_some_iff.mp e
        exact e_b1t (e_ev_ct hK _ _ _ hy) (hJ _ _ _ _ e)
      · cases e
    · rename_i c a b
      simp at ht
      try dsimp only
      obtain ⟨y, hy, e⟩ := Option.bind_eq_some_iff.mp e
      refine e_b1t (e_ev_ct hK _ _ _ hy) ?_
      split at e
      · rename_i h; simp only [if_pos h]; exact ih b (by omega) _ _ _ e
      · rename_i h; simp only [if_neg h]; exact ih a (by omega) _ _ _ e
    · rename_i s t
      simp at ht
      try dsimp only
      obtain ⟨y, hy, e⟩ := Option.bind_eq_some_iff.mp e
      exact e_b1t (e_sv_ct hK hy) (ih t (by omega) _ _ _ e)
    · try dsimp only
      obtain ⟨y, hy, e⟩ := Option.bind_eq_some_iff.mp e
      exact e_b1t (e_ev_ct hK _ _ _ hy) (hJ _ _ _ _ e)
    · rename_i ai as v t h0 h1
      simp at ht
      try dsimp only
      obtain ⟨y, hy, e⟩ := Option.bind_eq_some_iff.mp e
      obtain ⟨q, hq, e⟩ := Option.bind_eq_some_iff.mp e
      obtain ⟨z, hz, e⟩ := Option.bind_eq_some_iff.mp e
      refine e_b1t (e_ev_ct hK _ _ _ hy) (e_b1t (e_ev_ct hK _ _ _ hq) (e_b1t (hK _ _ _ _ hz) ?_))
      split at e
      · rename_i h; simp only [if_pos h]; exact ih h0 (by omega) _ _ _ e
      rename_i h; simp only [if_neg h]
      split at e
      · rename_i h; simp only [if_pos h]; exact ih h1 (by omega) _ _ _ e
      rename_i h; simp only [if_neg h]
      obtain ⟨w, hw, e⟩ := Option.bind_eq_some_iff.mp e
      exact e_b0t hw (ih t (by omega) _ _ _ e)
    · cases e
end ECONT
theorem e_tv_mono {K K' J J' : Nat → List Int → EM → EO} (hK : ∀ u as M r, K u as M = some r → K' u as M = some r) (hJ : ∀ pc L M r, J pc L M = some r → J' pc L M = some r) {t : e_X} {L : List Int} {M : EM} {r : Int × EM} (e : e_tv K J t L M = some r) : e_tv K' J' t L M = some r := by
  obtain ⟨n, h⟩ := e_tv_ct (Kn := fun _ => K') (Jn := fun _ => J') (fun u as M r h => ⟨0, fun _ _ => hK u as M r h⟩) (fun u as M r h => ⟨0, fun _ _ => hJ u as M r h⟩) (SizeOf.sizeOf t) t (Nat.le_refl _) L M r e
  exact h n (Nat.le_refl _)
theorem e_run_up : ∀ (n v pc : Nat) (L : List Int) (M : EM) (r : Int × EM), e_run n v pc L M = some r → e_run (n + 1) v pc L M = some r := by
  intro n
  induction n with
  | zero => intro v pc L M r h; cases h
  | succ n ih =>
    intro v pc L M r h
    rw [e_run] at h ⊢
    refine e_tv_mono (fun u as M' r' h' => ?_) (fun pc' L' M' r' h' => ih _ _ _ _ _ h') h
    split at h'
    · rename_i hr; rw [if_pos hr]; exact ih _ _ _ _ _ h'
    · cases h'
theorem e_run_le {n k v pc : Nat} {L : List Int} {M : EM} {r : Int × EM} (h : e_run n v pc L M = some r) (hk : n ≤ k) : e_run k v pc L M = some r := by
  obtain ⟨j, rfl⟩ := Nat.exists_eq_add_of_le hk
  induction j with
  | zero => exact h
  | succ j ih => exact e_run_up _ _ _ _ _ _ (ih (Nat.le_add_right _ _))
/-- what happens from a label on, if it comes to an end -/
noncomputable def E_V (v pc : Nat) (L : List Int) (M : EM) : EO := (Classical.propDecidable (∃ n r, e_run n v pc L M = some r)).casesOn (fun _ => none) (fun h => some h.choose_spec.choose)
theorem E_V_of {n v pc : Nat} {L : List Int} {M : EM} {r : Int × EM} (h : e_run n v pc L M = some r) : E_V v pc L M = some r := by
  unfold E_V
  cases Classical.propDecidable (∃ n r, e_run n v pc L M = some r) with
  | isFalse hn => exact absurd ⟨n, r, h⟩ hn
  | isTrue hp =>
    have h2 := hp.choose_spec.choose_spec
    have h3 := (e_run_le h (Nat.le_max_left n hp.choose)).symm.trans (e_run_le h2 (Nat.le_max_right n hp.choose))
    exact h3.symm
theorem E_V_ex {v pc : Nat} {L : List Int} {M : EM} {r : Int × EM} (h : E_V v pc L M = some r) : ∃ n, ∀ m, n ≤ m → e_run m v pc L M = some r := by
  unfold E_V at h
  cases hd : Classical.propDecidable (∃ n r, e_run n v pc L M = some r) with
  | isFalse hn => rw [hd] at h; cases h
  | isTrue hp =>
    rw [hd] at h
    have h2 := hp.choose_spec.choose_spec
    refine ⟨hp.choose, fun m hm => ?_⟩
    rw [← h]
    exact e_run_le h2 hm
/-- a call -/
noncomputable def E_C (u : Nat) (as : List Int) (M : EM) : EO := if e_rok u as = true then E_V u 0 (e_pad u as) M else none
theorem E_V_eq (v pc : Nat) (L : List Int) (M : EM) : E_V v pc L M = e_tv E_C (E_V v) (e_tr v pc) L M := by
  have h1 : ∀ r, E_V v pc L M = some r → e_tv E_C (E_V v) (e_tr v pc) L M = some r := by
    intro r h
    obtain ⟨n, h⟩ := E_V_ex h
    have h2 := h (n + 1) (Nat.le_succ _)
    rw [e_run] at h2
    refine e_tv_mono (fun u as M' r' h' => ?_) (fun pc' L' M' r' h' => E_V_of h') h2
    unfold E_C
    split at h'
    · rename_i hr; rw [if_pos hr]; exact E_V_of h'
    · cases h'
  have h2 : ∀ r, e_tv E_C (E_V v) (e_tr v pc) L M = some r → E_V v pc L M = some r := by
    intro r h
    obtain ⟨n, h3⟩ := e_tv_ct (Kn := fun n u as M' => if e_rok u as = true then e_run n u 0 (e_pad u as) M' else none) (Jn := fun n pc' L' M' => e_run n v pc' L' M')
      (fun u as M' r' h' => by
        unfold E_C at h'
        split at h'
        · rename_i hr
          obtain ⟨n, h4⟩ := E_V_ex h'
          exact ⟨n, fun m hm => by rw [if_pos hr]; exact h4 m hm⟩
        · cases h') (fun pc' L' M' r' h' => E_V_ex h') _ _ (Nat.le_refl _) L M r h
    exact E_V_of (n := n + 1) (h3 n (Nat.le_refl _))
  cases h : E_V v pc L M with
  | some r => exact (h1 r h).symm
  | none =>
    cases h3 : e_tv E_C (E_V v) (e_tr v pc) L M with
    | none => rfl
    | some r => rw [h2 r h3] at h; cases h
