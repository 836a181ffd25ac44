theorem e_tv_mono {K K' J J' : Nat → List Int → EM → EO} (hK : ∀ u as M r, K u as M = some r → K' u as M = some r) (hJ : ∀ pc L M r, J pc L M = some r → J' pc L M = some r) {t : e_X} {L : List Int} {M : EM} {r : Int × EM} (e : e_tv K J t L M = some r) : e_tv K' J' t L M = some r := by
  obtain ⟨n, h⟩ := e_tv_ct (Kn := fun _ => K') (Jn := fun _ => J') (fun u as M r h => ⟨0, fun _ _ => hK u as M r h⟩) (fun u as M r h => ⟨0, fun _ _ => hJ u as M r h⟩) (SizeOf.sizeOf t) t (Nat.le_refl _) L M r e
  exact h n (Nat.le_refl _)
theorem e_run_up : ∀ (n v pc : Nat) (L : List Int) (M : EM) (r : Int × EM), e_run n v pc L M = some r → e_run (n + 1) v pc L M = some r := by
  intro n
  induction n with
  | zero => intro v pc L M r h; cases h
  | succ n ih =>
    intro v pc L M r h
    rw [e_run] at h ⊢
    refine e_tv_mono (fun u as M' r' h' => ?_) (fun pc' L' M' r' h' => ih _ _ _ _ _ h') h
    split at h'
    · rename_i hr; rw [if_pos hr]; exact ih _ _ _ _ _ h'
    · cases h'
theorem e_run_le {n k v pc : Nat} {L : List Int} {M : EM} {r : Int × EM} (h : e_run n v pc L M = some r) (hk : n ≤ k) : e_run k v pc L M = some r := by
  obtain ⟨j, rfl⟩ := Nat.exists_eq_add_of_le hk
  induction j with
  | zero => exact h
  | succ j ih => exact e_run_up _ _ _ _ _ _ (ih (Nat.le_add_right _ _))
/-- what happens from a label on, if it comes to an end -/
noncomputable def E_V (v pc : Nat) (L : List Int) (M : EM) : EO := (Classical.propDecidable (∃ n r, e_run n v pc L M = some r)).casesOn (fun _ => none) (fun h => some h.choose_spec.choose)
theorem E_V_of {n v pc : Nat} {L : List Int} {M : EM} {r : Int × EM} (h : e_run n v pc L M = some r) : E_V v pc L M = some r := by
  unfold E_V
  cases Classical.propDecidable (∃ n r, e_run n v pc L M = some r) with
  | isFalse hn => exact absurd ⟨n, r, h⟩ hn
  | isTrue hp =>
    have h2 := hp.choose_spec.choose_spec
    have h3 := (e_run_le h (Nat.le_max_left n hp.choose)).symm.trans (e_run_le h2 (Nat.le_max_right n hp.choose))
    exact h3.symm
theorem E_V_ex {v pc : Nat} {L : List Int} {M : EM} {r : Int × EM} (h : E_V v pc L M = some r) : ∃ n, ∀ m, n ≤ m → e_run m v pc L M = some r := by
  unfold E_V at h
  cases hd : Classical.propDecidable (∃ n r, e_run n v pc L M = some r) with
  | isFalse hn => rw [hd] at h; cases h
  | isTrue hp =>
    rw [hd] at h
    have h2 := hp.choose_spec.choose_spec
    refine ⟨hp.choose, fun m hm => ?_⟩
    rw [← h]
    exact e_run_le h2 hm
/-- a call -/
noncomputable def E_C (u : Nat) (as : List Int) (M : EM) : EO := if e_rok u as = true then E_V u 0 (e_pad u as) M else none
theorem E_V_eq (v pc : Nat) (L : List Int) (M : EM) : E_V v pc L M = e_tv E_C (E_V v) (e_tr v pc) L M := by
  have h1 : ∀ r, E_V v pc L M = some r → e_tv E_C (E_V v) (e_tr v pc) L M = some r := by
    intro r h
    obtain ⟨n, h⟩ := E_V_ex h
    have h2 := h (n + 1) (Nat.le_succ _)
    rw [e_run] at h2
    refine e_tv_mono (fun u as M' r' h' => ?_) (fun pc' L' M' r' h' => E_V_of h') h2
    unfold E_C
    split at h'
    · rename_i hr; rw [if_pos hr]; exact E_V_of h'
    · cases h'
  have h2 : ∀ r, e_tv E_C (E_V v) (e_tr v pc) L M = some r → E_V v pc L M = some r := by
    intro r h
    obtain ⟨n, h3⟩ := e_tv_ct (Kn := fun n u as M' => if e_rok u as = true then e_run n u 0 (e_pad u as) M' else none) (Jn := fun n pc' L' M' => e_run n v pc' L' M')
      (fun u as M' r' h' => by
        unfold E_C at h'
        split at h'
        · rename_i hr
          obtain ⟨n, h4⟩ := E_V_ex h'
          exact ⟨n, fun m hm => by rw [if_pos hr]; exact h4 m hm⟩
        · cases h') (fun pc' L' M' r' h' => E_V_ex h') _ _ (Nat.le_refl _) L M r h
    exact E_V_of (n := n + 1) (h3 n (Nat.le_refl _))
  cases h : E_V v pc L M with
  | some r => exact (h1 r h).symm
  | none =>
    cases h3 : e_tv E_C (E_V v) (e_tr v pc) L M with
    | none => rfl
    | some r => rw [h2 r h3] at h; cases h

