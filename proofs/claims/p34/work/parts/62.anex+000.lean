theorem a_fr_rf {W : AW} {M : EM} : a_fr W M M := fun _ _ _ => rfl
theorem a_fr_tr {W : AW} {M M1 M2 : EM} (h1 : a_fr W M M1) (h2 : a_fr W M1 M2) : a_fr W M M2 := fun id k hw => (h2 id k hw).trans (h1 id k hw)
theorem a_gs_app : ∀ {vs ws : List AV} {xs ys : List Int}, a_gs vs xs → a_gs ws ys → a_gs (vs ++ ws) (xs ++ ys)
  | [], _, [], _, _, h => h
  | _ :: _, _, _ :: _, _, h, k => ⟨h.1, a_gs_app h.2 k⟩
  | [], _, _ :: _, _, h, _ => h.elim
  | _ :: _, _, [], _, h, _ => h.elim
theorem a_gs_1 {v : AV} {xs : List Int} (h : a_gs [v] xs) : ∃ x, xs = [x] ∧ a_g v x := by
  match xs, h with
  | [x], h => exact ⟨x, rfl, h.1⟩
  | [], h => exact h.elim
  | _ :: _ :: _, h => exact h.2.elim
theorem a_gs_c {v : AV} {vs : List AV} {xs : List Int} (h : a_gs (v :: vs) xs) : ∃ x xs', xs = x :: xs' ∧ a_g v x ∧ a_gs vs xs' := by
  match xs, h with
  | x :: xs', h => exact ⟨x, xs', rfl, h.1, h.2⟩
  | [], h => exact h.elim
theorem a_gs_2 {v w : AV} {xs : List Int} (h : a_gs [v, w] xs) : ∃ x y, xs = [x, y] ∧ a_g v x ∧ a_g w y := by
  obtain ⟨x, xs', rfl, h1, h2⟩ := a_gs_c h
  obtain ⟨y, rfl, h3⟩ := a_gs_1 h2
  exact ⟨x, y, rfl, h1, h3⟩
theorem a_gs_3 {v w u : AV} {xs : List Int} (h : a_gs [v, w, u] xs) : ∃ x y z, xs = [x, y, z] ∧ a_g v x ∧ a_g w y ∧ a_g u z := by
  obtain ⟨x, xs', rfl, h1, h2⟩ := a_gs_c h
  obtain ⟨y, z, rfl, h3, h4⟩ := a_gs_2 h2
  exact ⟨x, y, z, rfl, h1, h3, h4⟩
theorem a_gs_len {vs : List AV} {xs : List Int} (h : vs.length = 1) (hx : a_gs vs xs) : ∃ x, xs = [x] := by
  match vs, h with
  | [v], _ =>
    obtain ⟨x, rfl, -⟩ := a_gs_1 hx
    exact ⟨x, rfl⟩
/-- calls that the analysis has looked at -/
def a_CALL (W : AW) (call : Nat → List AV → Option AV) : Prop := ∀ u xs v, call u xs = some v → ∀ as M, a_gs xs as → a_M M → ∃ r M', E_C u as M = some (r, M') ∧ a_g v r ∧ a_M M' ∧ a_fr W M M'
def a_XP (W : AW) (g : Nat → Int) (E : AE) (e : e_X) (R : AR) : Prop := ∀ L M, a_E g E L → a_M M → ∃ xs M', e_ev E_C L e M = some (xs, M') ∧ a_gs R.1 xs ∧ a_M M' ∧ a_fr W M M' ∧ ∀ b, xs = [b] → (b ≠ 0 → a_E g R.2.1 L) ∧ (b = 0 → a_E g R.2.2 L)
