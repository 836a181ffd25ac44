/-! a PART spread out: no more than 40 CELLS; what stands on the bench -/
theorem bx_pg : ∀ (m n : Nat) (f : Nat → Nat), (∀ i, i < n → f i < m) → (∀ i j, i < n → j < n → f i = f j → i = j) → n ≤ m := by
  intro m
  induction m with
  | zero =>
    intro n f h _
    rcases Nat.eq_zero_or_pos n with z | z
    · omega
    · exact absurd (h 0 z) (Nat.not_lt_zero _)
  | succ m ih =>
    intro n f h hi
    by_cases c : ∃ i, i < n ∧ f i = m
    · obtain ⟨i0, i1, i2⟩ := c
      obtain ⟨k, rfl⟩ : ∃ k, n = k + 1 := ⟨n - 1, by omega⟩
      have r := ih k (fun j => if j = i0 then f k else f j) (fun j hj => by
        show (if j = i0 then f k else f j) < m
        by_cases e : j = i0
        · rw [if_pos e]
          have a := h k (by omega)
          have b : f k ≠ m := fun e2 => by
            have := hi k i0 (by omega) i1 (e2.trans i2.symm)
            omega
          omega
        · rw [if_neg e]
          have a := h j (by omega)
          have b : f j ≠ m := fun e2 => e (hi j i0 (by omega) i1 (e2.trans i2.symm))
          omega) (fun i j h1 h2 h3 => by
        have h3 : (if i = i0 then f k else f i) = (if j = i0 then f k else f j) := h3
        by_cases e : i = i0
        · rw [if_pos e] at h3
          by_cases e2 : j = i0
          · omega
          · rw [if_neg e2] at h3
            have := hi k j (by omega) (by omega) h3
            omega
        · rw [if_neg e] at h3
          by_cases e2 : j = i0
          · rw [if_pos e2] at h3
            have := hi i k (by omega) (by omega) h3
            omega
          · rw [if_neg e2] at h3
            exact hi i j (by omega) (by omega) h3)
      omega
    · have r := ih n f (fun i h1 => by
        have a := h i h1
        have b : f i ≠ m := fun e => c ⟨i, h1, e⟩
        omega) hi
      omega
def bx_oc (g : Int → Int) (X : Nat → Int) : Nat → Nat
  | 0 => 0
  | i + 1 => bx_oc g X i + bx_nc g (X i)
def bx_og (g : Int → Int) (X : Nat → Int) : Nat → Nat
  | 0 => 0
  | i + 1 => bx_og g X i + bx_ng g (X i)
def bx_fc (g : Int → Int) (X : Nat → Int) : Nat → Nat → Int
  | 0, _ => 0
  | i + 1, j => if j < bx_oc g X i then bx_fc g X i j else bx_ce g (X i) (j - bx_oc g X i)
theorem bx_fc_at {g : Int → Int} {X : Nat → Int} : ∀ i j, j < bx_oc g X i → ∃ l k, l < i ∧ k < bx_nc g (X l) ∧ j = bx_oc g X l + k ∧ bx_fc g X i j = bx_ce g (X l) k := by
  intro i
  induction i with
  | zero => intro j hj; exact absurd hj (Nat.not_lt_zero _)
  | succ i ih =>
    intro j hj
    have hj : j < bx_oc g X i + bx_nc g (X i) := hj
    rcases Nat.lt_or_ge j (bx_oc g X i) with c | c
    · obtain ⟨l, k, h1, h2, h3, h4⟩ := ih j c
      exact ⟨l, k, by omega, h2, h3, (if_pos c).trans h4⟩
    · exact ⟨i, j - bx_oc g X i, by omega, by omega, by omega, if_neg (by omega)⟩
theorem bx_oc_m {g : Int → Int} {X : Nat → Int} : ∀ d i, bx_oc g X i ≤ bx_oc g X (i + d) := by
  intro d
  induction d with
  | zero => intro i; exact Nat.le_refl _
  | succ d ih =>
    intro i
    have := ih i
    show bx_oc g X i ≤ bx_oc g X (i + d) + bx_nc g (X (i + d))
    omega
theorem bx_og_m {g : Int → Int} {X : Nat → Int} : ∀ d i, bx_og g X i ≤ bx_og g X (i + d) := by
  intro d
  induction d with
  | zero => intro i; exact Nat.le_refl _
  | succ d ih =>
    intro i
    have := ih i
    show bx_og g X i ≤ bx_og g X (i + d) + bx_ng g (X (i + d))
    omega
theorem bx_cap {g : Int → Int} {X : Nat → Int} {L : Nat} (hin : ∀ l k, l < L → k < bx_nc g (X l) → 0 ≤ bx_ce g (X l) k ∧ bx_ce g (X l) k < 40) (hij : ∀ l k l' k', l < L → k < bx_nc g (X l) → l' < L → k' < bx_nc g (X l') → bx_ce g (X l) k = bx_ce g (X l') k' → l = l' ∧ k = k') : bx_oc g X L ≤ 40 := by
  refine bx_pg 40 _ (fun j => (bx_fc g X L j).toNat) (fun j hj => ?_) (fun i j hi hj h => ?_)
  · obtain ⟨l, k, h1, h2, h3, h4⟩ := bx_fc_at L j hj
    have := hin l k h1 h2
    show (bx_fc g X L j).toNat < 40
    rw [h4]
    omega
  · obtain ⟨l, k, h1, h2, h3, h4⟩ := bx_fc_at L i hi
    obtain ⟨l', k', h1', h2', h3', h4'⟩ := bx_fc_at L j hj
    have h : (bx_fc g X L i).toNat = (bx_fc g X L j).toNat := h
    rw [h4, h4'] at h
    have a := hin l k h1 h2
    have b := hin l' k' h1' h2'
    obtain ⟨e1, e2⟩ := hij l k l' k' h1 h2 h1' h2' (by omega)
    subst e1 e2
    omega
theorem bx_ogc {g : Int → Int} {X : Nat → Int} : ∀ L, (∀ l, l < L → bx_ng g (X l) ≤ bx_nc g (X l)) → bx_og g X L ≤ bx_oc g X L := by
  intro L
  induction L with
  | zero => intro _; exact Nat.le_refl _
  | succ L ih =>
    intro h
    have a := ih (fun l hl => h l (by omega))
    have b := h L (by omega)
    show bx_og g X L + bx_ng g (X L) ≤ bx_oc g X L + bx_nc g (X L)
    omega
/-- i lines stand on the bench -/
def bx_SP (g : Int → Int) (M M' : EM) (X : Nat → Int) (L : Nat) : Prop := M' 170 0 = (bx_oc g X L : Int) ∧ M' 170 4 = (bx_og g X L : Int) ∧ M' 170 5 = (L : Int) ∧ (∀ l, l ≤ L → M' 171 l = (bx_oc g X l : Int)) ∧ (∀ l k, l < L → k < bx_nc g (X l) → bx_cell M M' (bx_oc g X l + k) (bx_ce g (X l) k).toNat ((bx_og g X l : Int) + bx_gr g (X l) k)) ∧ (∀ l y, l < L → y < bx_ng g (X l) → M' 172 (bx_og g X l + y) = bx_di g (X l) y) ∧ (∀ y, bx_og g X L ≤ y → y < 40 → M' 172 y = 0) ∧ (∀ id k, ¬ (170 ≤ id ∧ id ≤ 176) → M' id k = M id k) ∧ (∀ k, k ≠ 0 → k ≠ 4 → k ≠ 5 → k ≠ 7 → M' 170 k = M 170 k)
theorem bx_SPs {g : Int → Int} {M N N' : EM} {X : Nat → Int} {i : Nat} (h : bx_SP g M N X i) (k : bx_AL g N N' (X i) (bx_oc g X i) (bx_og g X i) i) : bx_SP g M N' X (i + 1) := by
  obtain ⟨a1, a2, a3, a4, a5, a6, a7, a8, a9⟩ := h
  obtain ⟨b1, b2, b3, b4, b5, b6, c1, c2, c3, c4, c5, c6⟩ := k
  have ocs : bx_oc g X (i + 1) = bx_oc g X i + bx_nc g (X i) := rfl
  have ogs : bx_og g X (i + 1) = bx_og g X i + bx_ng g (X i) := rfl
  refine ⟨by rw [b1, ocs], by rw [b2, ogs], b3, fun l hl => ?_, fun l k hl hk => ?_, fun l y hl hy => ?_, fun y h1 h2 => ?_, fun id k h => (c1 id k h).trans (a8 id k h), fun k h0 h4 h5 h7 => (c2 k h0 h4 h5).trans (a9 k h0 h4 h5 h7)⟩
  · by_cases e : l = i + 1
    · rw [e, b4, ocs]
    · rw [c3 l e]; exact a4 l (by omega)
  · by_cases e : l = i
    · subst e
      obtain ⟨d1, d2, d3, d4⟩ := b5 k hk
      refine ⟨d1, d2, ?_, fun a ha => ?_⟩
      · rw [d3]; exact a8 _ _ (by omega)
      · rw [d4 a ha]; exact a8 _ _ (by omega)
    · obtain ⟨d1, d2, d3, d4⟩ := a5 l k (by omega) hk
      have m := bx_oc_m (g := g) (X := X) (i - (l + 1)) (l + 1)
      rw [show l + 1 + (i - (l + 1)) = i by omega] at m
      have m : bx_oc g X l + bx_nc g (X l) ≤ bx_oc g X i := m
      obtain ⟨f1, f2, f3⟩ := c5 (bx_oc g X l + k) (by omega)
      refine ⟨?_, ?_, ?_, fun a ha => ?_⟩
      · rw [f2]; exact d1
      · rw [f1]; exact d2
      · rw [f3]; exact d3
      · rw [c6 _ (by omega)]; exact d4 a ha
  · by_cases e : l = i
    · subst e
      exact b6 y hy
    · have m := bx_og_m (g := g) (X := X) (i - (l + 1)) (l + 1)
      rw [show l + 1 + (i - (l + 1)) = i by omega] at m
      have m : bx_og g X l + bx_ng g (X l) ≤ bx_og g X i := m
      rw [c4 _ (by omega)]
      exact a6 l y (by omega) hy
  · rw [ogs] at h1
    rw [c4 _ (by omega)]
    exact a7 y (by omega) h2
