/-! the reference makes the PART of a STATEMENT: whether it may come, what it leaves -/
def y_Q (ks kd : Int) : Prop := y_K ks kd = 1
def y_tl (g : Int → Int) (p : Nat) (X : Nat → Int) (c : Int) (f l : Nat) : Prop := (c = 99 ∧ 2 ≤ l / 2 ∧ l / 2 ≤ 6 ∧ y_cn X f (l / 2 - 1)) ∨ (c = 114 ∧ l ≤ 8 ∧ ∀ j, j < l → y_J g p (y_Q 1) X f j) ∨ (c = 102 ∧ l ≤ 6 ∧ ∀ j, j < l → y_J g p (y_Q 3) X f j) ∨ (c = 98 ∧ l ≤ 1 ∧ ∀ j, j < l → y_J g p (y_Q 7) X f j)
def y_mo (g g' : Int → Int) (p : Nat) (X : Nat → Int) (f l : Nat) : Prop := (∀ j, j < l → g' (28 * (p : Int) + 3 + j) = X (f + j) ∧ g' (28 * X (f + j) + 1) = (p : Int) + 1) ∧ (∀ x, 0 ≤ x → (x < 28 * (p : Int) ∨ 28 * (p : Int) + 28 ≤ x) → x ≠ 1198 → (∀ j, j < l → x ≠ 28 * X (f + j) + 1) → g' x = g x)
def y_ot (g g' : Int → Int) (p : Nat) (X G D : Nat → Int) (c : Int) (f l gr : Nat) : Prop := g' 1198 = (p : Int) + 1 ∧ g' (28 * (p : Int) + 1) = 0 ∧
  (c = 99 → g' (28 * (p : Int)) = 0 ∧ g' (28 * (p : Int) + 2) = ((l / 2 : Nat) : Int) ∧ (∀ j, j < l / 2 → g' (28 * (p : Int) + 3 + j) = X (f + 2 * j) ∧ g' (28 * (p : Int) + 9 + j) = X (f + 2 * j + 1)) ∧ g' (28 * (p : Int) + 15) = 100 ∧ (∀ d, 16 ≤ d → d < 28 → g' (28 * (p : Int) + d) = 0) ∧ (∀ x, 0 ≤ x → (x < 28 * (p : Int) ∨ 28 * (p : Int) + 28 ≤ x) → x ≠ 1198 → g' x = g x)) ∧
  (c = 114 → g' (28 * (p : Int)) = 1 ∧ g' (28 * (p : Int) + 2) = l ∧ y_mo g g' p X f l ∧ (∀ j, j < l → g' (28 * (p : Int) + 11 + j) = G (f + j) ∧ g' (28 * (p : Int) + 20 + G (f + j)) = D (f + j)) ∧ g' (28 * (p : Int) + 19) = gr ∧ y_gp G f l ((gr : Int) - 1) ∧ gr ≤ l) ∧
  (c = 102 → g' (28 * (p : Int)) = 2 ∧ g' (28 * (p : Int) + 2) = l ∧ y_mo g g' p X f l) ∧
  (c = 98 → g' (28 * (p : Int)) = 3 ∧ g' (28 * (p : Int) + 2) = l ∧ y_mo g g' p X f l ∧ g' (28 * (p : Int) + 4) = 0 ∧ g' (28 * (p : Int) + 5) = 5 ∧ g' (28 * (p : Int) + 6) = 1 ∧ g' (28 * (p : Int) + 7) = 0 ∧ g' (28 * (p : Int) + 8) = 0)
def y_MK (b : Nat → Int) (n k : Nat) (M : EM) (p : Nat) (X G D : Nat → Int) (f : Nat) (o : EO) : Prop := ∃ r M' k' l gr, o = some (r, M') ∧ y_fr M M' ∧ y_B b n k' M' ∧ k < k' ∧ w_T b k' 2 = 0 ∧ w_T b k' 7 = w_T b k 7 + 1 ∧ w_T b k' 8 = ((f + l : Nat) : Int) ∧ w_T b k' 6 = ((gr : Nat) : Int) ∧ ((r = 1 ∧ y_tl (r_G M) p X (b k) f l ∧ y_ot (r_G M) (r_G M') p X G D (b k) f l gr) ∨ (r = 0 ∧ ¬ y_tl (r_G M) p X (b k) f l))
theorem y_J_eq {g g0 : Int → Int} {p : Nat} {Q : Int → Prop} {X : Nat → Int} {f j : Nat} {kd : Int} (h : y_zk g g0 p kd) : y_J g0 p Q X f j ↔ y_J g p Q X f j := by
  unfold y_J
  obtain ⟨-, -, h3⟩ := h
  refine ⟨fun ⟨a, c, d, e⟩ => ?_, fun ⟨a, c, d, e⟩ => ?_⟩
  · rw [h3 _ (by omega) (Or.inl (by omega))] at c d
    exact ⟨a, c, d, e⟩
  · rw [← h3 _ (by omega) (Or.inl (by omega))] at c d
    exact ⟨a, c, d, e⟩
