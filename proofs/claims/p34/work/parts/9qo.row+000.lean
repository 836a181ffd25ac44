/-! the reference makes a ROW: exactly -/
def y_XG (b : Nat → Int) (n : Nat) (G D : Nat → Int) : Prop := ∀ k, k < n → w_N b k → G (w_T b k 8).toNat = w_T b k 6 - 1 ∧ D (w_T b k 8).toNat = w_T b k 5
/-- the groups of the first i numbers: in order, none left out -/
def y_gp (G : Nat → Int) (f i : Nat) (last : Int) : Prop := (i = 0 → last = -1) ∧ (0 < i → G f = 0 ∧ G (f + (i - 1)) = last) ∧ (∀ j, j + 1 < i → G (f + (j + 1)) = G (f + j) ∨ G (f + (j + 1)) = G (f + j) + 1)
theorem y_gp_up {G : Nat → Int} {f i : Nat} {last l' : Int} (h : y_gp G f i last) (e : G (f + i) = l') (hl : l' = last + 1 ∨ (l' = last ∧ 0 < i)) : y_gp G f (i + 1) l' := by
  obtain ⟨a1, a2, a3⟩ := h
  refine ⟨fun h => by omega, fun _ => ⟨?_, by rw [show i + 1 - 1 = i by omega]; exact e⟩, fun j hj => ?_⟩
  · by_cases c : i = 0
    · have := a1 c
      subst c
      rw [show f + 0 = f from rfl] at e
      omega
    · exact (a2 (by omega)).1
  · by_cases c : j + 1 = i
    · have a4 := (a2 (by omega)).2
      rw [show i - 1 = j by omega] at a4
      rw [c, e, a4]
      omega
    · exact a3 j (by omega)
def y_IR (g0 : Int → Int) (p : Nat) (Q : Int → Prop) (X G D : Nat → Int) (f i gr : Nat) (M : EM) (x2 x4 : Int) : Prop := (0 ≤ x2 ∧ x2 ≤ 8) ∧ ((x4 = 1 ∧ x2 = i ∧ i ≤ 8 ∧ (∀ j, j < i → y_J g0 p Q X f j) ∧ y_mr g0 (r_G M) p X f i ∧ (∀ j, j < i → r_G M (28 * (p : Int) + 11 + j) = G (f + j) ∧ (G (f + j) < gr → r_G M (28 * (p : Int) + 20 + G (f + j)) = D (f + j))) ∧ y_bl g0 (r_G M) p (fun x => (3 ≤ x ∧ x < 3 + i) ∨ (11 ≤ x ∧ x < 11 + i) ∨ (20 ≤ x ∧ x < 20 + gr))) ∨ (x4 = 0 ∧ ∃ j, j < i ∧ (¬ y_J g0 p Q X f j ∨ 8 ≤ j)))
/-- what is told of groups and diodes up to number i: those of group gr have the diode d -/
def y_gd (G D : Nat → Int) (f i gr : Nat) (d : Int) : Prop := ∀ j, j < i → 0 ≤ G (f + j) ∧ G (f + j) ≤ gr ∧ (G (f + j) = gr → D (f + j) = d)
def y_RE (b : Nat → Int) (n : Nat) (N : EM) (g0 : Int → Int) (p : Nat) (Q : Int → Prop) (X G D : Nat → Int) (f k i : Nat) (o : EO) : Prop := ∃ r M' k' l gr, o = some (r, M') ∧ y_B b n k' M' ∧ y_fr N M' ∧ k < k' ∧ k' < n ∧ b k' = 59 ∧ y_rd b n k' ∧ w_T b k' 5 = 0 ∧ w_T b k' 3 = 114 ∧ w_T b k' 7 = w_T b (k + 1) 7 ∧ i < l ∧ w_T b k' 8 = ((f + l : Nat) : Int) ∧ w_T b k' 6 = ((gr : Nat) : Int) ∧ y_gp G f l ((gr : Int) - 1) ∧ gr ≤ l ∧ ((r = 1 ∧ l ≤ 8 ∧ (∀ j, j < l → y_J g0 p Q X f j) ∧ y_mr g0 (r_G M') p X f l ∧ (∀ j, j < l → r_G M' (28 * (p : Int) + 11 + j) = G (f + j) ∧ r_G M' (28 * (p : Int) + 20 + G (f + j)) = D (f + j)) ∧ r_G M' (28 * (p : Int)) = g0 (28 * (p : Int)) ∧ r_G M' (28 * (p : Int) + 1) = g0 (28 * (p : Int) + 1) ∧ r_G M' (28 * (p : Int) + 2) = l ∧ r_G M' (28 * (p : Int) + 19) = gr) ∨ (r = 0 ∧ ∃ j, j < l ∧ (¬ y_J g0 p Q X f j ∨ 8 ≤ j)))
