/-! the PARTS' KINDS, which are in which: class and reference -/
def h_B (M : EM) (dc : Nat) (g : Int → Int) : Prop := M (10 + dc) 0 = g 1198 ∧ (0 ≤ g 1198 ∧ g 1198 ≤ 40) ∧ ∀ q : Nat, (q : Int) < g 1198 → M (11 + dc) q = g (28 * (q : Int)) ∧ M (13 + dc) q = g (28 * (q : Int) + 1) - 1 ∧ (0 ≤ g (28 * (q : Int)) ∧ g (28 * (q : Int)) ≤ 3) ∧ 0 ≤ g (28 * (q : Int) + 1) ∧ g (28 * (q : Int) + 1) ≤ g 1198
theorem h_B0 {M : EM} {g : Int → Int} {p : Nat} (h : h_B M 0 g) (hp : g 1198 = p) : M 10 0 = p ∧ ∀ q : Nat, q < p → M 11 q = g (28 * (q : Int)) ∧ M 13 q = g (28 * (q : Int) + 1) - 1 ∧ (0 ≤ g (28 * (q : Int)) ∧ g (28 * (q : Int)) ≤ 3) ∧ 0 ≤ g (28 * (q : Int) + 1) ∧ g (28 * (q : Int) + 1) ≤ p := by
  obtain ⟨h1, h2, h3⟩ := h
  refine ⟨h1.trans hp, fun q hq => ?_⟩
  have := h3 q (by omega)
  rw [hp] at this
  exact this
/-- falling to 0: the first is above 0 -/
theorem h_fall {X : Nat → Int} {f m : Nat} (h0 : X (f + 2 * m + 1) = 0) (hf : ∀ j, j < m → X (f + 2 * (j + 1) + 1) < X (f + 2 * j + 1)) : ∀ i, i ≤ m → (i : Int) ≤ X (f + 2 * (m - i) + 1) := by
  intro i
  induction i with
  | zero =>
    intro _
    rw [show m - 0 = m by omega, h0]
    exact Int.le_refl _
  | succ i ih =>
    intro hi
    have a := ih (by omega)
    have c := hf (m - (i + 1)) (by omega)
    rw [show m - (i + 1) + 1 = m - i by omega] at c
    omega
theorem h_cn {M : EM} {f m : Nat} (hm : 1 ≤ m) : w_cn M f m ↔ y_cn (M 167) f m := by
  unfold w_cn y_cn
  refine ⟨fun ⟨a, c, _, d, e⟩ => ⟨a, c, d, e⟩, fun ⟨a, c, d, e⟩ => ⟨a, c, ?_, d, e⟩⟩
  have z := h_fall (X := M 167) (f := f) (m := m) d (fun j hj => (e j hj).2) m (Nat.le_refl _)
  rw [show f + 2 * (m - m) + 1 = f + 1 by omega] at z
  omega
theorem h_j1 {M : EM} {g : Int → Int} {p : Nat} (h : h_B M 0 g) (hp : g 1198 = p) {K ks : Int} (hK : ∀ kd : Int, 0 ≤ kd → kd ≤ 3 → (y_Q ks kd ↔ w_mh K kd)) {f i : Nat} : w_j1 M p K f i ↔ y_J g p (y_Q ks) (M 167) f i := by
  obtain ⟨-, h2⟩ := h_B0 h hp
  unfold w_j1 y_J
  refine ⟨fun ⟨a, c, d, e, k⟩ => ?_, fun ⟨⟨a, c⟩, d, e, k⟩ => ?_⟩
  · obtain ⟨o, ho⟩ : ∃ o : Nat, M 167 (f + i) = o := ⟨(M 167 (f + i)).toNat, by omega⟩
    rw [ho] at a c d e k ⊢
    rw [Int.toNat_natCast] at d e
    obtain ⟨q1, q2, q3, q4⟩ := h2 o (by omega)
    rw [q1] at e
    exact ⟨⟨a, c⟩, (hK _ q3.1 q3.2).mpr e, by omega, k⟩
  · obtain ⟨o, ho⟩ : ∃ o : Nat, M 167 (f + i) = o := ⟨(M 167 (f + i)).toNat, by omega⟩
    rw [ho] at a c d e k ⊢
    rw [Int.toNat_natCast]
    obtain ⟨q1, q2, q3, q4⟩ := h2 o (by omega)
    rw [q1]
    exact ⟨a, c, by omega, (hK _ q3.1 q3.2).mp d, k⟩
theorem h_tl {M : EM} {g : Int → Int} {p : Nat} (h : h_B M 0 g) (hp : g 1198 = p) {c : Int} {f n : Nat} (hc : c = 99 ∨ c = 114 ∨ c = 102 ∨ (c = 98 ∧ n ≤ 1)) : w_tl M p c f n ↔ (p < 40 ∧ y_tl g p (M 167) c f n) := by
  have k1 : ∀ kd : Int, 0 ≤ kd → kd ≤ 3 → (y_Q 1 kd ↔ w_mh 1 kd) := fun kd a b => (y_Kmh ⟨a, b⟩).1
  have k3 : ∀ kd : Int, 0 ≤ kd → kd ≤ 3 → (y_Q 3 kd ↔ w_mh 2 kd) := fun kd a b => (y_Kmh ⟨a, b⟩).2.1
  have k7 : ∀ kd : Int, 0 ≤ kd → kd ≤ 3 → (y_Q 7 kd ↔ w_mh 3 kd) := fun kd a b => (y_Kmh ⟨a, b⟩).2.2
  have j1 : w_jn M p 1 f n ↔ ∀ j, j < n → y_J g p (y_Q 1) (M 167) f j := ⟨fun hh j hj => (h_j1 h hp k1).mp (hh j hj), fun hh j hj => (h_j1 h hp k1).mpr (hh j hj)⟩
  have j3 : w_jn M p 2 f n ↔ ∀ j, j < n → y_J g p (y_Q 3) (M 167) f j := ⟨fun hh j hj => (h_j1 h hp k3).mp (hh j hj), fun hh j hj => (h_j1 h hp k3).mpr (hh j hj)⟩
  have j7 : w_jn M p 3 f n ↔ ∀ j, j < n → y_J g p (y_Q 7) (M 167) f j := ⟨fun hh j hj => (h_j1 h hp k7).mp (hh j hj), fun hh j hj => (h_j1 h hp k7).mpr (hh j hj)⟩
  unfold w_tl y_tl
  rw [j1, j3, j7]
  clear j1 j3 j7 k1 k3 k7
  refine and_congr_right (fun _ => ?_)
  rcases hc with hc | hc | hc | ⟨hc, hn⟩
  · refine ⟨fun hh => ?_, fun hh => ?_⟩
    · rcases hh with ⟨a, d, e, k⟩ | hh | hh | hh
      · exact Or.inl ⟨a, d, e, (h_cn (by omega)).mp k⟩
      · exact absurd (hc.symm.trans hh.1) (by decide)
      · exact absurd (hc.symm.trans hh.1) (by decide)
      · exact absurd hc hh.1
    · rcases hh with ⟨a, d, e, k⟩ | hh | hh | hh
      · exact Or.inl ⟨a, d, e, (h_cn (by omega)).mpr k⟩
      · exact absurd (hc.symm.trans hh.1) (by decide)
      · exact absurd (hc.symm.trans hh.1) (by decide)
      · exact absurd (hc.symm.trans hh.1) (by decide)
  · refine ⟨fun hh => ?_, fun hh => ?_⟩
    · rcases hh with hh | hh | hh | hh
      · exact absurd (hc.symm.trans hh.1) (by decide)
      · exact Or.inr (Or.inl hh)
      · exact absurd (hc.symm.trans hh.1) (by decide)
      · exact absurd hc hh.2.1
    · rcases hh with hh | hh | hh | hh
      · exact absurd (hc.symm.trans hh.1) (by decide)
      · exact Or.inr (Or.inl hh)
      · exact absurd (hc.symm.trans hh.1) (by decide)
      · exact absurd (hc.symm.trans hh.1) (by decide)
  · refine ⟨fun hh => ?_, fun hh => ?_⟩
    · rcases hh with hh | hh | hh | hh
      · exact absurd (hc.symm.trans hh.1) (by decide)
      · exact absurd (hc.symm.trans hh.1) (by decide)
      · exact Or.inr (Or.inr (Or.inl hh))
      · exact absurd hc hh.2.2.1
    · rcases hh with hh | hh | hh | hh
      · exact absurd (hc.symm.trans hh.1) (by decide)
      · exact absurd (hc.symm.trans hh.1) (by decide)
      · exact Or.inr (Or.inr (Or.inl hh))
      · exact absurd (hc.symm.trans hh.1) (by decide)
  · refine ⟨fun hh => ?_, fun hh => ?_⟩
    · rcases hh with hh | hh | hh | hh
      · exact absurd (hc.symm.trans hh.1) (by decide)
      · exact absurd (hc.symm.trans hh.1) (by decide)
      · exact absurd (hc.symm.trans hh.1) (by decide)
      · exact Or.inr (Or.inr (Or.inr ⟨hc, hn, hh.2.2.2⟩))
    · rcases hh with hh | hh | hh | hh
      · exact absurd (hc.symm.trans hh.1) (by decide)
      · exact absurd (hc.symm.trans hh.1) (by decide)
      · exact absurd (hc.symm.trans hh.1) (by decide)
      · exact Or.inr (Or.inr (Or.inr ⟨by rw [hc]; decide, by rw [hc]; decide, by rw [hc]; decide, hh.2.2⟩))
/-- a PART of others comes -/
theorem h_js {M M' : EM} {g g' : Int → Int} {p : Nat} (h : h_B M 0 g) (hp : g 1198 = p) (hp40 : p < 40) {K t : Int} {f n : Nat} (hs : w_js M M' p K t f n) (hj : ∀ j, j < n → 0 ≤ M 167 (f + j) ∧ M 167 (f + j) < p) (hK : 0 ≤ K ∧ K ≤ 3) (g1 : g' 1198 = (p : Int) + 1) (g2 : g' (28 * (p : Int) + 1) = 0) (g3 : g' (28 * (p : Int)) = K) (hm : y_mo g g' p (M 167) f n) : h_B M' 0 g' := by
  obtain ⟨-, h2⟩ := h_B0 h hp
  obtain ⟨a1, a2, a3, a4, a5, a6, a7, a8, a9, a10, a11, a12, a13⟩ := hs
  obtain ⟨m1, m2⟩ := hm
  refine ⟨a5.trans g1.symm, by omega, fun q hq => ?_⟩
  by_cases c : q = p
  · subst c
    refine ⟨a1.trans g3.symm, ?_, by omega, by omega, by omega⟩
    show M' 13 q = _
    rw [a3, g2]; rfl
  · obtain ⟨q1, q2, q3, q4, q5⟩ := h2 q (by omega)
    have e28 : g' (28 * (q : Int)) = g (28 * (q : Int)) := m2 _ (by omega) (Or.inl (by omega)) (by omega) (fun j hj' => by omega)
    rw [e28]
    refine ⟨(a8 q c).1.trans q1, ?_, q3, ?_⟩
    · show M' 13 q = _
      by_cases e : ∃ j, j < n ∧ M 167 (f + j) = (q : Int)
      · obtain ⟨j, j1, j2⟩ := e
        have u := (a6 j j1).2.2.2
        have v := (m1 j j1).2
        rw [j2] at u v
        rw [Int.toNat_natCast] at u
        rw [u, v]
        omega
      · have u := a7 q c (fun j j1 j2 => e ⟨j, j1, j2⟩)
        have v := m2 (28 * (q : Int) + 1) (by omega) (Or.inl (by omega)) (by omega) (fun j j1 j2 => e ⟨j, j1, by omega⟩)
        rw [u, v]
        exact q2
    · by_cases e : ∃ j, j < n ∧ M 167 (f + j) = (q : Int)
      · obtain ⟨j, j1, j2⟩ := e
        have v := (m1 j j1).2
        rw [j2] at v
        omega
      · have v := m2 (28 * (q : Int) + 1) (by omega) (Or.inl (by omega)) (by omega) (fun j j1 j2 => e ⟨j, j1, by omega⟩)
        omega
