/-! what is told of CELLS: settings, DEAD or not, where they lie: class and reference -/
def h_Cq (M : EM) (dc : Nat) (g : Int → Int) (q : Nat) : Prop := g (28 * (q : Int)) = 0 → (∀ a : Nat, a < 4 → M (21 + dc) (4 * q + a) = g (28 * (q : Int) + 15 + (a : Int)) ∧ 0 ≤ g (28 * (q : Int) + 15 + (a : Int)) ∧ g (28 * (q : Int) + 15 + (a : Int)) ≤ 100) ∧ (M (22 + dc) q = g (28 * (q : Int) + 19) ∧ (g (28 * (q : Int) + 19) = 0 ∨ g (28 * (q : Int) + 19) = 1)) ∧ ((g (28 * (q : Int) + 20) = 0 ∧ M (23 + dc) q = -1 ∧ M (24 + dc) q = -1) ∨ (g (28 * (q : Int) + 20) = 1 ∧ M (23 + dc) q = 100 * g (28 * (q : Int) + 21) + g (28 * (q : Int) + 22) ∧ M (24 + dc) q = 100 * g (28 * (q : Int) + 23) + g (28 * (q : Int) + 24)))
def h_C (M : EM) (dc : Nat) (g : Int → Int) : Prop := ∀ q : Nat, (q : Int) < g 1198 → h_Cq M dc g q
theorem h_Cq_cg {M M' : EM} {dc q : Nat} {g g' : Int → Int} (h : h_Cq M dc g q) (e0 : g' (28 * (q : Int)) = g (28 * (q : Int))) (e : ∀ d : Int, 15 ≤ d → d ≤ 24 → g' (28 * (q : Int) + d) = g (28 * (q : Int) + d)) (c1 : ∀ a : Nat, a < 4 → M' (21 + dc) (4 * q + a) = M (21 + dc) (4 * q + a)) (c2 : M' (22 + dc) q = M (22 + dc) q) (c3 : M' (23 + dc) q = M (23 + dc) q) (c4 : M' (24 + dc) q = M (24 + dc) q) : h_Cq M' dc g' q := by
  intro hk
  rw [e0] at hk
  obtain ⟨h1, h2, h3⟩ := h hk
  rw [c2, c3, c4, e 19 (by decide) (by decide), e 20 (by decide) (by decide), e 21 (by decide) (by decide), e 22 (by decide) (by decide), e 23 (by decide) (by decide), e 24 (by decide) (by decide)]
  refine ⟨fun a ha => ?_, h2, h3⟩
  have e15 := e (15 + (a : Int)) (by omega) (by omega)
  rw [show 28 * (q : Int) + (15 + (a : Int)) = 28 * (q : Int) + 15 + (a : Int) by omega] at e15
  rw [c1 a ha, e15]
  exact h1 a ha
/-- a new PART of others, or a new CELL -/
theorem h_Cjs {M M' : EM} {g g' : Int → Int} {p : Nat} (h : h_C M 0 g) (hp : g 1198 = p) (hp40 : p < 40) {K t : Int} {f n : Nat} (hs : w_js M M' p K t f n) (hj : ∀ j, j < n → 0 ≤ M 167 (f + j) ∧ M 167 (f + j) < p) (g1 : g' 1198 = (p : Int) + 1) (new : g' (28 * (p : Int)) = 0 → g' (28 * (p : Int) + 15) = 100 ∧ ∀ d, 16 ≤ d → d < 28 → g' (28 * (p : Int) + d) = 0) (m2 : ∀ x, 0 ≤ x → (x < 28 * (p : Int) ∨ 28 * (p : Int) + 28 ≤ x) → x ≠ 1198 → (∀ j, j < n → x ≠ 28 * M 167 (f + j) + 1) → g' x = g x) : h_C M' 0 g' := by
  obtain ⟨a1, a2, a3, a4, a5, a6, a7, a8, a9, a10, a11, a12, a13⟩ := hs
  intro q hq
  rw [g1] at hq
  by_cases c : q = p
  · subst c
    intro hk
    obtain ⟨n1, n2⟩ := new hk
    obtain ⟨b0, b1, b2, b3, b4, b5, b6⟩ := a11
    rw [n2 19 (by decide) (by decide), n2 20 (by decide) (by decide)]
    refine ⟨fun a ha => ?_, ⟨b4, Or.inl rfl⟩, Or.inl ⟨rfl, b5, b6⟩⟩
    have ha' : a = 0 ∨ a = 1 ∨ a = 2 ∨ a = 3 := by omega
    rcases ha' with rfl | rfl | rfl | rfl
    · have e : g' (28 * (q : Int) + 15 + ((0 : Nat) : Int)) = 100 := by rw [← n1]; exact congrArg g' (by omega)
      rw [e]
      exact ⟨b0, by decide, by decide⟩
    · have e : g' (28 * (q : Int) + 15 + ((1 : Nat) : Int)) = 0 := by rw [← n2 16 (by decide) (by decide)]; exact congrArg g' (by omega)
      rw [e]
      exact ⟨b1, by decide, by decide⟩
    · have e : g' (28 * (q : Int) + 15 + ((2 : Nat) : Int)) = 0 := by rw [← n2 17 (by decide) (by decide)]; exact congrArg g' (by omega)
      rw [e]
      exact ⟨b2, by decide, by decide⟩
    · have e : g' (28 * (q : Int) + 15 + ((3 : Nat) : Int)) = 0 := by rw [← n2 18 (by decide) (by decide)]; exact congrArg g' (by omega)
      rw [e]
      exact ⟨b3, by decide, by decide⟩
  · obtain ⟨-, -, -, d1, d2, d3⟩ := a8 q c
    refine h_Cq_cg (h q (by omega)) (m2 _ (by omega) (Or.inl (by omega)) (by omega) (fun j hj' => by have := hj j hj'; omega)) (fun d d0 d1 => m2 _ (by omega) (Or.inl (by omega)) (by omega) (fun j hj' => by have := hj j hj'; omega)) (fun a ha => a10 _ (by omega)) d1 d2 d3
theorem h_Cto {M M' : EM} {g g' : Int → Int} {p : Nat} (h : h_C M 0 g) (hp : g 1198 = p) {c : Int} {f n gr : Nat} {G D : Nat → Int} {t : Int} (ht : w_tl M p c f n) (ho : w_to M M' p c t f n) (hy : y_ot g g' p (M 167) G D c f n gr) (hc : c = 99 ∨ c = 114 ∨ c = 102 ∨ c = 98) : h_C M' 0 g' := by
  obtain ⟨hp40, ht⟩ := ht
  obtain ⟨o1, o2, o3, o4⟩ := ho
  obtain ⟨y1, y2, y3, y4, y5, y6⟩ := hy
  rcases hc with hc | hc | hc | hc
  · obtain ⟨N, n1, n2⟩ := o1 hc
    obtain ⟨z1, z2, z3, z4, z5, z6⟩ := y3 hc
    have HN : h_C N 0 g' := h_Cjs (n := 0) h hp hp40 n1 (fun j hj => absurd hj (Nat.not_lt_zero _)) y1 (fun _ => ⟨z4, z5⟩) (fun x x0 hx hn _ => z6 x x0 hx hn)
    have e : ∀ id k, id ≠ 19 → id ≠ 20 → M' id k = N id k := fun id k h1 h2 => n2.1 id k (by omega)
    exact fun q hq => h_Cq_cg (HN q hq) rfl (fun _ _ _ => rfl) (fun a _ => e _ _ (by decide) (by decide)) (e _ _ (by decide) (by decide)) (e _ _ (by decide) (by decide)) (e _ _ (by decide) (by decide))
  · obtain ⟨z1, z2, z3, -⟩ := y4 hc
    have hj : w_jn M p 1 f n := by
      rcases ht with ht | ht | ht | ht
      · exact absurd (hc.symm.trans ht.1) (by decide)
      · exact ht.2.2
      · exact absurd (hc.symm.trans ht.1) (by decide)
      · exact absurd hc ht.2.1
    exact h_Cjs h hp hp40 (o2 hc) (fun j hj' => ⟨(hj j hj').1, (hj j hj').2.1⟩) y1 (fun e => absurd (e.symm.trans z1) (by decide)) z3.2
  · obtain ⟨z1, z2, z3⟩ := y5 hc
    have hj : w_jn M p 2 f n := by
      rcases ht with ht | ht | ht | ht
      · exact absurd (hc.symm.trans ht.1) (by decide)
      · exact absurd (hc.symm.trans ht.1) (by decide)
      · exact ht.2.2
      · exact absurd hc ht.2.2.1
    exact h_Cjs h hp hp40 (o3 hc) (fun j hj' => ⟨(hj j hj').1, (hj j hj').2.1⟩) y1 (fun e => absurd (e.symm.trans z1) (by decide)) z3.2
  · obtain ⟨z1, z2, z3, -⟩ := y6 hc
    have hj : w_jn M p 3 f n := by
      rcases ht with ht | ht | ht | ht
      · exact absurd (hc.symm.trans ht.1) (by decide)
      · exact absurd (hc.symm.trans ht.1) (by decide)
      · exact absurd (hc.symm.trans ht.1) (by decide)
      · exact ht.2.2.2
    exact h_Cjs h hp hp40 (o4 (by rw [hc]; decide) (by rw [hc]; decide) (by rw [hc]; decide)) (fun j hj' => ⟨(hj j hj').1, (hj j hj').2.1⟩) y1 (fun e => absurd (e.symm.trans z1) (by decide)) z3.2
