theorem h_to {M M' : EM} {g g' : Int → Int} {p : Nat} (h : h_B M 0 g) (hp : g 1198 = p) {c : Int} {f n gr : Nat} {G D : Nat → Int} {t : Int} (ht : w_tl M p c f n) (ho : w_to M M' p c t f n) (hy : y_ot g g' p (M 167) G D c f n gr) (hc : c = 99 ∨ c = 114 ∨ c = 102 ∨ c = 98) : h_B M' 0 g' := by
  obtain ⟨hp40, ht⟩ := ht
  obtain ⟨o1, o2, o3, o4⟩ := ho
  obtain ⟨y1, y2, y3, y4, y5, y6⟩ := hy
  rcases hc with hc | hc | hc | hc
  · obtain ⟨N, n1, n2⟩ := o1 hc
    obtain ⟨z1, z2, z3, z4, z5, z6⟩ := y3 hc
    have HN : h_B N 0 g' := h_js (n := 0) h hp hp40 n1 (fun j hj => absurd hj (Nat.not_lt_zero _)) ⟨by decide, by decide⟩ y1 y2 z1 ⟨fun j hj => absurd hj (Nat.not_lt_zero _), fun x x0 hx hn _ => z6 x x0 hx hn⟩
    obtain ⟨k1, k2, k3⟩ := HN
    have e : ∀ id k, id ≠ 19 → id ≠ 20 → M' id k = N id k := fun id k h1 h2 => n2.1 id k (by omega)
    refine ⟨(e _ _ (by decide) (by decide)).trans k1, k2, fun q hq => ?_⟩
    obtain ⟨q1, q2, q3⟩ := k3 q hq
    exact ⟨(e _ _ (by decide) (by decide)).trans q1, (e _ _ (by decide) (by decide)).trans q2, q3⟩
  · obtain ⟨z1, z2, z3, -⟩ := y4 hc
    have hj : w_jn M p 1 f n := by
      rcases ht with ht | ht | ht | ht
      · exact absurd (hc.symm.trans ht.1) (by decide)
      · exact ht.2.2
      · exact absurd (hc.symm.trans ht.1) (by decide)
      · exact absurd hc ht.2.1
    exact h_js h hp hp40 (o2 hc) (fun j hj' => ⟨(hj j hj').1, (hj j hj').2.1⟩) ⟨by decide, by decide⟩ y1 y2 z1 z3
  · obtain ⟨z1, z2, z3⟩ := y5 hc
    have hj : w_jn M p 2 f n := by
      rcases ht with ht | ht | ht | ht
      · exact absurd (hc.symm.trans ht.1) (by decide)
      · exact absurd (hc.symm.trans ht.1) (by decide)
      · exact ht.2.2
      · exact absurd hc ht.2.2.1
    exact h_js h hp hp40 (o3 hc) (fun j hj' => ⟨(hj j hj').1, (hj j hj').2.1⟩) ⟨by decide, by decide⟩ y1 y2 z1 z3
  · obtain ⟨z1, z2, z3, -⟩ := y6 hc
    have hj : w_jn M p 3 f n := by
      rcases ht with ht | ht | ht | ht
      · exact absurd (hc.symm.trans ht.1) (by decide)
      · exact absurd (hc.symm.trans ht.1) (by decide)
      · exact absurd (hc.symm.trans ht.1) (by decide)
      · exact ht.2.2.2
    exact h_js h hp hp40 (o4 (by rw [hc]; decide) (by rw [hc]; decide) (by rw [hc]; decide)) (fun j hj' => ⟨(hj j hj').1, (hj j hj').2.1⟩) ⟨by decide, by decide⟩ y1 y2 z1 z3

