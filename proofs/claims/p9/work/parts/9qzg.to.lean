/-! a STATEMENT comes: members and CURVES stay related -/
section HDT
variable {M M' : EM} {g g' : Int → Int} {p : Nat}
theorem hd_old (hD : hd_D M 0 g) (hp : g 1198 = p) (hp40 : p < 40) {K t : Int} {f n : Nat} (hs : w_js M M' p K t f n) (hj : ∀ j, j < n → 0 ≤ M 167 (f + j) ∧ M 167 (f + j) < p ∧ g (28 * M 167 (f + j) + 1) = 0) (m2 : ∀ x, 0 ≤ x → (x < 28 * (p : Int) ∨ 28 * (p : Int) + 28 ≤ x) → x ≠ 1198 → (∀ j, j < n → x ≠ 28 * M 167 (f + j) + 1) → g' x = g x) : ∀ q : Nat, q < p → hd_q M' 0 g' q := by
  obtain ⟨a1, a2, a3, a4, a5, a6, a7, a8, a9, a10, a11, a12, a13⟩ := hs
  intro q hq
  obtain ⟨b1, b2, b3, -⟩ := a8 q (by omega)
  refine hd_q_cg (hD q (by omega)) ⟨?_, ?_, fun d d0 d1 _ _ => ?_⟩ (fun m m0 m1 => ⟨?_, fun h0 => ?_⟩) ⟨b2, b3, fun k hk => ?_, fun i hi => ?_, fun k hk => ?_⟩
  · exact m2 _ (by omega) (Or.inl (by omega)) (by omega) (fun j hj' => by omega)
  · exact m2 _ (by omega) (Or.inl (by omega)) (by omega) (fun j hj' => by omega)
  · exact m2 _ (by omega) (Or.inl (by omega)) (by omega) (fun j hj' => by omega)
  · exact m2 _ (by omega) (Or.inl (by omega)) (by omega) (fun j hj' => by omega)
  · refine m2 _ (by omega) (Or.inl (by omega)) (by omega) (fun j hj' e => h0 ?_)
    rw [e]
    exact (hj j hj').2.2
  · exact a9 _ (Or.inl (by omega))
  · exact ⟨a13 _ _ (by omega) (by omega) (by omega) (by omega), a13 _ _ (by omega) (by omega) (by omega) (by omega)⟩
  · exact a13 _ _ (by omega) (by omega) (by omega) (by omega)
/-- a new PART's members -/
theorem hd_new (hB : h_B M 0 g) (hp : g 1198 = p) {K t : Int} {f n : Nat} (hs : w_js M M' p K t f n) (hj : w_jn M p K f n) (hm : y_mo g g' p (M 167) f n) {k : Nat} (hk : k < n) : hd_mb M' 0 g' p k ∧ w_mh K (g' (28 * g' (28 * (p : Int) + 3 + (k : Int)))) := by
  obtain ⟨a1, a2, a3, a4, a5, a6, a7, a8, a9, a10, a11, a12, a13⟩ := hs
  obtain ⟨m1, m2⟩ := hm
  obtain ⟨c1, c2, c3, c4, c5⟩ := hj k hk
  obtain ⟨d1, d2⟩ := m1 k hk
  have e : ∀ j : Nat, j < n → g' (28 * (p : Int) + 3 + (j : Int)) = M 167 (f + j) := fun j h => (m1 j h).1
  obtain ⟨o, ho⟩ : ∃ o : Nat, M 167 (f + k) = o := ⟨(M 167 (f + k)).toNat, by omega⟩
  obtain ⟨q1, -, -, -⟩ := hB.2.2 o (by omega)
  have q1 : M 11 o = g (28 * (o : Int)) := q1
  have e28 : g' (28 * (o : Int)) = g (28 * (o : Int)) := m2 _ (by omega) (Or.inl (by omega)) (by have := hB.2.1.2; omega) (fun j hj' => by omega)
  unfold hd_mb
  rw [e k hk]
  refine ⟨⟨(a6 k hk).1, c1, c2, d2, fun j hj' => ?_⟩, ?_⟩
  · rw [e j (by omega)]
    exact c5 j hj'
  · rw [ho, Int.toNat_natCast] at c4
    rw [ho, e28, ← q1]
    exact c4
theorem hd_free (hB : h_B M 0 g) (hp : g 1198 = p) {K : Int} {f n : Nat} (hj : w_jn M p K f n) : ∀ j, j < n → 0 ≤ M 167 (f + j) ∧ M 167 (f + j) < p ∧ g (28 * M 167 (f + j) + 1) = 0 := by
  intro j hj'
  obtain ⟨c1, c2, c3, -, -⟩ := hj j hj'
  obtain ⟨o, ho⟩ : ∃ o : Nat, M 167 (f + j) = o := ⟨(M 167 (f + j)).toNat, by omega⟩
  obtain ⟨-, q2, -, q4, -⟩ := hB.2.2 o (by omega)
  have q2 : M 13 o = g (28 * (o : Int) + 1) - 1 := q2
  rw [ho, Int.toNat_natCast] at c3
  rw [ho] at c1 c2 ⊢
  exact ⟨c1, c2, by omega⟩
theorem hd_to (hB : h_B M 0 g) (hD : hd_D M 0 g) (hp : g 1198 = p) {c : Int} {f n gr : Nat} (ht : w_tl M p c f n) (ho : w_to M M' p c (gr : Int) f n) (hy : y_ot g g' p (M 167) (M 168) (M 169) c f n gr) (hc : c = 99 ∨ c = 114 ∨ c = 102 ∨ c = 98) (n1 : 1 ≤ n) (hb : c = 98 → n = 1) (hn : ∀ j, j < n → (0 ≤ M 167 (f + j) ∧ M 167 (f + j) ≤ 99) ∧ (M 169 (f + j) = 0 ∨ M 169 (f + j) = 1)) : hd_D M' 0 g' := by
  obtain ⟨hp40, ht⟩ := ht
  obtain ⟨o1, o2, o3, o4⟩ := ho
  obtain ⟨y1, y2, y3, y4, y5, y6⟩ := hy
  have fin : (∀ q : Nat, q < p → hd_q M' 0 g' q) → hd_q M' 0 g' p → hd_D M' 0 g' := fun h1 h2 q hq => by
    by_cases e : q = p
    · rw [e]; exact h2
    · exact h1 q (by omega)
  rcases hc with hc | hc | hc | hc
  · obtain ⟨N, s1, s2, s3⟩ := o1 hc
    obtain ⟨z1, z2, z3, z4, z5, z6⟩ := y3 hc
    have htc : 2 ≤ n / 2 ∧ n / 2 ≤ 6 ∧ w_cn M f (n / 2 - 1) := by
      rcases ht with ht | ht | ht | ht
      · exact ht.2
      · exact absurd (hc.symm.trans ht.1) (by decide)
      · exact absurd (hc.symm.trans ht.1) (by decide)
      · exact absurd hc ht.1
    obtain ⟨t1, t2, t3, t4, t5, t6, t7⟩ := htc
    have NM : ∀ i, N 167 i = M 167 i := fun i => s1.2.2.2.2.2.2.2.2.2.2.2.2 _ _ (by omega) (by omega) (by omega) (by omega)
    have k2 : ∀ id k, id ≠ 19 → id ≠ 20 → M' id k = N id k := fun id k h1 h2 => s2 id k (by omega)
    obtain ⟨m, hm⟩ : ∃ m, n / 2 = m + 1 := ⟨n / 2 - 1, by omega⟩
    have hmn : 2 * m + 2 ≤ n := by omega
    rw [hm] at t1 t2 t4 t6 t7 z2 z3 s3
    rw [show m + 1 - 1 = m by omega] at t4 t6 t7
    refine fin (fun q hq => ?_) ⟨fun _ => ?_, fun e => absurd (z1.symm.trans e) (by decide), fun e => absurd (z1.symm.trans e) (by decide), fun e => absurd (z1.symm.trans e) (by decide)⟩
    · have h := hd_old (M' := N) (g' := g') hD hp hp40 s1 (fun j hj' => absurd hj' (Nat.not_lt_zero _)) (fun x x0 hx hx2 _ => z6 x x0 hx hx2) q hq
      refine hd_q_cg h ⟨rfl, rfl, fun _ _ _ _ _ => rfl⟩ (fun _ _ _ => ⟨rfl, fun _ => rfl⟩) ⟨k2 _ _ (by decide) (by decide), k2 _ _ (by decide) (by decide), fun k _ => ⟨k2 _ _ (by decide) (by decide), k2 _ _ (by decide) (by decide), k2 _ _ (by decide) (by decide)⟩, fun i hi => ⟨s2 _ _ (by omega), s2 _ _ (by omega)⟩, fun k _ => k2 _ _ (by omega) (by omega)⟩
    · have z2' : g' (28 * (p : Int) + 2) = ((m + 1 : Nat) : Int) := z2
      refine ⟨⟨m + 1, t1, t2, z2', ?_, ?_, ?_, ?_, fun i hi => ?_⟩, ?_, fun i hi => ?_⟩
      · have := (z3 0 (by omega)).1
        rw [show 28 * (p : Int) + 3 = 28 * (p : Int) + 3 + ((0 : Nat) : Int) by omega, this]
        exact t3
      · rw [show m + 1 - 1 = m by omega, (z3 m (by omega)).1]
        exact t4
      · rw [show m + 1 - 1 = m by omega, (z3 m (by omega)).2]
        exact t6
      · have := (z3 0 (by omega)).2
        rw [show 28 * (p : Int) + 9 = 28 * (p : Int) + 9 + ((0 : Nat) : Int) by omega, this]
        exact (hn 1 (by omega)).1.2
      · rw [(z3 i (by omega)).1, (z3 (i + 1) hi).1, (z3 i (by omega)).2, (z3 (i + 1) hi).2]
        exact t7 i (by omega)
      · show M' 12 p = _
        rw [k2 _ _ (by decide) (by decide), s1.2.1, z2', hm]
      · rw [z2'] at hi
        have hi' : i < m + 1 := by omega
        obtain ⟨r1, r2⟩ := s3 i hi'
        rw [(z3 i hi').1, (z3 i hi').2]
        exact ⟨r1.trans (NM _), r2.trans (NM _)⟩
  · obtain ⟨z1, z2, z3, z4, z5, z6, z7⟩ := y4 hc
    obtain ⟨n8, hj⟩ : n ≤ 8 ∧ w_jn M p 1 f n := by
      rcases ht with ht | ht | ht | ht
      · exact absurd (hc.symm.trans ht.1) (by decide)
      · exact ht.2
      · exact absurd (hc.symm.trans ht.1) (by decide)
      · exact absurd hc ht.2.1
    have hs := o2 hc
    refine fin (fun q hq => hd_old hD hp hp40 hs (hd_free hB hp hj) z3.2 q hq) ⟨fun e => absurd (z1.symm.trans e) (by decide), fun _ => ⟨n, gr, ⟨n1, n8, z7⟩, z2, hs.2.2.2.1, z5, hs.2.1, ?_, fun k hk => ?_⟩, fun e => absurd (z1.symm.trans e) (by decide), fun e => absurd (z1.symm.trans e) (by decide)⟩
    · obtain ⟨-, g2, g3⟩ := z6
      refine ⟨fun e => by omega, fun _ => ?_, fun j hj' => ?_⟩
      · show g' (28 * (p : Int) + 11 + ((0 : Nat) : Int)) = 0 ∧ g' (28 * (p : Int) + 11 + ((n - 1 : Nat) : Int)) = (gr : Int) - 1
        rw [(z4 0 (by omega)).1, (z4 (n - 1) (by omega)).1]
        exact g2 (by omega)
      · show g' (28 * (p : Int) + 11 + ((j + 1 : Nat) : Int)) = g' (28 * (p : Int) + 11 + (j : Int)) ∨ g' (28 * (p : Int) + 11 + ((j + 1 : Nat) : Int)) = g' (28 * (p : Int) + 11 + (j : Int)) + 1
        rw [(z4 j (by omega)).1, (z4 (j + 1) hj').1]
        exact g3 j hj'
    · obtain ⟨r1, r2⟩ := hd_new hB hp hs hj z3 hk
      obtain ⟨-, s2, s3, -⟩ := hs.2.2.2.2.2.1 k hk
      obtain ⟨u1, u2⟩ := z4 k hk
      refine ⟨r1, ?_, s2.trans u1.symm, ?_, ?_⟩
      · unfold w_mh at r2
        omega
      · rw [u1, u2]
        exact s3
      · rw [show M' (17 + 0) (8 * p + k) = M 169 (f + k) from s3]
        exact (hn k hk).2
  · obtain ⟨z1, z2, z3⟩ := y5 hc
    obtain ⟨n6, hj⟩ : n ≤ 6 ∧ w_jn M p 2 f n := by
      rcases ht with ht | ht | ht | ht
      · exact absurd (hc.symm.trans ht.1) (by decide)
      · exact absurd (hc.symm.trans ht.1) (by decide)
      · exact ht.2
      · exact absurd hc ht.2.2.1
    have hs := o3 hc
    refine fin (fun q hq => hd_old hD hp hp40 hs (hd_free hB hp hj) z3.2 q hq) ⟨fun e => absurd (z1.symm.trans e) (by decide), fun e => absurd (z1.symm.trans e) (by decide), fun _ => ⟨n, ⟨n1, n6⟩, z2, hs.2.2.2.1, hs.2.1, fun k hk => ?_⟩, fun e => absurd (z1.symm.trans e) (by decide)⟩
    obtain ⟨r1, r2⟩ := hd_new hB hp hs hj z3 hk
    refine ⟨r1, ?_⟩
    unfold w_mh at r2
    omega
  · obtain ⟨z1, z2, z3, v4, v5, v6, v7, v8⟩ := y6 hc
    have hj : w_jn M p 3 f n := by
      rcases ht with ht | ht | ht | ht
      · exact absurd (hc.symm.trans ht.1) (by decide)
      · exact absurd (hc.symm.trans ht.1) (by decide)
      · exact absurd (hc.symm.trans ht.1) (by decide)
      · exact ht.2.2.2
    have hs := o4 (by rw [hc]; decide) (by rw [hc]; decide) (by rw [hc]; decide)
    have e1 := hb hc
    obtain ⟨r1, r2⟩ := hd_new hB hp hs hj z3 (k := 0) (by omega)
    obtain ⟨b0, b1, b2, b3, b4⟩ := hs.2.2.2.2.2.2.2.2.2.2.2.1
    refine fin (fun q hq => hd_old hD hp hp40 hs (hd_free hB hp hj) z3.2 q hq) ⟨fun e => absurd (z1.symm.trans e) (by decide), fun e => absurd (z1.symm.trans e) (by decide), fun e => absurd (z1.symm.trans e) (by decide), fun _ => ⟨⟨by rw [z2, e1]; rfl, by rw [show M' (14 + 0) p = (n : Int) from hs.2.2.2.1, e1]; rfl, hs.2.1, r1, ?_⟩, ?_⟩⟩
    · unfold w_mh at r2
      omega
    · unfold hd_e3
      rw [v4, v5, v6, v7, v8]
      exact ⟨⟨b0, by decide, by decide⟩, ⟨b1, by decide, by decide⟩, Or.inl ⟨b2, rfl⟩, Or.inl ⟨b3, rfl⟩⟩
end HDT
