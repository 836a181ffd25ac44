section
/-! members, GROUPS, DIODES, CURVES, what BOXES seek by: class and reference -/
def hd_mb (M : EM) (dc : Nat) (g : Int → Int) (q k : Nat) : Prop := M (15 + dc) (8 * q + k) = g (28 * (q : Int) + 3 + (k : Int)) ∧ 0 ≤ g (28 * (q : Int) + 3 + (k : Int)) ∧ g (28 * (q : Int) + 3 + (k : Int)) < q ∧ g (28 * g (28 * (q : Int) + 3 + (k : Int)) + 1) = (q : Int) + 1 ∧ ∀ j : Nat, j < k → g (28 * (q : Int) + 3 + (j : Int)) ≠ g (28 * (q : Int) + 3 + (k : Int))
def hd_d0 (M : EM) (dc : Nat) (g : Int → Int) (q : Nat) : Prop := hd_cv g q ∧ M (12 + dc) q = g (28 * (q : Int) + 2) ∧ ∀ i : Nat, (i : Int) < g (28 * (q : Int) + 2) → M (19 + dc) (6 * q + i) = g (28 * (q : Int) + 3 + (i : Int)) ∧ M (20 + dc) (6 * q + i) = g (28 * (q : Int) + 9 + (i : Int))
def hd_d1 (M : EM) (dc : Nat) (g : Int → Int) (q n gr : Nat) : Prop := (1 ≤ n ∧ n ≤ 8 ∧ gr ≤ n) ∧ g (28 * (q : Int) + 2) = n ∧ M (14 + dc) q = n ∧ g (28 * (q : Int) + 19) = gr ∧ M (12 + dc) q = gr ∧ cu_gp (fun k => g (28 * (q : Int) + 11 + (k : Int))) n gr ∧ ∀ k : Nat, k < n → hd_mb M dc g q k ∧ g (28 * g (28 * (q : Int) + 3 + (k : Int))) = 0 ∧ M (16 + dc) (8 * q + k) = g (28 * (q : Int) + 11 + (k : Int)) ∧ M (17 + dc) (8 * q + k) = g (28 * (q : Int) + 20 + g (28 * (q : Int) + 11 + (k : Int))) ∧ (M (17 + dc) (8 * q + k) = 0 ∨ M (17 + dc) (8 * q + k) = 1)
def hd_d2 (M : EM) (dc : Nat) (g : Int → Int) (q n : Nat) : Prop := (1 ≤ n ∧ n ≤ 6) ∧ g (28 * (q : Int) + 2) = n ∧ M (14 + dc) q = n ∧ M (12 + dc) q = n ∧ ∀ k : Nat, k < n → hd_mb M dc g q k ∧ (g (28 * g (28 * (q : Int) + 3 + (k : Int))) = 0 ∨ g (28 * g (28 * (q : Int) + 3 + (k : Int))) = 1)
def hd_d3 (M : EM) (dc : Nat) (g : Int → Int) (q : Nat) : Prop := g (28 * (q : Int) + 2) = 1 ∧ M (14 + dc) q = 1 ∧ M (12 + dc) q = 1 ∧ hd_mb M dc g q 0 ∧ g (28 * g (28 * (q : Int) + 3 + ((0 : Nat) : Int))) ≠ 3
def hd_e3 (M : EM) (dc : Nat) (g : Int → Int) (q : Nat) : Prop := (M (37 + dc + q) 0 = g (28 * (q : Int) + 4) ∧ 0 ≤ g (28 * (q : Int) + 4) ∧ g (28 * (q : Int) + 4) ≤ 500) ∧ (M (37 + dc + q) 1 = g (28 * (q : Int) + 5) ∧ 1 ≤ g (28 * (q : Int) + 5) ∧ g (28 * (q : Int) + 5) ≤ 40) ∧ ((M (37 + dc + q) 2 = 0 ∧ g (28 * (q : Int) + 6) = 1) ∨ (M (37 + dc + q) 2 = 1 ∧ g (28 * (q : Int) + 6) = -1)) ∧ ((M (37 + dc + q) 3 = 0 ∧ g (28 * (q : Int) + 7) = 0) ∨ (M (37 + dc + q) 3 = 1 ∧ g (28 * (q : Int) + 7) = 1 ∧ M (37 + dc + q) 4 = g (28 * (q : Int) + 8) ∧ 0 ≤ g (28 * (q : Int) + 8) ∧ g (28 * (q : Int) + 8) ≤ 1000000))
def hd_q (M : EM) (dc : Nat) (g : Int → Int) (q : Nat) : Prop := (g (28 * (q : Int)) = 0 → hd_d0 M dc g q) ∧ (g (28 * (q : Int)) = 1 → ∃ n gr, hd_d1 M dc g q n gr) ∧ (g (28 * (q : Int)) = 2 → ∃ n, hd_d2 M dc g q n) ∧ (g (28 * (q : Int)) = 3 → hd_d3 M dc g q ∧ hd_e3 M dc g q)
def hd_D (M : EM) (dc : Nat) (g : Int → Int) : Prop := ∀ q : Nat, (q : Int) < g 1198 → hd_q M dc g q
/-- what counts of PART q is as it was -/
def hd_ag (g g' : Int → Int) (q : Int) : Prop := g' (28 * q) = g (28 * q) ∧ g' (28 * q + 2) = g (28 * q + 2) ∧ ∀ d, 3 ≤ d → d < 28 → (g (28 * q) = 0 → d < 15) → (g (28 * q) = 3 → d < 9) → g' (28 * q + d) = g (28 * q + d)
def hd_ac (M M' : EM) (dc dc' q : Nat) : Prop := M' (12 + dc') q = M (12 + dc) q ∧ M' (14 + dc') q = M (14 + dc) q ∧ (∀ k, k < 8 → M' (15 + dc') (8 * q + k) = M (15 + dc) (8 * q + k) ∧ M' (16 + dc') (8 * q + k) = M (16 + dc) (8 * q + k) ∧ M' (17 + dc') (8 * q + k) = M (17 + dc) (8 * q + k)) ∧ (∀ i, i < 6 → M' (19 + dc') (6 * q + i) = M (19 + dc) (6 * q + i) ∧ M' (20 + dc') (6 * q + i) = M (20 + dc) (6 * q + i)) ∧ ∀ k, k < 5 → M' (37 + dc' + q) k = M (37 + dc + q) k
def hd_am (g g' : Int → Int) (q : Int) : Prop := ∀ m, 0 ≤ m → m < q → g' (28 * m) = g (28 * m) ∧ (g (28 * m + 1) ≠ 0 → g' (28 * m + 1) = g (28 * m + 1))
section HDC
variable {M M' : EM} {dc dc' q : Nat} {g g' : Int → Int}
theorem hd_mb_cg {n k : Nat} (h : hd_mb M dc g q k) (hk : k < n) (hn : n ≤ 8) (e : ∀ j : Nat, j < n → g' (28 * (q : Int) + 3 + (j : Int)) = g (28 * (q : Int) + 3 + (j : Int))) (hm : hd_am g g' q) (c : M' (15 + dc') (8 * q + k) = M (15 + dc) (8 * q + k)) : hd_mb M' dc' g' q k ∧ g' (28 * g' (28 * (q : Int) + 3 + (k : Int))) = g (28 * g (28 * (q : Int) + 3 + (k : Int))) := by
  obtain ⟨a1, a2, a3, a4, a5⟩ := h
  obtain ⟨m1, m2⟩ := hm _ a2 a3
  unfold hd_mb
  rw [e k hk, c]
  refine ⟨⟨a1, a2, a3, (m2 (by omega)).trans a4, fun j hj => ?_⟩, m1⟩
  rw [e j (by omega)]
  exact a5 j hj
theorem hd_q_cg (h : hd_q M dc g q) (a : hd_ag g g' q) (hm : hd_am g g' q) (c : hd_ac M M' dc dc' q) : hd_q M' dc' g' q := by
  obtain ⟨h0, h1, h2, h3⟩ := h
  obtain ⟨e0, e2, ed⟩ := a
  obtain ⟨c12, c14, cm, cp, cs⟩ := c
  unfold hd_q
  rw [e0]
  refine ⟨fun k => ?_, fun k => ?_, fun k => ?_, fun k => ?_⟩
  · obtain ⟨b1, b2, b3⟩ := h0 k
    obtain ⟨n, n1, n2, n3, n4, n5, n6, n7, n8⟩ := b1
    have z3 : ∀ i : Nat, i < n → g' (28 * (q : Int) + 3 + (i : Int)) = g (28 * (q : Int) + 3 + (i : Int)) := fun i hi => by
      rw [Int.add_assoc]
      exact ed _ (by omega) (by omega) (fun _ => by omega) (fun e => by omega)
    have z9 : ∀ i : Nat, i < n → g' (28 * (q : Int) + 9 + (i : Int)) = g (28 * (q : Int) + 9 + (i : Int)) := fun i hi => by
      rw [Int.add_assoc]
      exact ed _ (by omega) (by omega) (fun _ => by omega) (fun e => by omega)
    refine ⟨⟨n, n1, n2, e2.trans n3, (ed 3 (by decide) (by decide) (fun _ => by decide) (fun _ => by decide)).trans n4, ?_, ?_, ?_, fun i hi => ?_⟩, ?_, fun i hi => ?_⟩
    · rw [z3 _ (by omega)]; exact n5
    · rw [z9 _ (by omega)]; exact n6
    · rw [ed 9 (by decide) (by decide) (fun _ => by decide) (fun e => by omega)]; exact n7
    · rw [z3 _ (by omega), z3 _ (by omega), z9 _ (by omega), z9 _ (by omega)]
      exact n8 i hi
    · rw [c12, e2]; exact b2
    · rw [e2] at hi
      obtain ⟨d1, d2⟩ := b3 i hi
      rw [(cp i (by omega)).1, (cp i (by omega)).2, z3 i (by omega), z9 i (by omega)]
      exact ⟨d1, d2⟩
  · obtain ⟨n, gr, ⟨n1, n2, n3⟩, b1, b2, b3, b4, b5, b6⟩ := h1 k
    have z3 : ∀ i : Nat, i < n → g' (28 * (q : Int) + 3 + (i : Int)) = g (28 * (q : Int) + 3 + (i : Int)) := fun i hi => by
      rw [Int.add_assoc]
      exact ed _ (by omega) (by omega) (fun e => by omega) (fun e => by omega)
    have z11 : ∀ i : Nat, i < n → g' (28 * (q : Int) + 11 + (i : Int)) = g (28 * (q : Int) + 11 + (i : Int)) := fun i hi => by
      rw [Int.add_assoc]
      exact ed _ (by omega) (by omega) (fun e => by omega) (fun e => by omega)
    refine ⟨n, gr, ⟨n1, n2, n3⟩, e2.trans b1, c14.trans b2, (ed 19 (by decide) (by decide) (fun e => by omega) (fun e => by omega)).trans b3, c12.trans b4, ?_, fun i hi => ?_⟩
    · obtain ⟨p1, p2, p3⟩ := b5
      refine ⟨p1, fun hn => ?_, fun j hj => ?_⟩
      · have r1 := z11 0 (by omega)
        have r2 := z11 (n - 1) (by omega)
        exact ⟨r1.trans (p2 hn).1, r2.trans (p2 hn).2⟩
      · show g' (28 * (q : Int) + 11 + ((j + 1 : Nat) : Int)) = g' (28 * (q : Int) + 11 + (j : Int)) ∨ g' (28 * (q : Int) + 11 + ((j + 1 : Nat) : Int)) = g' (28 * (q : Int) + 11 + (j : Int)) + 1
        rw [z11 _ hj, z11 j (by omega)]
        exact p3 j hj
    · obtain ⟨d1, d2, d3, d4, d5⟩ := b6 i hi
      obtain ⟨f1, f2⟩ := hd_mb_cg d1 hi n2 z3 hm (cm i (by omega)).1
      have G0 : 0 ≤ g (28 * (q : Int) + 11 + (i : Int)) ∧ g (28 * (q : Int) + 11 + (i : Int)) < 8 := by
        obtain ⟨y, y1, y2, y3⟩ := cu_st_in (v := fun _ => 0) (D := fun _ => 0) b5 i hi
        have y1 : g (28 * (q : Int) + 11 + (i : Int)) = y := y1
        have := cu_gp_lt b5 i hi
        have : g (28 * (q : Int) + 11 + (i : Int)) < gr := this
        omega
      have z20 : g' (28 * (q : Int) + 20 + g (28 * (q : Int) + 11 + (i : Int))) = g (28 * (q : Int) + 20 + g (28 * (q : Int) + 11 + (i : Int))) := by
        rw [Int.add_assoc]
        exact ed _ (by omega) (by omega) (fun e => by omega) (fun e => by omega)
      rw [f2, (cm i (by omega)).2.1, (cm i (by omega)).2.2, z11 i hi, z20]
      exact ⟨f1, d2, d3, d4, d5⟩
  · obtain ⟨n, ⟨n1, n2⟩, b1, b2, b3, b4⟩ := h2 k
    have z3 : ∀ i : Nat, i < n → g' (28 * (q : Int) + 3 + (i : Int)) = g (28 * (q : Int) + 3 + (i : Int)) := fun i hi => by
      rw [Int.add_assoc]
      exact ed _ (by omega) (by omega) (fun e => by omega) (fun e => by omega)
    refine ⟨n, ⟨n1, n2⟩, e2.trans b1, c14.trans b2, c12.trans b3, fun i hi => ?_⟩
    obtain ⟨d1, d2⟩ := b4 i hi
    obtain ⟨f1, f2⟩ := hd_mb_cg d1 hi (by omega) z3 hm (cm i (by omega)).1
    rw [f2]
    exact ⟨f1, d2⟩
  · obtain ⟨⟨b1, b2, b3, b4, b5⟩, b6⟩ := h3 k
    have z3 : ∀ i : Nat, i < 1 → g' (28 * (q : Int) + 3 + (i : Int)) = g (28 * (q : Int) + 3 + (i : Int)) := fun i hi => by
      rw [Int.add_assoc]
      exact ed _ (by omega) (by omega) (fun e => by omega) (fun e => by omega)
    obtain ⟨f1, f2⟩ := hd_mb_cg b4 (by decide : 0 < 1) (by decide) z3 hm (cm 0 (by decide)).1
    refine ⟨⟨e2.trans b1, c14.trans b2, c12.trans b3, f1, by rw [f2]; exact b5⟩, ?_⟩
    unfold hd_e3
    rw [cs 0 (by decide), cs 1 (by decide), cs 2 (by decide), cs 3 (by decide), cs 4 (by decide), ed 4 (by decide) (by decide) (fun e => by omega) (fun _ => by decide), ed 5 (by decide) (by decide) (fun e => by omega) (fun _ => by decide), ed 6 (by decide) (by decide) (fun e => by omega) (fun _ => by decide), ed 7 (by decide) (by decide) (fun e => by omega) (fun _ => by decide), ed 8 (by decide) (by decide) (fun e => by omega) (fun _ => by decide)]
    exact b6
end HDC
end
section
/-! a STATEMENT comes: members and CURVES stay related -/
section HDT
variable {M M' : EM} {g g' : Int → Int} {p : Nat}
theorem hd_old (hD : hd_D M 0 g) (hp : g 1198 = p) (hp40 : p < 40) {K t : Int} {f n : Nat} (hs : w_js M M' p K t f n) (hj : ∀ j, j < n → 0 ≤ M 167 (f + j) ∧ M 167 (f + j) < p ∧ g (28 * M 167 (f + j) + 1) = 0) (m2 : ∀ x, 0 ≤ x → (x < 28 * (p : Int) ∨ 28 * (p : Int) + 28 ≤ x) → x ≠ 1198 → (∀ j, j < n → x ≠ 28 * M 167 (f + j) + 1) → g' x = g x) : ∀ q : Nat, q < p → hd_q M' 0 g' q := by
  obtain ⟨a1, a2, a3, a4, a5, a6, a7, a8, a9, a10, a11, a12, a13⟩ := hs
  intro q hq
  obtain ⟨b1, b2, b3, -⟩ := a8 q (by omega)
  refine hd_q_cg (hD q (by omega)) ⟨?_, ?_, fun d d0 d1 _ _ => ?_⟩ (fun m m0 m1 => ⟨?_, fun h0 => ?_⟩) ⟨b2, b3, fun k hk => ?_, fun i hi => ?_, fun k hk => ?_⟩
  · exact m2 _ (by omega) (Or.inl (by omega)) (by omega) (fun j hj' => by omega)
  · exact m2 _ (by omega) (Or.inl (by omega)) (by omega) (fun j hj' => by omega)
  · exact m2 _ (by omega) (Or.inl (by omega)) (by omega) (fun j hj' => by omega)
  · exact m2 _ (by omega) (Or.inl (by omega)) (by omega) (fun j hj' => by omega)
  · refine m2 _ (by omega) (Or.inl (by omega)) (by omega) (fun j hj' e => h0 ?_)
    rw [e]
    exact (hj j hj').2.2
  · exact a9 _ (Or.inl (by omega))
  · exact ⟨a13 _ _ (by omega) (by omega) (by omega) (by omega), a13 _ _ (by omega) (by omega) (by omega) (by omega)⟩
  · exact a13 _ _ (by omega) (by omega) (by omega) (by omega)
/-- a new PART's members -/
theorem hd_new (hB : h_B M 0 g) (hp : g 1198 = p) {K t : Int} {f n : Nat} (hs : w_js M M' p K t f n) (hj : w_jn M p K f n) (hm : y_mo g g' p (M 167) f n) {k : Nat} (hk : k < n) : hd_mb M' 0 g' p k ∧ w_mh K (g' (28 * g' (28 * (p : Int) + 3 + (k : Int)))) := by
  obtain ⟨a1, a2, a3, a4, a5, a6, a7, a8, a9, a10, a11, a12, a13⟩ := hs
  obtain ⟨m1, m2⟩ := hm
  obtain ⟨c1, c2, c3, c4, c5⟩ := hj k hk
  obtain ⟨d1, d2⟩ := m1 k hk
  have e : ∀ j : Nat, j < n → g' (28 * (p : Int) + 3 + (j : Int)) = M 167 (f + j) := fun j h => (m1 j h).1
  obtain ⟨o, ho⟩ : ∃ o : Nat, M 167 (f + k) = o := ⟨(M 167 (f + k)).toNat, by omega⟩
  obtain ⟨q1, -, -, -⟩ := hB.2.2 o (by omega)
  have q1 : M 11 o = g (28 * (o : Int)) := q1
  have e28 : g' (28 * (o : Int)) = g (28 * (o : Int)) := m2 _ (by omega) (Or.inl (by omega)) (by have := hB.2.1.2; omega) (fun j hj' => by omega)
  unfold hd_mb
  rw [e k hk]
  refine ⟨⟨(a6 k hk).1, c1, c2, d2, fun j hj' => ?_⟩, ?_⟩
  · rw [e j (by omega)]
    exact c5 j hj'
  · rw [ho, Int.toNat_natCast] at c4
    rw [ho, e28, ← q1]
    exact c4
theorem hd_free (hB : h_B M 0 g) (hp : g 1198 = p) {K : Int} {f n : Nat} (hj : w_jn M p K f n) : ∀ j, j < n → 0 ≤ M 167 (f + j) ∧ M 167 (f + j) < p ∧ g (28 * M 167 (f + j) + 1) = 0 := by
  intro j hj'
  obtain ⟨c1, c2, c3, -, -⟩ := hj j hj'
  obtain ⟨o, ho⟩ : ∃ o : Nat, M 167 (f + j) = o := ⟨(M 167 (f + j)).toNat, by omega⟩
  obtain ⟨-, q2, -, q4, -⟩ := hB.2.2 o (by omega)
  have q2 : M 13 o = g (28 * (o : Int) + 1) - 1 := q2
  rw [ho, Int.toNat_natCast] at c3
  rw [ho] at c1 c2 ⊢
  exact ⟨c1, c2, by omega⟩
theorem hd_to (hB : h_B M 0 g) (hD : hd_D M 0 g) (hp : g 1198 = p) {c : Int} {f n gr : Nat} (ht : w_tl M p c f n) (ho : w_to M M' p c (gr : Int) f n) (hy : y_ot g g' p (M 167) (M 168) (M 169) c f n gr) (hc : c = 99 ∨ c = 114 ∨ c = 102 ∨ c = 98) (n1 : 1 ≤ n) (hb : c = 98 → n = 1) (hn : ∀ j, j < n → (0 ≤ M 167 (f + j) ∧ M 167 (f + j) ≤ 99) ∧ (M 169 (f + j) = 0 ∨ M 169 (f + j) = 1)) : hd_D M' 0 g' := by
  obtain ⟨hp40, ht⟩ := ht
  obtain ⟨o1, o2, o3, o4⟩ := ho
  obtain ⟨y1, y2, y3, y4, y5, y6⟩ := hy
  have fin : (∀ q : Nat, q < p → hd_q M' 0 g' q) → hd_q M' 0 g' p → hd_D M' 0 g' := fun h1 h2 q hq => by
    by_cases e : q = p
    · rw [e]; exact h2
    · exact h1 q (by omega)
  rcases hc with hc | hc | hc | hc
  · obtain ⟨N, s1, s2, s3⟩ := o1 hc
    obtain ⟨z1, z2, z3, z4, z5, z6⟩ := y3 hc
    have htc : 2 ≤ n / 2 ∧ n / 2 ≤ 6 ∧ w_cn M f (n / 2 - 1) := by
      rcases ht with ht | ht | ht | ht
      · exact ht.2
      · exact absurd (hc.symm.trans ht.1) (by decide)
      · exact absurd (hc.symm.trans ht.1) (by decide)
      · exact absurd hc ht.1
    obtain ⟨t1, t2, t3, t4, t5, t6, t7⟩ := htc
    have NM : ∀ i, N 167 i = M 167 i := fun i => s1.2.2.2.2.2.2.2.2.2.2.2.2 _ _ (by omega) (by omega) (by omega) (by omega)
    have k2 : ∀ id k, id ≠ 19 → id ≠ 20 → M' id k = N id k := fun id k h1 h2 => s2 id k (by omega)
    obtain ⟨m, hm⟩ : ∃ m, n / 2 = m + 1 := ⟨n / 2 - 1, by omega⟩
    have hmn : 2 * m + 2 ≤ n := by omega
    rw [hm] at t1 t2 t4 t6 t7 z2 z3 s3
    rw [show m + 1 - 1 = m by omega] at t4 t6 t7
    refine fin (fun q hq => ?_) ⟨fun _ => ?_, fun e => absurd (z1.symm.trans e) (by decide), fun e => absurd (z1.symm.trans e) (by decide), fun e => absurd (z1.symm.trans e) (by decide)⟩
    · have h := hd_old (M' := N) (g' := g') hD hp hp40 s1 (fun j hj' => absurd hj' (Nat.not_lt_zero _)) (fun x x0 hx hx2 _ => z6 x x0 hx hx2) q hq
      refine hd_q_cg h ⟨rfl, rfl, fun _ _ _ _ _ => rfl⟩ (fun _ _ _ => ⟨rfl, fun _ => rfl⟩) ⟨k2 _ _ (by decide) (by decide), k2 _ _ (by decide) (by decide), fun k _ => ⟨k2 _ _ (by decide) (by decide), k2 _ _ (by decide) (by decide), k2 _ _ (by decide) (by decide)⟩, fun i hi => ⟨s2 _ _ (by omega), s2 _ _ (by omega)⟩, fun k _ => k2 _ _ (by omega) (by omega)⟩
    · have z2' : g' (28 * (p : Int) + 2) = ((m + 1 : Nat) : Int) := z2
      refine ⟨⟨m + 1, t1, t2, z2', ?_, ?_, ?_, ?_, fun i hi => ?_⟩, ?_, fun i hi => ?_⟩
      · have := (z3 0 (by omega)).1
        rw [show 28 * (p : Int) + 3 = 28 * (p : Int) + 3 + ((0 : Nat) : Int) by omega, this]
        exact t3
      · rw [show m + 1 - 1 = m by omega, (z3 m (by omega)).1]
        exact t4
      · rw [show m + 1 - 1 = m by omega, (z3 m (by omega)).2]
        exact t6
      · have := (z3 0 (by omega)).2
        rw [show 28 * (p : Int) + 9 = 28 * (p : Int) + 9 + ((0 : Nat) : Int) by omega, this]
        exact (hn 1 (by omega)).1.2
      · rw [(z3 i (by omega)).1, (z3 (i + 1) hi).1, (z3 i (by omega)).2, (z3 (i + 1) hi).2]
        exact t7 i (by omega)
      · show M' 12 p = _
        rw [k2 _ _ (by decide) (by decide), s1.2.1, z2', hm]
      · rw [z2'] at hi
        have hi' : i < m + 1 := by omega
        obtain ⟨r1, r2⟩ := s3 i hi'
        rw [(z3 i hi').1, (z3 i hi').2]
        exact ⟨r1.trans (NM _), r2.trans (NM _)⟩
  · obtain ⟨z1, z2, z3, z4, z5, z6, z7⟩ := y4 hc
    obtain ⟨n8, hj⟩ : n ≤ 8 ∧ w_jn M p 1 f n := by
      rcases ht with ht | ht | ht | ht
      · exact absurd (hc.symm.trans ht.1) (by decide)
      · exact ht.2
      · exact absurd (hc.symm.trans ht.1) (by decide)
      · exact absurd hc ht.2.1
    have hs := o2 hc
    refine fin (fun q hq => hd_old hD hp hp40 hs (hd_free hB hp hj) z3.2 q hq) ⟨fun e => absurd (z1.symm.trans e) (by decide), fun _ => ⟨n, gr, ⟨n1, n8, z7⟩, z2, hs.2.2.2.1, z5, hs.2.1, ?_, fun k hk => ?_⟩, fun e => absurd (z1.symm.trans e) (by decide), fun e => absurd (z1.symm.trans e) (by decide)⟩
    · obtain ⟨-, g2, g3⟩ := z6
      refine ⟨fun e => by omega, fun _ => ?_, fun j hj' => ?_⟩
      · show g' (28 * (p : Int) + 11 + ((0 : Nat) : Int)) = 0 ∧ g' (28 * (p : Int) + 11 + ((n - 1 : Nat) : Int)) = (gr : Int) - 1
        rw [(z4 0 (by omega)).1, (z4 (n - 1) (by omega)).1]
        exact g2 (by omega)
      · show g' (28 * (p : Int) + 11 + ((j + 1 : Nat) : Int)) = g' (28 * (p : Int) + 11 + (j : Int)) ∨ g' (28 * (p : Int) + 11 + ((j + 1 : Nat) : Int)) = g' (28 * (p : Int) + 11 + (j : Int)) + 1
        rw [(z4 j (by omega)).1, (z4 (j + 1) hj').1]
        exact g3 j hj'
    · obtain ⟨r1, r2⟩ := hd_new hB hp hs hj z3 hk
      obtain ⟨-, s2, s3, -⟩ := hs.2.2.2.2.2.1 k hk
      obtain ⟨u1, u2⟩ := z4 k hk
      refine ⟨r1, ?_, s2.trans u1.symm, ?_, ?_⟩
      · unfold w_mh at r2
        omega
      · rw [u1, u2]
        exact s3
      · rw [show M' (17 + 0) (8 * p + k) = M 169 (f + k) from s3]
        exact (hn k hk).2
  · obtain ⟨z1, z2, z3⟩ := y5 hc
    obtain ⟨n6, hj⟩ : n ≤ 6 ∧ w_jn M p 2 f n := by
      rcases ht with ht | ht | ht | ht
      · exact absurd (hc.symm.trans ht.1) (by decide)
      · exact absurd (hc.symm.trans ht.1) (by decide)
      · exact ht.2
      · exact absurd hc ht.2.2.1
    have hs := o3 hc
    refine fin (fun q hq => hd_old hD hp hp40 hs (hd_free hB hp hj) z3.2 q hq) ⟨fun e => absurd (z1.symm.trans e) (by decide), fun e => absurd (z1.symm.trans e) (by decide), fun _ => ⟨n, ⟨n1, n6⟩, z2, hs.2.2.2.1, hs.2.1, fun k hk => ?_⟩, fun e => absurd (z1.symm.trans e) (by decide)⟩
    obtain ⟨r1, r2⟩ := hd_new hB hp hs hj z3 hk
    refine ⟨r1, ?_⟩
    unfold w_mh at r2
    omega
  · obtain ⟨z1, z2, z3, v4, v5, v6, v7, v8⟩ := y6 hc
    have hj : w_jn M p 3 f n := by
      rcases ht with ht | ht | ht | ht
      · exact absurd (hc.symm.trans ht.1) (by decide)
      · exact absurd (hc.symm.trans ht.1) (by decide)
      · exact absurd (hc.symm.trans ht.1) (by decide)
      · exact ht.2.2.2
    have hs := o4 (by rw [hc]; decide) (by rw [hc]; decide) (by rw [hc]; decide)
    have e1 := hb hc
    obtain ⟨r1, r2⟩ := hd_new hB hp hs hj z3 (k := 0) (by omega)
    obtain ⟨b0, b1, b2, b3, b4⟩ := hs.2.2.2.2.2.2.2.2.2.2.2.1
    refine fin (fun q hq => hd_old hD hp hp40 hs (hd_free hB hp hj) z3.2 q hq) ⟨fun e => absurd (z1.symm.trans e) (by decide), fun e => absurd (z1.symm.trans e) (by decide), fun e => absurd (z1.symm.trans e) (by decide), fun _ => ⟨⟨by rw [z2, e1]; rfl, by rw [show M' (14 + 0) p = (n : Int) from hs.2.2.2.1, e1]; rfl, hs.2.1, r1, ?_⟩, ?_⟩⟩
    · unfold w_mh at r2
      omega
    · unfold hd_e3
      rw [v4, v5, v6, v7, v8]
      exact ⟨⟨b0, by decide, by decide⟩, ⟨b1, by decide, by decide⟩, Or.inl ⟨b2, rfl⟩, Or.inl ⟨b3, rfl⟩⟩
end HDT
end
section
/-! one TEXT, with any relation that a STATEMENT keeps -/
/-- PARTS below m are as they were -/
def hd_bk (M M' : EM) (m : Nat) : Prop := (∀ q, q < m → M' 11 q = M 11 q ∧ M' 12 q = M 12 q ∧ M' 13 q = M 13 q ∧ M' 14 q = M 14 q ∧ M' 22 q = M 22 q ∧ M' 23 q = M 23 q ∧ M' 24 q = M 24 q) ∧ (∀ q, q < 8 * m → M' 15 q = M 15 q ∧ M' 16 q = M 16 q ∧ M' 17 q = M 17 q) ∧ (∀ q, q < 4 * m → M' 21 q = M 21 q) ∧ (∀ q, q < 6 * m → M' 19 q = M 19 q ∧ M' 20 q = M 20 q) ∧ (∀ id k, 37 ≤ id → id < 37 + m → M' id k = M id k) ∧ M' 10 0 = M 10 0
theorem hd_bk_eq {M M' : EM} {m : Nat} (hm : m ≤ 40) (h : ∀ id i, id < 162 → M' id i = M id i) : hd_bk M M' m := ⟨fun q _ => ⟨h _ _ (by decide), h _ _ (by decide), h _ _ (by decide), h _ _ (by decide), h _ _ (by decide), h _ _ (by decide), h _ _ (by decide)⟩, fun q _ => ⟨h _ _ (by decide), h _ _ (by decide), h _ _ (by decide)⟩, fun q _ => h _ _ (by decide), fun q _ => ⟨h _ _ (by decide), h _ _ (by decide)⟩, fun id k _ h2 => h _ _ (by omega), h _ _ (by decide)⟩
/-- a STATEMENT keeps Q; what Q says is told by PARTS that are there -/
def hd_qs (Q : EM → (Int → Int) → Prop) : Prop := ∀ (M M' : EM) (g g' : Int → Int) (p : Nat) (c : Int) (f n gr : Nat), h_B M 0 g → Q M g → g 1198 = p → w_tl M p c f n → w_to M M' p c (gr : Int) f n → y_ot g g' p (M 167) (M 168) (M 169) c f n gr → (c = 99 ∨ c = 114 ∨ c = 102 ∨ c = 98) → 1 ≤ n → (c = 98 → n = 1) → (∀ j, j < n → (0 ≤ M 167 (f + j) ∧ M 167 (f + j) ≤ 99) ∧ (M 169 (f + j) = 0 ∨ M 169 (f + j) = 1)) → Q M' g'
def hd_qc (Q : EM → (Int → Int) → Prop) : Prop := ∀ (M M' : EM) (g g' : Int → Int) (p : Nat), g 1198 = p → p ≤ 40 → Q M g → (∀ i, 0 ≤ i → i < 1330 → g' i = g i) → hd_bk M M' p → Q M' g'
theorem h_run3 {Q : EM → (Int → Int) → Prop} (hs : hd_qs Q) {b : Nat → Int} {n : Nat} {N0 : EM} {p0 : Nat} (hA : w_A b n) (hz : w_T b n 2 = 0) (hn : n ≤ 120) (hK : w_K b n N0) : ∀ (d s : Nat) (M Mx R : EM) (k : Nat) (dd x3 x4 r : Int), w_run N0 p0 s d M Mx → (∀ id i, 162 ≤ id → id ≤ 169 → M id i = N0 id i) → h_B M 0 (r_G R) → Q M (r_G R) → r_G R 1198 = ((p0 + s : Nat) : Int) → R 204 1198 = p0 → y_B b n k R → w_T b k 2 = 0 → w_T b k 7 = s → (((s + d : Nat) : Int) = w_T b n 7 ∧ r = w_T b n 7) ∨ (((s + d : Nat) : Int) < w_T b n 7 ∧ ¬ w_tS N0 Mx p0 (s + d) ∧ r = -2000 - N0 163 (s + d)) → ∃ R', E_V 190 95 [192, dd, 0, x3, x4] R = some (r, R') ∧ (((s + d : Nat) : Int) = w_T b n 7 → h_B Mx 0 (r_G R') ∧ Q Mx (r_G R') ∧ y_fr R R') ∧ (((s + d : Nat) : Int) < w_T b n 7 → h_bk R R') := by
  have hX : y_X b n (N0 167) := fun k hk hN => (hK.2.2.2 k hk hN).1
  have hXG : y_XG b n (N0 168) (N0 169) := fun k hk hN => (hK.2.2.2 k hk hN).2
  intro d
  induction d with
  | zero =>
    intro s M Mx R k dd x3 x4 r hrun hM hB hC hp hb4 yB k2 k7 ho
    have e : Mx = M := hrun
    subst e
    have hkn := yB.2.2.1
    have h15 := yB.2.1
    have h17 := yB.2.2.2.1
    rcases ho with ⟨o1, o2⟩ | ⟨o1, o2, o3⟩
    · have kn : k = n := h_uq hA hkn (Nat.le_refl _) k2 hz (by omega)
      subst kn
      have l1 : e_op 60 [193, 1198] R = some (((p0 + s : Nat) : Int)) := (r_rd (by decide) (by decide)).trans (congrArg some hp)
      have l2 : e_op 60 [204, 1198] R = some (p0 : Int) := (r_204 (by decide) (by decide)).trans (congrArg some hb4)
      have ww : e_w (((p0 + s : Nat) : Int) - (p0 : Int)) = r := by
        have hs : s ≤ 120 := by
          have := w_Ii hA
          unfold w_I at this
          omega
        have e : ((p0 + s : Nat) : Int) - (p0 : Int) = (s : Int) := by omega
        rw [e, o2, ← o1]
        clear e l1 l2 o1 o2 hp hb4 hB hK hX hXG
        exact (a_w_id (by omega) (by omega)).trans (by omega)
      refine ⟨R, ?_, fun _ => ⟨hB, hC, fun _ _ _ _ => rfl⟩, fun h => by omega⟩
      rw [h_95e (by omega) l1 l2, ww]
    · have kn : k < n := by
        rcases Nat.lt_or_ge k n with h | h
        · exact h
        · have : k = n := by omega
          subst this
          omega
      obtain ⟨j, k1, u1, u2, u3, u4, u5, u6, u7, u8, u9, u10, u11, u12, u13, u14, u15⟩ := w_told hK hA hn hz (s := s) (by omega)
      have jk : j = k := h_uq hA (by omega) hkn u3 k2 (by omega)
      subst jk
      obtain ⟨f, hf⟩ : ∃ f : Nat, w_T b j 8 = f := ⟨(w_T b j 8).toNat, by omega⟩
      have e163 : e_w (-2000 - (j : Int)) = r := by
        have o3' : r = -2000 - N0 163 s := o3
        have : r = -2000 - (j : Int) := by omega
        rw [this]
        have hj : j ≤ 120 := by omega
        clear this o3 o3' u7 u8 u9 u10 u11 u12 u13 u14 u15 hf hB hp hb4 hK hX hXG o1 o2 k7 u5 u6 h15 h17
        exact a_w_id (by omega) (by omega)
      have hlt : R 192 15 < R 192 17 := by omega
      rcases y_makes (G := N0 168) (D := N0 169) hA hz hX hXG yB kn k2 hf hp (by have := hB.2.1.2; omega) with ⟨q1, q2⟩ | ⟨q1, r', R1, k', l, gr, m1, m2, m3, m4, m5, m6, m7, m8, m9⟩
      · refine ⟨_, ?_, fun h => by omega, fun _ => h_bk_of (fun _ _ _ _ => rfl)⟩
        rw [h_95n hlt q2, h15, e163]
      · have kk : k1 = k' := h_uq hA u2 m3.2.2.1 u4 m5 (by omega)
        subst kk
        have ef : (N0 165 s).toNat = f := by omega
        have el : (N0 165 (s + 1) - N0 165 s).toNat = l := by omega
        have eX : Mx 167 = N0 167 := funext fun i => hM 167 i (by decide) (by decide)
        have hc := hA j kn
        unfold w_ok at hc
        rw [if_pos k2] at hc
        have TL := h_tl (c := b j) (f := f) (n := l) hB hp (by
          rcases hc with hc | hc | hc | hc
          · exact Or.inl hc
          · exact Or.inr (Or.inl hc)
          · exact Or.inr (Or.inr (Or.inl hc))
          · refine Or.inr (Or.inr (Or.inr ⟨hc, ?_⟩))
            have := u15 (by omega) (by omega) (by omega)
            omega)
        rw [eX] at TL
        have nt : ¬ y_tl (r_G R) (p0 + s) (N0 167) (b j) f l := fun ht => o2 (by
          show w_tS N0 Mx p0 s
          unfold w_tS
          rw [ef, el, u8]
          exact TL.mpr ⟨q1, ht⟩)
        rcases m9 with ⟨-, m9, -⟩ | ⟨m9, -⟩
        · exact absurd m9 nt
        · subst m9
          refine ⟨_, ?_, fun h => by omega, fun _ => h_bk_of m2⟩
          rw [h_95n hlt m1, h15, e163]
  | succ d ih =>
    intro s M Mx R k dd x3 x4 r hrun hM hB hC hp hb4 yB k2 k7 ho
    obtain ⟨M1, t1, t2, t3⟩ := hrun
    have hkn := yB.2.2.1
    have h15 := yB.2.1
    have h17 := yB.2.2.2.1
    have sS : (s : Int) < w_T b n 7 := by
      rcases ho with ⟨o1, -⟩ | ⟨o1, -, -⟩ <;> omega
    have kn : k < n := by
      rcases Nat.lt_or_ge k n with h | h
      · exact h
      · have : k = n := by omega
        subst this
        omega
    obtain ⟨j, k1, u1, u2, u3, u4, u5, u6, u7, u8, u9, u10, u11, u12, u13, u14, u15⟩ := w_told hK hA hn hz (s := s) sS
    have jk : j = k := h_uq hA (by omega) hkn u3 k2 (by omega)
    subst jk
    obtain ⟨f, hf⟩ : ∃ f : Nat, w_T b j 8 = f := ⟨(w_T b j 8).toNat, by omega⟩
    have hlt : R 192 15 < R 192 17 := by omega
    rcases y_makes (G := N0 168) (D := N0 169) hA hz hX hXG yB kn k2 hf hp (by have := hB.2.1.2; omega) with ⟨q1, q2⟩ | ⟨q1, r', R1, k', l, gr, m1, m2, m3, m4, m5, m6, m7, m8, m9⟩
    · exact absurd t1.1 (by omega)
    · have kk : k1 = k' := h_uq hA u2 m3.2.2.1 u4 m5 (by omega)
      subst kk
      have ef : (N0 165 s).toNat = f := by omega
      have el : (N0 165 (s + 1) - N0 165 s).toNat = l := by omega
      have eX : M 167 = N0 167 := funext fun i => hM 167 i (by decide) (by decide)
      have hc := hA j kn
      unfold w_ok at hc
      rw [if_pos k2] at hc
      have TL := h_tl (c := b j) (f := f) (n := l) hB hp (by
        rcases hc with hc | hc | hc | hc
        · exact Or.inl hc
        · exact Or.inr (Or.inl hc)
        · exact Or.inr (Or.inr (Or.inl hc))
        · refine Or.inr (Or.inr (Or.inr ⟨hc, ?_⟩))
          have := u15 (by omega) (by omega) (by omega)
          omega)
      unfold w_tS at t1
      unfold w_oS at t2
      rw [ef, el, u8] at t1 t2
      rcases m9 with ⟨e, m9, m10⟩ | ⟨e, m9⟩
      · rw [← eX] at m9 m10
        have B1 := h_to hB hp t1 t2 m10 hc
        have e68 : M 168 = N0 168 := funext fun i => hM 168 i (by decide) (by decide)
        have e69 : M 169 = N0 169 := funext fun i => hM 169 i (by decide) (by decide)
        have g1 := w_ge1 (w_Al hA u2) u3 u1 u4 (by omega)
        have l1 : 1 ≤ l := by omega
        have u166 : N0 166 s = (gr : Int) := u11.trans m8
        have C1 := hs M M1 (r_G R) (r_G R1) (p0 + s) (b j) f l gr hB hC hp t1 (by rw [← u166]; exact t2) (by rw [e68, e69]; exact m10) hc l1 (fun e => by
          have := u15 (by omega) (by omega) (by omega)
          omega) (fun i hi => by
          have m8' := w_m8 (b := b) u2
          have z := w_numb hA hK (i := f + i) (by omega)
          rw [eX, e69]
          exact z)
        have kp := w_to_kp t2 t1
        have hp1 : r_G R1 1198 = ((p0 + (s + 1) : Nat) : Int) := by rw [m10.1]; omega
        have hb41 : R1 204 1198 = p0 := (m2 204 1198 (by decide) (by omega)).trans hb4
        obtain ⟨R', v1, v2, v3⟩ := ih (s + 1) M1 Mx R1 k1 dd (R 192 15) x4 r t3 (fun id i i0 i1 => (kp.1.2.2.2.2.1 id i (by omega) (by omega) (by omega)).trans (hM id i i0 i1)) B1 C1 hp1 hb41 m3 m5 (by omega) (by
          rw [show s + 1 + d = s + (d + 1) by omega]
          exact ho)
        rw [show s + 1 + d = s + (d + 1) by omega] at v2 v3
        refine ⟨R', ?_, fun h => ⟨(v2 h).1, (v2 h).2.1, fun id i h1 h2 => ((v2 h).2.2 id i h1 h2).trans (m2 id i h1 h2)⟩, fun h => ⟨fun j hj => ((v3 h).1 j hj).trans (m2 204 j (by decide) (by omega)), fun id i h1 h2 => ((v3 h).2 id i h1 h2).trans (m2 id i h1 h2)⟩⟩
        rw [h_95y hlt m1 (by rw [e]; decide)]
        exact v1
      · rw [← eX] at m9
        exact absurd (TL.mp t1).2 m9
theorem h_text3 {Q : EM → (Int → Int) → Prop} (hs : hd_qs Q) (hqc : hd_qc Q) {d r1 r2 : Int} {M M1 M2 : EM} (hJ : r_J M) (hB : h_B M 0 (r_G M)) (hC : Q M (r_G M)) (hS : h_S M) (h0 : M 165 0 = 0) (k1 : E_C 104 [8, d] M = some (r1, M1)) (J1 : r_J M1) (hfr : ∀ id i, 192 ≤ id → M1 id i = M id i) (k2 : E_C 190 [192, d] M1 = some (r2, M2)) : r1 = r2 ∧ h_B M2 0 (r_G M2) ∧ Q M2 (r_G M2) ∧ M2 165 0 = 0 := by
  obtain ⟨r, M1', c1, tx⟩ := h_class (d := d) hJ hB hS h0
  obtain ⟨p0, hp0⟩ : ∃ p0 : Nat, r_G M 1198 = p0 := ⟨(r_G M 1198).toNat, by have := hB.2.1.1; omega⟩
  have p40 : p0 ≤ 40 := by have := hB.2.1.2; omega
  have e1 := Prod.mk.inj (Option.some.inj (k1.symm.trans c1))
  obtain ⟨e1, e2⟩ := e1
  subst e1
  subst e2
  have eno : h_no M1 d 0 = h_no M d 0 := by
    unfold h_no
    rw [hfr 195 _ (by decide), hfr 196 _ (by decide)]
  have k3 := h_189 (d := d) (w := 0) (M := M1) (by decide)
  rw [eno] at k3
  have eG1 : r_G M1 = r_G M := funext fun i => hfr _ _ (by decide)
  rcases tx with ⟨q, q1, q2⟩ | ⟨q, b, n, p, N0, hb, hn, n120, hp, f1, f2, hx⟩
  · have k4 := h_190n k3 q
    have e3 := Prod.mk.inj (Option.some.inj (k2.symm.trans k4))
    refine ⟨by rw [q1, e3.1], ?_, ?_, ?_⟩
    · rw [e3.2, q2]; exact hB
    · rw [e3.2, q2]; exact hC
    · rw [e3.2, q2]; exact h0
  · rw [q] at k3
    have hd : 0 ≤ d ∧ d < 8 := by
      by_cases c : 0 ≤ d ∧ d < 8
      · exact c
      · unfold h_no at q
        rw [if_neg c] at q
        exact absurd q (by decide)
    obtain ⟨m, rfl⟩ : ∃ m : Nat, d = m := ⟨d.toNat, by omega⟩
    rw [Int.toNat_natCast] at hb hn
    have m8 : m < 8 := by omega
    have kept : M 195 m = 2 := by
      unfold h_no at q
      rw [if_pos hd, Int.toNat_natCast] at q
      by_cases c : M 195 m = 0
      · rw [if_pos c] at q; exact absurd q (by decide)
      · rw [if_neg c] at q
        by_cases c2 : M 195 m = 2 ∧ ((0 : Int) = -1 ∨ 0 = M 196 m)
        · exact c2.1
        · rw [if_neg c2] at q; exact absurd q (by decide)
    have hrow : M (146 + 2 * m) 5 = M 197 m ∧ ∀ i, i < 120 → M (147 + 2 * m) i = M 198 (120 * m + i) := by
      rcases hS m m8 with ⟨a, -⟩ | ⟨a, -⟩ | ⟨a, -, -, -, e5, e6⟩
      · omega
      · omega
      · exact ⟨e5, e6⟩
    have w1 : e_w (120 * (m : Int)) = 120 * (m : Int) := by
      clear k1 k2 k3 c1 hx hB hS hJ J1 hfr f1 f2 hb hn hrow q
      exact a_w_id (by omega) (by omega)
    have e97 : (e_up M1 192 16 (120 * (m : Int))) 197 m = (n : Int) := (c_up_n (fun hc => absurd hc.1 (by decide))).trans ((hfr 197 m (by decide)).trans (hrow.1.symm.trans hn.symm))
    have ls : e_op 60 [197, (m : Int)] (e_up M1 192 16 (120 * (m : Int))) = some (n : Int) := ((r_isD (m : Int) _ (by omega)).2.2.1).trans (congrArg some e97)
    obtain ⟨R0, hR0⟩ : ∃ R0, e_up (e_up (e_up M1 192 16 (120 * (m : Int))) 192 17 (n : Int)) 192 15 0 = R0 := ⟨_, rfl⟩
    have fR : ∀ id i, ¬ (id = 192 ∧ (15 ≤ i ∧ i ≤ 18)) → R0 id i = M1 id i := fun id i h => by
      rw [← hR0]
      exact (c_up_n (fun hc => h ⟨hc.1, by omega⟩)).trans ((c_up_n (fun hc => h ⟨hc.1, by omega⟩)).trans (c_up_n (fun hc => h ⟨hc.1, by omega⟩)))
    have p15 : R0 192 15 = 0 := by rw [← hR0]; exact c_up_s
    have p16 : R0 192 16 = 120 * (m : Int) := by rw [← hR0]; exact (r_ff (by decide)).trans ((r_ff (by decide)).trans c_up_s)
    have p17 : R0 192 17 = (n : Int) := by rw [← hR0]; exact (r_ff (by decide)).trans c_up_s
    have aR : a_M R0 := by
      rw [← hR0]
      exact r_up (by decide) (by decide +kernel) (by decide +kernel) ⟨by omega, by omega⟩ (r_up (by decide) (by decide +kernel) (by decide +kernel) ⟨by omega, by omega⟩ (r_up (by decide) (by decide +kernel) (by decide +kernel) ⟨by omega, by omega⟩ J1.1))
    have yB : y_B b n 0 R0 := ⟨aR, p15, Nat.zero_le _, p17, n120, by omega, by omega, fun i hi => by
      rw [fR _ _ (by omega), p16, hfr _ _ (by decide), show (120 * (m : Int)).toNat = 120 * m by omega, hb]
      exact (hrow.2 i (by omega)).symm⟩
    have T0 : ∀ j, w_T b 0 j = 0 := fun _ => rfl
    obtain ⟨M', tt, res⟩ := y_36 (d := (m : Int)) (x3 := 0) (x4 := 0) n 0 R0 (by omega) yB (fun j hj => absurd hj (Nat.not_lt_zero _)) (T0 2) (fun e => by
      subst e
      rw [T0]
      decide)
    have fM' : ∀ id i, ¬ (id = 192 ∧ (15 ≤ i ∧ i ≤ 18)) → M' id i = M1 id i := fun id i h => (tt.2.1 id i (by omega)).trans (fR id i h)
    have keep : (∀ id i, id ≠ 192 → M2 id i = M1 id i) → M1 = N0 → h_B M2 0 (r_G M2) ∧ Q M2 (r_G M2) ∧ M2 165 0 = 0 := fun hM2 e => by
      have eG2 : r_G M2 = r_G M := (funext fun i => hM2 _ _ (by decide)).trans eG1
      have ec : ∀ id i, id < 162 → M2 id i = M id i := fun id i hi => (hM2 id i (by omega)).trans (by rw [e]; exact f1 id i (Or.inl hi))
      rw [eG2]
      exact ⟨h_B_cg hB (ec _ _ (by decide)) rfl (fun q _ => ⟨ec _ _ (by decide), ec _ _ (by decide), rfl, rfl⟩), hqc M M2 _ _ p0 hp0 p40 hC (fun _ _ _ => rfl) (hd_bk_eq p40 ec), (hM2 _ _ (by decide)).trans f2⟩
    rcases res with ⟨k', w_f, g1⟩ | ⟨wA, wz, w7, yE, g1⟩
    · have e3 := Prod.mk.inj (Option.some.inj (k2.symm.trans (h_190y k3 w1 ls hR0 g1)))
      rcases hx with ⟨k, x1, x2, x3⟩ | ⟨x1, x2, x3, -⟩
      · have ek : k = k' := w_F_u x1 w_f
        subst ek
        refine ⟨by rw [x2, e3.1], keep (fun id i hi => ?_) x3⟩
        rw [e3.2]
        exact fM' id i (fun h => hi h.1)
      · exact absurd (w_F_n w_f x1 ⟨x2, x3⟩) id
    · rcases hx with ⟨k, x1, x2, x3⟩ | ⟨x1, x2, x3, x4, dd, Mx, x5, x6⟩
      · exact absurd (w_F_n x1 wA ⟨wz, w7⟩) id
      · have g2 := r_tx_65 (d := (m : Int)) (x4 := 0) 1330 0 M' (by decide) (by decide)
        have g2' : E_V 190 65 [192, (m : Int), 0, 0, 0] M' = E_V 190 95 [192, (m : Int), 0, 1330, 0] (e_up (r_cp M' 193 204 0) 192 15 0) := g2
        rw [g2'] at g1
        obtain ⟨R, hR⟩ : ∃ R, e_up (r_cp M' 193 204 0) 192 15 0 = R := ⟨_, rfl⟩
        rw [hR] at g1
        have c0 : ∀ id i, id ≠ 204 → ¬ (id = 192 ∧ i = 15) → R id i = M' id i := fun id i h2 h3 => by
          rw [← hR]
          exact (c_up_n h3).trans (r_cp_n h2)
        have c4 : ∀ j, j < 1330 → R 204 j = M' 193 j := fun j hj => by
          rw [← hR]
          exact (c_up_n (fun hc => absurd hc.1 (by decide))).trans (r_cp_t hj)
        have c15 : R 192 15 = 0 := by rw [← hR]; exact c_up_s
        have aR2 : a_M R := by
          rw [← hR]
          exact r_up (by decide) (by decide +kernel) (by decide +kernel) (by decide) (r_cp_M ⟨by decide, by decide +kernel⟩ ⟨by decide, by decide +kernel, by decide +kernel⟩ yE.1)
        obtain ⟨-, -, -, y17, -, y16a, y16b, y8⟩ := yE
        have yR : y_B b n 0 R := ⟨aR2, c15, Nat.zero_le _, by rw [c0 _ _ (by decide) (by omega)]; exact y17, n120, by rw [c0 _ _ (by decide) (by omega)]; exact y16a, by rw [c0 _ _ (by decide) (by omega)]; exact y16b, fun i hi => by
          rw [c0 192 16 (by decide) (by omega), c0 _ _ (by decide) (by omega)]
          exact y8 i hi⟩
        have eGR : r_G R = r_G M := (funext fun i => (c0 _ _ (by decide) (by omega)).trans (fM' _ _ (by omega))).trans eG1
        have hp98 : r_G M 1198 = p := hB.1.symm.trans hp
        have hBN : h_B N0 0 (r_G R) := by
          rw [eGR]
          exact h_B_cg hB (f1 _ _ (by omega)) rfl (fun q _ => ⟨f1 _ _ (by omega), f1 _ _ (by omega), rfl, rfl⟩)
        have hCN : Q N0 (r_G R) := by
          rw [eGR]
          exact hqc M N0 _ _ p0 hp0 p40 hC (fun _ _ _ => rfl) (hd_bk_eq p40 (fun id i hi => f1 id i (Or.inl hi)))
        have hb98 : R 204 1198 = p := (c4 1198 (by decide)).trans ((fM' 193 1198 (by omega)).trans ((hfr _ _ (by decide)).trans hp98))
        obtain ⟨R', v1, v2, v3⟩ := h_run3 hs wA wz n120 x4 dd 0 N0 Mx R 0 (m : Int) 1330 0 r1 x5 (fun _ _ _ _ => rfl) hBN hCN (by rw [eGR, hp98]; rfl) hb98 yR (T0 2) (T0 7) (by
          rcases x6 with ⟨z1, -, z3⟩ | ⟨z1, z2, z3, -⟩
          · exact Or.inl ⟨z1, z3⟩
          · exact Or.inr ⟨z1, z2, z3⟩)
        have e3 := Prod.mk.inj (Option.some.inj (k2.symm.trans (h_190y k3 w1 ls hR0 (g1.trans v1))))
        refine ⟨e3.1.symm, ?_⟩
        rw [e3.2]
        have cc : ∀ id i, id < 192 → R id i = M1 id i := fun id i h => (c0 id i (by omega) (by omega)).trans (fM' id i (by omega))
        rcases x6 with ⟨z1, z2, z3⟩ | ⟨z1, z2, z3, z4⟩
        · obtain ⟨hx1, hx3, hx2⟩ := v2 z1
          have ec : ∀ id i, id < 192 → R' id i = Mx id i := fun id i h => (hx2 id i (by omega) (by omega)).trans ((cc id i h).trans (by rw [z2]))
          have p' : ∃ p1 : Nat, r_G R' 1198 = p1 ∧ p1 ≤ 40 := ⟨(r_G R' 1198).toNat, by have := hx1.2.1; omega⟩
          obtain ⟨p1, hp1, p140⟩ := p'
          exact ⟨h_B_cg hx1 (ec _ _ (by decide)) rfl (fun q _ => ⟨ec _ _ (by decide), ec _ _ (by decide), rfl, rfl⟩), hqc Mx R' _ _ p1 hp1 p140 hx3 (fun _ _ _ => rfl) (hd_bk_eq p140 (fun id i hi => ec id i (by omega))), (ec _ _ (by decide)).trans (by rw [← z2]; exact f2)⟩
        · obtain ⟨hy1, hy2⟩ := v3 z1
          have ec : ∀ id i, id < 192 → R' id i = M1 id i := fun id i h => (hy2 id i (by omega) (by omega)).trans (cc id i h)
          have er : ∀ i : Int, 0 ≤ i → i < 1330 → r_G R' i = r_G M i := fun i i0 i1 => (hy1 i.toNat (by omega)).trans ((c4 i.toNat (by omega)).trans ((fM' _ _ (by omega)).trans (hfr _ _ (by decide))))
          have hg40 := hB.2.1.2
          have pp : p0 = p := by
            have : (p0 : Int) = p := hp0.symm.trans hp98
            omega
          obtain ⟨w1', w2', w3', w4', w5'⟩ := z4
          refine ⟨h_B_cg hB ?_ (er 1198 (by decide) (by decide)) (fun q hq => ⟨?_, ?_, er _ (by omega) (by omega), er _ (by omega) (by omega)⟩), hqc M R' _ _ p0 hp0 p40 hC er ?_, (ec _ _ (by decide)).trans f2⟩
          · exact (ec _ _ (by decide)).trans ((w5' _ _ (by omega) (by omega) (by omega)).trans (f1 _ _ (by omega)))
          · exact (ec _ _ (by decide)).trans ((w1' q (by omega)).1.trans (f1 _ _ (by omega)))
          · exact (ec _ _ (by decide)).trans ((w1' q (by omega)).2.2.1.trans (f1 _ _ (by omega)))
          · subst pp
            refine ⟨fun q hq => ?_, fun q hq => ?_, fun q hq => ?_, fun q hq => ?_, fun id k h1 h2 => ?_, ?_⟩
            · obtain ⟨r1, r2, r3, r4, r5, r6, r7⟩ := w1' q hq
              exact ⟨(ec _ _ (by decide)).trans (r1.trans (f1 _ _ (by omega))), (ec _ _ (by decide)).trans (r2.trans (f1 _ _ (by omega))), (ec _ _ (by decide)).trans (r3.trans (f1 _ _ (by omega))), (ec _ _ (by decide)).trans (r4.trans (f1 _ _ (by omega))), (ec _ _ (by decide)).trans (r5.trans (f1 _ _ (by omega))), (ec _ _ (by decide)).trans (r6.trans (f1 _ _ (by omega))), (ec _ _ (by decide)).trans (r7.trans (f1 _ _ (by omega)))⟩
            · obtain ⟨r1, r2, r3⟩ := w2' q hq
              exact ⟨(ec _ _ (by decide)).trans (r1.trans (f1 _ _ (by omega))), (ec _ _ (by decide)).trans (r2.trans (f1 _ _ (by omega))), (ec _ _ (by decide)).trans (r3.trans (f1 _ _ (by omega)))⟩
            · exact (ec _ _ (by decide)).trans ((w3' q hq).trans (f1 _ _ (by omega)))
            · exact ⟨(ec _ _ (by decide)).trans ((w4' q hq).1.trans (f1 _ _ (by omega))), (ec _ _ (by decide)).trans ((w4' q hq).2.trans (f1 _ _ (by omega)))⟩
            · exact (ec _ _ (by omega)).trans ((w5' _ _ (by omega) (by omega) (by omega)).trans (f1 _ _ (by omega)))
            · exact (ec _ _ (by decide)).trans ((w5' _ _ (by omega) (by omega) (by omega)).trans (f1 _ _ (by omega)))
/-- members and CURVES are such a relation -/
theorem hd_D_qs : hd_qs (fun M g => hd_D M 0 g) := fun M M' g g' p c f n gr hB hD hp ht ho hy hc n1 hb hn => hd_to hB hD hp ht ho hy hc n1 hb hn
theorem hd_D_qc : hd_qc (fun M g => hd_D M 0 g) := by
  intro M M' g g' p hp p40 hD hg hb q hq
  obtain ⟨b1, b2, b3, b4, b5, b6⟩ := hb
  rw [hg 1198 (by decide) (by decide)] at hq
  have hq' : q < p := by omega
  obtain ⟨c1, c2, c3, c4, c5, c6, c7⟩ := b1 q hq'
  exact hd_q_cg (hD q hq) ⟨hg _ (by omega) (by omega), hg _ (by omega) (by omega), fun d d0 d1 _ _ => hg _ (by omega) (by omega)⟩ (fun m m0 m1 => ⟨hg _ (by omega) (by omega), fun _ => hg _ (by omega) (by omega)⟩) ⟨c2, c4, fun k hk => b2 _ (by omega), fun i hi => b4 _ (by omega), fun k _ => b5 _ _ (by omega) (by omega)⟩
end
