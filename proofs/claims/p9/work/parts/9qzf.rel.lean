/-! members, GROUPS, DIODES, CURVES, what BOXES seek by: class and reference -/
def hd_mb (M : EM) (dc : Nat) (g : Int → Int) (q k : Nat) : Prop := M (15 + dc) (8 * q + k) = g (28 * (q : Int) + 3 + (k : Int)) ∧ 0 ≤ g (28 * (q : Int) + 3 + (k : Int)) ∧ g (28 * (q : Int) + 3 + (k : Int)) < q ∧ g (28 * g (28 * (q : Int) + 3 + (k : Int)) + 1) = (q : Int) + 1 ∧ ∀ j : Nat, j < k → g (28 * (q : Int) + 3 + (j : Int)) ≠ g (28 * (q : Int) + 3 + (k : Int))
def hd_d0 (M : EM) (dc : Nat) (g : Int → Int) (q : Nat) : Prop := hd_cv g q ∧ M (12 + dc) q = g (28 * (q : Int) + 2) ∧ ∀ i : Nat, (i : Int) < g (28 * (q : Int) + 2) → M (19 + dc) (6 * q + i) = g (28 * (q : Int) + 3 + (i : Int)) ∧ M (20 + dc) (6 * q + i) = g (28 * (q : Int) + 9 + (i : Int))
def hd_d1 (M : EM) (dc : Nat) (g : Int → Int) (q n gr : Nat) : Prop := (1 ≤ n ∧ n ≤ 8 ∧ gr ≤ n) ∧ g (28 * (q : Int) + 2) = n ∧ M (14 + dc) q = n ∧ g (28 * (q : Int) + 19) = gr ∧ M (12 + dc) q = gr ∧ cu_gp (fun k => g (28 * (q : Int) + 11 + (k : Int))) n gr ∧ ∀ k : Nat, k < n → hd_mb M dc g q k ∧ g (28 * g (28 * (q : Int) + 3 + (k : Int))) = 0 ∧ M (16 + dc) (8 * q + k) = g (28 * (q : Int) + 11 + (k : Int)) ∧ M (17 + dc) (8 * q + k) = g (28 * (q : Int) + 20 + g (28 * (q : Int) + 11 + (k : Int))) ∧ (M (17 + dc) (8 * q + k) = 0 ∨ M (17 + dc) (8 * q + k) = 1)
def hd_d2 (M : EM) (dc : Nat) (g : Int → Int) (q n : Nat) : Prop := (1 ≤ n ∧ n ≤ 6) ∧ g (28 * (q : Int) + 2) = n ∧ M (14 + dc) q = n ∧ M (12 + dc) q = n ∧ ∀ k : Nat, k < n → hd_mb M dc g q k ∧ (g (28 * g (28 * (q : Int) + 3 + (k : Int))) = 0 ∨ g (28 * g (28 * (q : Int) + 3 + (k : Int))) = 1)
def hd_d3 (M : EM) (dc : Nat) (g : Int → Int) (q : Nat) : Prop := g (28 * (q : Int) + 2) = 1 ∧ M (14 + dc) q = 1 ∧ M (12 + dc) q = 1 ∧ hd_mb M dc g q 0 ∧ g (28 * g (28 * (q : Int) + 3 + ((0 : Nat) : Int))) ≠ 3
def hd_e3 (M : EM) (dc : Nat) (g : Int → Int) (q : Nat) : Prop := (M (37 + dc + q) 0 = g (28 * (q : Int) + 4) ∧ 0 ≤ g (28 * (q : Int) + 4) ∧ g (28 * (q : Int) + 4) ≤ 500) ∧ (M (37 + dc + q) 1 = g (28 * (q : Int) + 5) ∧ 1 ≤ g (28 * (q : Int) + 5) ∧ g (28 * (q : Int) + 5) ≤ 40) ∧ ((M (37 + dc + q) 2 = 0 ∧ g (28 * (q : Int) + 6) = 1) ∨ (M (37 + dc + q) 2 = 1 ∧ g (28 * (q : Int) + 6) = -1)) ∧ ((M (37 + dc + q) 3 = 0 ∧ g (28 * (q : Int) + 7) = 0) ∨ (M (37 + dc + q) 3 = 1 ∧ g (28 * (q : Int) + 7) = 1 ∧ M (37 + dc + q) 4 = g (28 * (q : Int) + 8) ∧ 0 ≤ g (28 * (q : Int) + 8) ∧ g (28 * (q : Int) + 8) ≤ 1000000))
def hd_q (M : EM) (dc : Nat) (g : Int → Int) (q : Nat) : Prop := (g (28 * (q : Int)) = 0 → hd_d0 M dc g q) ∧ (g (28 * (q : Int)) = 1 → ∃ n gr, hd_d1 M dc g q n gr) ∧ (g (28 * (q : Int)) = 2 → ∃ n, hd_d2 M dc g q n) ∧ (g (28 * (q : Int)) = 3 → hd_d3 M dc g q ∧ hd_e3 M dc g q)
def hd_D (M : EM) (dc : Nat) (g : Int → Int) : Prop := ∀ q : Nat, (q : Int) < g 1198 → hd_q M dc g q
/-- what counts of PART q is as it was -/
def hd_ag (g g' : Int → Int) (q : Int) : Prop := g' (28 * q) = g (28 * q) ∧ g' (28 * q + 2) = g (28 * q + 2) ∧ ∀ d, 3 ≤ d → d < 28 → (g (28 * q) = 0 → d < 15) → (g (28 * q) = 3 → d < 9) → g' (28 * q + d) = g (28 * q + d)
def hd_ac (M M' : EM) (dc dc' q : Nat) : Prop := M' (12 + dc') q = M (12 + dc) q ∧ M' (14 + dc') q = M (14 + dc) q ∧ (∀ k, k < 8 → M' (15 + dc') (8 * q + k) = M (15 + dc) (8 * q + k) ∧ M' (16 + dc') (8 * q + k) = M (16 + dc) (8 * q + k) ∧ M' (17 + dc') (8 * q + k) = M (17 + dc) (8 * q + k)) ∧ (∀ i, i < 6 → M' (19 + dc') (6 * q + i) = M (19 + dc) (6 * q + i) ∧ M' (20 + dc') (6 * q + i) = M (20 + dc) (6 * q + i)) ∧ ∀ k, k < 5 → M' (37 + dc' + q) k = M (37 + dc + q) k
def hd_am (g g' : Int → Int) (q : Int) : Prop := ∀ m, 0 ≤ m → m < q → g' (28 * m) = g (28 * m) ∧ (g (28 * m + 1) ≠ 0 → g' (28 * m + 1) = g (28 * m + 1))
section HDC
variable {M M' : EM} {dc dc' q : Nat} {g g' : Int → Int}
theorem hd_mb_cg {n k : Nat} (h : hd_mb M dc g q k) (hk : k < n) (hn : n ≤ 8) (e : ∀ j : Nat, j < n → g' (28 * (q : Int) + 3 + (j : Int)) = g (28 * (q : Int) + 3 + (j : Int))) (hm : hd_am g g' q) (c : M' (15 + dc') (8 * q + k) = M (15 + dc) (8 * q + k)) : hd_mb M' dc' g' q k ∧ g' (28 * g' (28 * (q : Int) + 3 + (k : Int))) = g (28 * g (28 * (q : Int) + 3 + (k : Int))) := by
  obtain ⟨a1, a2, a3, a4, a5⟩ := h
  obtain ⟨m1, m2⟩ := hm _ a2 a3
  unfold hd_mb
  rw [e k hk, c]
  refine ⟨⟨a1, a2, a3, (m2 (by omega)).trans a4, fun j hj => ?_⟩, m1⟩
  rw [e j (by omega)]
  exact a5 j hj
theorem hd_q_cg (h : hd_q M dc g q) (a : hd_ag g g' q) (hm : hd_am g g' q) (c : hd_ac M M' dc dc' q) : hd_q M' dc' g' q := by
  obtain ⟨h0, h1, h2, h3⟩ := h
  obtain ⟨e0, e2, ed⟩ := a
  obtain ⟨c12, c14, cm, cp, cs⟩ := c
  unfold hd_q
  rw [e0]
  refine ⟨fun k => ?_, fun k => ?_, fun k => ?_, fun k => ?_⟩
  · obtain ⟨b1, b2, b3⟩ := h0 k
    obtain ⟨n, n1, n2, n3, n4, n5, n6, n7, n8⟩ := b1
    have z3 : ∀ i : Nat, i < n → g' (28 * (q : Int) + 3 + (i : Int)) = g (28 * (q : Int) + 3 + (i : Int)) := fun i hi => by
      rw [Int.add_assoc]
      exact ed _ (by omega) (by omega) (fun _ => by omega) (fun e => by omega)
    have z9 : ∀ i : Nat, i < n → g' (28 * (q : Int) + 9 + (i : Int)) = g (28 * (q : Int) + 9 + (i : Int)) := fun i hi => by
      rw [Int.add_assoc]
      exact ed _ (by omega) (by omega) (fun _ => by omega) (fun e => by omega)
    refine ⟨⟨n, n1, n2, e2.trans n3, (ed 3 (by decide) (by decide) (fun _ => by decide) (fun _ => by decide)).trans n4, ?_, ?_, ?_, fun i hi => ?_⟩, ?_, fun i hi => ?_⟩
    · rw [z3 _ (by omega)]; exact n5
    · rw [z9 _ (by omega)]; exact n6
    · rw [ed 9 (by decide) (by decide) (fun _ => by decide) (fun e => by omega)]; exact n7
    · rw [z3 _ (by omega), z3 _ (by omega), z9 _ (by omega), z9 _ (by omega)]
      exact n8 i hi
    · rw [c12, e2]; exact b2
    · rw [e2] at hi
      obtain ⟨d1, d2⟩ := b3 i hi
      rw [(cp i (by omega)).1, (cp i (by omega)).2, z3 i (by omega), z9 i (by omega)]
      exact ⟨d1, d2⟩
  · obtain ⟨n, gr, ⟨n1, n2, n3⟩, b1, b2, b3, b4, b5, b6⟩ := h1 k
    have z3 : ∀ i : Nat, i < n → g' (28 * (q : Int) + 3 + (i : Int)) = g (28 * (q : Int) + 3 + (i : Int)) := fun i hi => by
      rw [Int.add_assoc]
      exact ed _ (by omega) (by omega) (fun e => by omega) (fun e => by omega)
    have z11 : ∀ i : Nat, i < n → g' (28 * (q : Int) + 11 + (i : Int)) = g (28 * (q : Int) + 11 + (i : Int)) := fun i hi => by
      rw [Int.add_assoc]
      exact ed _ (by omega) (by omega) (fun e => by omega) (fun e => by omega)
    refine ⟨n, gr, ⟨n1, n2, n3⟩, e2.trans b1, c14.trans b2, (ed 19 (by decide) (by decide) (fun e => by omega) (fun e => by omega)).trans b3, c12.trans b4, ?_, fun i hi => ?_⟩
    · obtain ⟨p1, p2, p3⟩ := b5
      refine ⟨p1, fun hn => ?_, fun j hj => ?_⟩
      · have r1 := z11 0 (by omega)
        have r2 := z11 (n - 1) (by omega)
        exact ⟨r1.trans (p2 hn).1, r2.trans (p2 hn).2⟩
      · show g' (28 * (q : Int) + 11 + ((j + 1 : Nat) : Int)) = g' (28 * (q : Int) + 11 + (j : Int)) ∨ g' (28 * (q : Int) + 11 + ((j + 1 : Nat) : Int)) = g' (28 * (q : Int) + 11 + (j : Int)) + 1
        rw [z11 _ hj, z11 j (by omega)]
        exact p3 j hj
    · obtain ⟨d1, d2, d3, d4, d5⟩ := b6 i hi
      obtain ⟨f1, f2⟩ := hd_mb_cg d1 hi n2 z3 hm (cm i (by omega)).1
      have G0 : 0 ≤ g (28 * (q : Int) + 11 + (i : Int)) ∧ g (28 * (q : Int) + 11 + (i : Int)) < 8 := by
        obtain ⟨y, y1, y2, y3⟩ := cu_st_in (v := fun _ => 0) (D := fun _ => 0) b5 i hi
        have y1 : g (28 * (q : Int) + 11 + (i : Int)) = y := y1
        have := cu_gp_lt b5 i hi
        have : g (28 * (q : Int) + 11 + (i : Int)) < gr := this
        omega
      have z20 : g' (28 * (q : Int) + 20 + g (28 * (q : Int) + 11 + (i : Int))) = g (28 * (q : Int) + 20 + g (28 * (q : Int) + 11 + (i : Int))) := by
        rw [Int.add_assoc]
        exact ed _ (by omega) (by omega) (fun e => by omega) (fun e => by omega)
      rw [f2, (cm i (by omega)).2.1, (cm i (by omega)).2.2, z11 i hi, z20]
      exact ⟨f1, d2, d3, d4, d5⟩
  · obtain ⟨n, ⟨n1, n2⟩, b1, b2, b3, b4⟩ := h2 k
    have z3 : ∀ i : Nat, i < n → g' (28 * (q : Int) + 3 + (i : Int)) = g (28 * (q : Int) + 3 + (i : Int)) := fun i hi => by
      rw [Int.add_assoc]
      exact ed _ (by omega) (by omega) (fun e => by omega) (fun e => by omega)
    refine ⟨n, ⟨n1, n2⟩, e2.trans b1, c14.trans b2, c12.trans b3, fun i hi => ?_⟩
    obtain ⟨d1, d2⟩ := b4 i hi
    obtain ⟨f1, f2⟩ := hd_mb_cg d1 hi (by omega) z3 hm (cm i (by omega)).1
    rw [f2]
    exact ⟨f1, d2⟩
  · obtain ⟨⟨b1, b2, b3, b4, b5⟩, b6⟩ := h3 k
    have z3 : ∀ i : Nat, i < 1 → g' (28 * (q : Int) + 3 + (i : Int)) = g (28 * (q : Int) + 3 + (i : Int)) := fun i hi => by
      rw [Int.add_assoc]
      exact ed _ (by omega) (by omega) (fun e => by omega) (fun e => by omega)
    obtain ⟨f1, f2⟩ := hd_mb_cg b4 (by decide : 0 < 1) (by decide) z3 hm (cm 0 (by decide)).1
    refine ⟨⟨e2.trans b1, c14.trans b2, c12.trans b3, f1, by rw [f2]; exact b5⟩, ?_⟩
    unfold hd_e3
    rw [cs 0 (by decide), cs 1 (by decide), cs 2 (by decide), cs 3 (by decide), cs 4 (by decide), ed 4 (by decide) (by decide) (fun e => by omega) (fun _ => by decide), ed 5 (by decide) (by decide) (fun e => by omega) (fun _ => by decide), ed 6 (by decide) (by decide) (fun e => by omega) (fun _ => by decide), ed 7 (by decide) (by decide) (fun e => by omega) (fun _ => by decide), ed 8 (by decide) (by decide) (fun e => by omega) (fun _ => by decide)]
    exact b6
end HDC
