/-! the class spreads a line of a PART out: exactly -/
def bx_nc (g : Int → Int) (x : Int) : Nat := if g (28 * x) = 0 then 1 else (g (28 * x + 2)).toNat
def bx_ng (g : Int → Int) (x : Int) : Nat := if g (28 * x) = 0 then 1 else (g (28 * x + 19)).toNat
def bx_ce (g : Int → Int) (x : Int) (k : Nat) : Int := if g (28 * x) = 0 then x else g (28 * x + 3 + (k : Int))
def bx_gr (g : Int → Int) (x : Int) (k : Nat) : Int := if g (28 * x) = 0 then 0 else g (28 * x + 11 + (k : Int))
def bx_di (g : Int → Int) (x : Int) (y : Nat) : Int := if g (28 * x) = 0 then 0 else g (28 * x + 20 + (y : Int))
/-- what a line leaves alone -/
def bx_fr (M M' : EM) (j0 g0 g1 l0 : Nat) : Prop := (∀ id k, ¬ (170 ≤ id ∧ id ≤ 176) → M' id k = M id k) ∧ (∀ k, k ≠ 0 → k ≠ 4 → k ≠ 5 → M' 170 k = M 170 k) ∧ (∀ k, k ≠ l0 + 1 → M' 171 k = M 171 k) ∧ (∀ k, (k < g0 ∨ g1 ≤ k) → M' 172 k = M 172 k) ∧ (∀ k, k < j0 → M' 173 k = M 173 k ∧ M' 174 k = M 174 k ∧ M' 176 k = M 176 k) ∧ ∀ k, k < 4 * j0 → M' 175 k = M 175 k
def bx_AL (g : Int → Int) (M M' : EM) (x : Int) (j0 g0 l0 : Nat) : Prop := M' 170 0 = ((j0 + bx_nc g x : Nat) : Int) ∧ M' 170 4 = ((g0 + bx_ng g x : Nat) : Int) ∧ M' 170 5 = ((l0 + 1 : Nat) : Int) ∧ M' 171 (l0 + 1) = ((j0 + bx_nc g x : Nat) : Int) ∧ (∀ k, k < bx_nc g x → bx_cell M M' (j0 + k) (bx_ce g x k).toNat ((g0 : Int) + bx_gr g x k)) ∧ (∀ y, y < bx_ng g x → M' 172 (g0 + y) = bx_di g x y) ∧ bx_fr M M' j0 g0 (g0 + bx_ng g x) l0
theorem bx_140 {x x2 x3 x4 x5 x6 : Int} {l0 : Nat} {c : Int} {M : EM} (hl : M 170 5 = l0) (h6 : l0 < 6) (h0 : M 170 0 = c) : E_V 4 140 [170, x, x2, x3, x4, x5, x6] M = some (0, e_up (e_up M 170 5 ((l0 : Int) + 1)) 171 (l0 + 1) c) := by
  have w : e_w ((l0 : Int) + 1) = (l0 : Int) + 1 := a_w_id (by omega) (by omega)
  have l := fun v M => w_layN (a := 171) (i := (l0 : Int) + 1) (n := 7) (by decide +kernel) (j := l0 + 1) (by omega) (by omega) v M
  have l' : ∀ v M, E_C 147 [171, (l0 : Int) + 1, v] M = some (0, e_up M 171 (l0 + 1) v) := l
  rw [E_V_eq]
  show e_tv E_C (E_V 4) e_t4_140 [170, x, x2, x3, x4, x5, x6] M = _
  unfold e_t4_140
  simp [e_tv, e_ev, e_sv, e_b1, e_b2, x_o1, x_o2, bx_F0, bx_F5, bx_P5, bx_G8, hl, h0, w, l', c_up_n, c_up_s]
/-- k CELLS of a ROW stand -/
def bx_RS (g : Int → Int) (M0 M : EM) (x j0 g0 g1 k : Nat) : Prop := M 170 0 = ((j0 + k : Nat) : Int) ∧ (∀ i : Nat, i < k → bx_cell M0 M (j0 + i) (g (28 * (x : Int) + 3 + (i : Int))).toNat ((g0 : Int) + g (28 * (x : Int) + 11 + (i : Int)))) ∧ (∀ i : Nat, i < k → M 172 (g0 + (g (28 * (x : Int) + 11 + (i : Int))).toNat) = g (28 * (x : Int) + 20 + g (28 * (x : Int) + 11 + (i : Int)))) ∧ (∀ id i, ¬ (170 ≤ id ∧ id ≤ 176) → M id i = M0 id i) ∧ (∀ i, i ≠ 0 → M 170 i = M0 170 i) ∧ (∀ i, M 171 i = M0 171 i) ∧ (∀ i, (i < g0 ∨ g1 ≤ i) → M 172 i = M0 172 i) ∧ (∀ i, i < j0 → M 173 i = M0 173 i ∧ M 174 i = M0 174 i ∧ M 176 i = M0 176 i) ∧ ∀ i, i < 4 * j0 → M 175 i = M0 175 i
theorem bx_53 {g : Int → Int} {M0 : EM} {x j0 g0 n gr : Nat} (hd : hd_d1 M0 0 g x n gr) (hx : x < 40) (hj : j0 + n ≤ 40) (hg : g0 + gr ≤ 40) (h4 : M0 170 4 = g0) {x0 n0 : Int} (hx0 : x0 = x) (hn0 : n0 = n) : ∀ (d k : Nat) (x4 x5 x6 : Int) (M : EM), x4 = k → k + d = n → bx_RS g M0 M x j0 g0 (g0 + gr) k → ∃ M' y4 y5 y6, E_V 4 53 [170, x0, 10, n0, x4, x5, x6] M = E_V 4 140 [170, x0, 10, n0, y4, y5, y6] (e_up M' 170 4 ((g0 + gr : Nat) : Int)) ∧ bx_RS g M0 M' x j0 g0 (g0 + gr) n := by
  obtain ⟨⟨n1, n2, n3⟩, b1, b2, b3, b4, b5, b6⟩ := hd
  intro d
  induction d with
  | zero =>
    intro k x4 x5 x6 M hk hd hR
    have e : k = n := by omega
    subst e
    have q : ¬ (x4 < n0) := by omega
    have h4' : M 170 4 = g0 := (hR.2.2.2.2.1 4 (by decide)).trans h4
    have t12 := w_atN (a := 12) (i := x0) (n := 40) (by decide +kernel) (j := x) hx0 hx M
    have t12' : E_C 146 [12, x0] M = some ((gr : Int), M) := t12.trans (by rw [show M (12 : Int).toNat x = M0 (12 + 0) x from hR.2.2.2.1 _ _ (by omega), b4])
    have w : e_w ((g0 : Int) + (gr : Int)) = ((g0 + gr : Nat) : Int) := (a_w_id (by omega) (by omega)).trans (by omega)
    refine ⟨M, x4, x5, x6, ?_, hR⟩
    generalize ((g0 + gr : Nat) : Int) = gg at w ⊢
    rw [E_V_eq]
    show e_tv E_C (E_V 4) e_t4_53 [170, x0, 10, n0, x4, x5, x6] M = _
    unfold e_t4_53
    simp [e_tv, e_ev, e_sv, e_b1, e_b2, x_o1, x_o2, bx_F4, bx_P4, w_P2, q, h4', t12', w]
  | succ d ih =>
    intro k x4 x5 x6 M hk hd hR
    obtain ⟨r1, r2, r3, r4, r5, r6, r7, r8, r9⟩ := hR
    have hkn : k < n := by omega
    obtain ⟨⟨m1, m2, m3, m4, m5⟩, c2, c3, c4, c5⟩ := b6 k hkn
    have q : x4 < n0 := by omega
    have h4' : M 170 4 = g0 := (r5 4 (by decide)).trans h4
    have G0 : 0 ≤ g (28 * (x : Int) + 11 + (k : Int)) := by
      obtain ⟨y, y1, -, -⟩ := cu_st_in (v := fun _ => 0) (D := fun _ => 0) b5 k hkn
      have y1 : g (28 * (x : Int) + 11 + (k : Int)) = y := y1
      omega
    have G1 : g (28 * (x : Int) + 11 + (k : Int)) < gr := cu_gp_lt b5 k hkn
    obtain ⟨y, hy⟩ : ∃ y : Nat, g (28 * (x : Int) + 11 + (k : Int)) = y := ⟨(g (28 * (x : Int) + 11 + (k : Int))).toNat, by omega⟩
    obtain ⟨q1, hq1⟩ : ∃ q1 : Nat, g (28 * (x : Int) + 3 + (k : Int)) = q1 := ⟨(g (28 * (x : Int) + 3 + (k : Int))).toNat, by omega⟩
    have i1 : x0 * 8 + x4 = ((8 * x + k : Nat) : Int) := by omega
    have i2 : 8 * x + k < 320 := by omega
    have i3 : g0 + y < 40 := by omega
    have i4 : j0 + k < 40 := by omega
    have i5 : q1 < 40 := by omega
    have k15 : ∀ M : EM, (∀ id i, ¬ (170 ≤ id ∧ id ≤ 176) → M id i = M0 id i) → E_C 146 [15, x0 * 8 + x4] M = some ((q1 : Int), M) := fun M h => by
      have t := w_atN (a := 15) (i := x0 * 8 + x4) (n := 320) (by decide +kernel) (j := 8 * x + k) i1 i2 M
      exact t.trans (by rw [show M (15 : Int).toNat (8 * x + k) = M0 (15 + 0) (8 * x + k) from h _ _ (by omega), m1, hq1])
    have k16 : E_C 146 [16, x0 * 8 + x4] M = some ((y : Int), M) := by
      have t := w_atN (a := 16) (i := x0 * 8 + x4) (n := 320) (by decide +kernel) (j := 8 * x + k) i1 i2 M
      exact t.trans (by rw [show M (16 : Int).toNat (8 * x + k) = M0 (16 + 0) (8 * x + k) from r4 _ _ (by omega), c3, hy])
    obtain ⟨dv, hdv⟩ : ∃ dv, M0 (17 + 0) (8 * x + k) = dv := ⟨_, rfl⟩
    have k17 : E_C 146 [17, x0 * 8 + x4] M = some (dv, M) := by
      have t := w_atN (a := 17) (i := x0 * 8 + x4) (n := 320) (by decide +kernel) (j := 8 * x + k) i1 i2 M
      exact t.trans (by rw [show M (17 : Int).toNat (8 * x + k) = M0 (17 + 0) (8 * x + k) from r4 _ _ (by omega), hdv])
    have l := w_layN (a := 172) (i := ((g0 + y : Nat) : Int)) (n := 40) (by decide +kernel) (j := g0 + y) rfl i3 dv M
    have l' : E_C 147 [172, ((g0 + y : Nat) : Int), dv] M = some (0, e_up M 172 (g0 + y) dv) := l
    obtain ⟨M1, hM1⟩ : ∃ M1, e_up M 172 (g0 + y) dv = M1 := ⟨_, rfl⟩
    have e1 : ∀ id i, ¬ (id = 172 ∧ i = g0 + y) → M1 id i = M id i := fun id i h => by rw [← hM1, c_up_n h]
    rw [hM1] at l'
    have k15' := k15 M1 (fun id i h => (e1 _ _ (by omega)).trans (r4 _ _ h))
    obtain ⟨M2, s1, s2, s3, s4⟩ := bx_5 (j := j0 + k) (q := q1) (q0 := (q1 : Int)) (y := ((g0 + y : Nat) : Int)) (M := M1) ((e1 _ _ (by omega)).trans r1) i4 rfl i5
    have e2 : ∀ id i, ¬ (170 ≤ id ∧ id ≤ 176) → M2 id i = M0 id i := fun id i h => (s4 _ _ (by omega) (by omega) (by omega) (by omega) (by omega)).trans ((e1 _ _ (by omega)).trans (r4 _ _ h))
    have hRS : bx_RS g M0 M2 x j0 g0 (g0 + gr) (k + 1) := by
      refine ⟨by rw [s3]; omega, fun i hi => ?_, fun i hi => ?_, e2, fun i hi => ?_, fun i => ?_, fun i hi => ?_, fun i hi => ⟨?_, ?_, ?_⟩, fun i hi => ?_⟩
      · by_cases e : i = k
        · subst e
          obtain ⟨d1, d2, d3, d4⟩ := s2
          refine ⟨?_, ?_, ?_, fun a ha => ?_⟩
          · rw [d1, hq1, Int.toNat_natCast]
          · rw [d2, hy]; omega
          · rw [d3, hq1, Int.toNat_natCast, e1 _ _ (by omega), r4 _ _ (by omega)]
          · rw [d4 a ha, hq1, Int.toNat_natCast, e1 _ _ (by omega), r4 _ _ (by omega)]
        · obtain ⟨d1, d2, d3, d4⟩ := r2 i (by omega)
          refine ⟨?_, ?_, ?_, fun a ha => ?_⟩
          · rw [s4 _ _ (by omega) (by omega) (by omega) (by omega) (by omega), e1 _ _ (by omega)]; exact d1
          · rw [s4 _ _ (by omega) (by omega) (by omega) (by omega) (by omega), e1 _ _ (by omega)]; exact d2
          · rw [s4 _ _ (by omega) (by omega) (by omega) (by omega) (by omega), e1 _ _ (by omega)]; exact d3
          · rw [s4 _ _ (by omega) (by omega) (by omega) (by omega) (by omega), e1 _ _ (by omega)]; exact d4 a ha
      · rw [s4 _ _ (by omega) (by omega) (by omega) (by omega) (by omega)]
        have vk : dv = g (28 * (x : Int) + 20 + (y : Int)) := by rw [← hdv, c4, hy]
        by_cases e : g0 + (g (28 * (x : Int) + 11 + (i : Int))).toNat = g0 + y
        · rw [e, ← hM1, c_up_s, vk]
          by_cases e2 : i = k
          · rw [e2, hy]
          · have Gi : 0 ≤ g (28 * (x : Int) + 11 + (i : Int)) := by
              obtain ⟨y', y1, -, -⟩ := cu_st_in (v := fun _ => 0) (D := fun _ => 0) b5 i (by omega)
              have y1 : g (28 * (x : Int) + 11 + (i : Int)) = y' := y1
              omega
            rw [show g (28 * (x : Int) + 11 + (i : Int)) = (y : Int) by omega]
        · rw [e1 _ _ (by omega)]
          have : i ≠ k := fun e2 => e (by rw [e2, hy, Int.toNat_natCast])
          exact r3 i (by omega)
      · rw [s4 _ _ (by omega) (by omega) (by omega) (by omega) (by omega), e1 _ _ (by omega)]; exact r5 i hi
      · rw [s4 _ _ (by omega) (by omega) (by omega) (by omega) (by omega), e1 _ _ (by omega)]; exact r6 i
      · rw [s4 _ _ (by omega) (by omega) (by omega) (by omega) (by omega), e1 _ _ (by omega)]; exact r7 i hi
      · rw [s4 _ _ (by omega) (by omega) (by omega) (by omega) (by omega), e1 _ _ (by omega)]; exact (r8 i hi).1
      · rw [s4 _ _ (by omega) (by omega) (by omega) (by omega) (by omega), e1 _ _ (by omega)]; exact (r8 i hi).2.1
      · rw [s4 _ _ (by omega) (by omega) (by omega) (by omega) (by omega), e1 _ _ (by omega)]; exact (r8 i hi).2.2
      · rw [s4 _ _ (by omega) (by omega) (by omega) (by omega) (by omega), e1 _ _ (by omega)]; exact r9 i hi
    obtain ⟨M', y4, y5, y6, z1, z2⟩ := ih (k + 1) (x4 + 1) (x0 * 8 + x4) ((g0 + y : Nat) : Int) M2 (by omega) (by omega) hRS
    refine ⟨M', y4, y5, y6, ?_, z2⟩
    rw [← z1]
    have w1 : e_w (x0 * 8) = x0 * 8 := a_w_id (by omega) (by omega)
    have w2 : e_w (x0 * 8 + x4) = x0 * 8 + x4 := a_w_id (by omega) (by omega)
    have w4 : e_w (x4 + 1) = x4 + 1 := a_w_id (by omega) (by omega)
    have w3 : e_w ((g0 : Int) + (y : Int)) = ((g0 + y : Nat) : Int) := (a_w_id (by omega) (by omega)).trans (by omega)
    clear z1 z2 s2 s3 s4 ih hRS k15 e1 e2 r1 r2 r3 r4 r5 r6 r7 r8 r9
    generalize ((g0 + y : Nat) : Int) = gy at w3 l' s1 ⊢
    generalize (g0 : Int) = gg at w3 h4' ⊢
    generalize (y : Int) = yy at w3 k16
    generalize (q1 : Int) = qq at k15' s1
    rw [E_V_eq]
    show e_tv E_C (E_V 4) e_t4_53 [170, x0, 10, n0, x4, x5, x6] M = _
    unfold e_t4_53
    simp [e_tv, e_ev, e_sv, e_b1, e_b2, x_o1, x_o2, bx_F4, bx_G9, w_P5, w_P6, w_P7, q, h4', w1, w2, w3, w4, k16, k17, l', k15', s1]
/-- a line: a CELL or a ROW -/
theorem bx_4 {g : Int → Int} {M : EM} {x j0 g0 l0 : Nat} {x0 : Int} (hx0 : x0 = x) (hx : x < 40) (hk : M 11 x = g (28 * (x : Int))) (hd : g (28 * (x : Int)) = 0 ∨ (g (28 * (x : Int)) = 1 ∧ ∃ n gr, hd_d1 M 0 g x n gr)) (h0 : M 170 0 = j0) (h4 : M 170 4 = g0) (h5 : M 170 5 = l0) (h6 : l0 < 6) (hj : j0 + bx_nc g (x : Int) ≤ 40) (hg : g0 + bx_ng g (x : Int) ≤ 40) (hz : ∀ y, g0 ≤ y → y < 40 → M 172 y = 0) : ∃ M', E_C 4 [170, x0] M = some (0, M') ∧ bx_AL g M M' (x : Int) j0 g0 l0 := by
  have t11 := w_atN (a := 11) (i := x0) (n := 40) (by decide +kernel) (j := x) hx0 hx M
  have t11' : E_C 146 [11, x0] M = some (g (28 * (x : Int)), M) := t11.trans (by rw [show M (11 : Int).toNat x = M 11 x from rfl, hk])
  have s0 : E_C 4 [170, x0] M = e_tv E_C (E_V 4) e_t4_0 [170, x0, 0, 0, 0, 0, 0] M := r_ent (u := 4) (as := [170, x0]) (M := M) (bx_r (M := M) rfl (by decide +kernel))
  rw [s0]
  rcases hd with k0 | ⟨k1, n, gr, hd⟩
  · have en : bx_nc g (x : Int) = 1 := if_pos k0
    have eg : bx_ng g (x : Int) = 1 := if_pos k0
    rw [en] at hj
    rw [eg] at hg
    rw [k0] at t11'
    have hz0 := hz g0 (Nat.le_refl _) (by omega)
    have hj0 : j0 < 40 := by omega
    have w4 : e_w ((g0 : Int) + 1) = ((g0 + 1 : Nat) : Int) := (a_w_id (by omega) (by omega)).trans (by omega)
    obtain ⟨M1, s1, ⟨d1, d2, d3, d4⟩, s3, s4⟩ := bx_5 (j := j0) (q := x) (q0 := x0) (y := (g0 : Int)) h0 hj0 hx0 hx
    have f4 : M1 170 4 = g0 := (s4 _ _ (by omega) (by omega) (by omega) (by omega) (by omega)).trans h4
    have f5 : (e_up M1 170 4 ((g0 + 1 : Nat) : Int)) 170 5 = l0 := by
      rw [c_up_n (by omega)]
      exact (s4 _ _ (by omega) (by omega) (by omega) (by omega) (by omega)).trans h5
    have f0 : (e_up M1 170 4 ((g0 + 1 : Nat) : Int)) 170 0 = (j0 : Int) + 1 := by
      rw [c_up_n (by omega)]
      exact s3
    have k := fun x2 x3 x4 x5 x6 => bx_140 (x := x0) (x2 := x2) (x3 := x3) (x4 := x4) (x5 := x5) (x6 := x6) f5 h6 f0
    refine ⟨e_up (e_up (e_up M1 170 4 ((g0 + 1 : Nat) : Int)) 170 5 ((l0 : Int) + 1)) 171 (l0 + 1) ((j0 : Int) + 1), ?_, ?_⟩
    · unfold e_t4_0
      generalize ((g0 + 1 : Nat) : Int) = g1 at w4 k ⊢
      generalize (g0 : Int) = gg at w4 f4 s1 h4
      simp [e_tv, e_ev, e_sv, e_b1, e_b2, x_o1, x_o2, bx_F4, bx_P4, bx_G3, w_H0, w_P1, h4, t11', s1, f4, w4, k]
    · clear w4 k
      have fr : ∀ id i, ¬ (id = 171 ∧ i = l0 + 1) → ¬ (id = 170 ∧ (i = 5 ∨ i = 4)) → (e_up (e_up (e_up M1 170 4 ((g0 + 1 : Nat) : Int)) 170 5 ((l0 : Int) + 1)) 171 (l0 + 1) ((j0 : Int) + 1)) id i = M1 id i := fun id i h1 h2 => by
        rw [c_up_n h1, c_up_n (fun e => h2 ⟨e.1, Or.inl e.2⟩), c_up_n (fun e => h2 ⟨e.1, Or.inr e.2⟩)]
      have ff : ∀ id i, ¬ (id = 171 ∧ i = l0 + 1) → ¬ (id = 170 ∧ (i = 5 ∨ i = 4 ∨ i = 0)) → ¬ (id = 174 ∧ i = j0) → ¬ (id = 173 ∧ i = j0) → ¬ (id = 176 ∧ i = j0) → ¬ (id = 175 ∧ 4 * j0 ≤ i ∧ i < 4 * j0 + 4) → (e_up (e_up (e_up M1 170 4 ((g0 + 1 : Nat) : Int)) 170 5 ((l0 : Int) + 1)) 171 (l0 + 1) ((j0 : Int) + 1)) id i = M id i := fun id i h1 h2 h3 h4 h5 h6 => (fr _ _ h1 (by omega)).trans (s4 _ _ h3 h4 h5 h6 (by omega))
      unfold bx_AL
      rw [en, eg]
      refine ⟨?_, ?_, ?_, ?_, fun k hk => ?_, fun y hy => ?_, fun id k h => ?_, fun k h1 h2 h3 => ?_, fun k h => ?_, fun k h => ?_, fun k h => ⟨?_, ?_, ?_⟩, fun k h => ?_⟩
      · rw [fr _ _ (by omega) (by omega), s3]; omega
      · rw [c_up_n (by omega), c_up_n (by omega), c_up_s]
      · rw [c_up_n (by omega), c_up_s]; omega
      · rw [c_up_s]; omega
      · have e : k = 0 := by omega
        subst e
        have ec : bx_ce g (x : Int) 0 = x := if_pos k0
        have eG : bx_gr g (x : Int) 0 = 0 := if_pos k0
        rw [ec, eG, Int.toNat_natCast, Int.add_zero]
        refine ⟨?_, ?_, ?_, fun a ha => ?_⟩
        · rw [fr _ _ (by omega) (by omega)]; exact d1
        · rw [fr _ _ (by omega) (by omega)]; exact d2
        · rw [fr _ _ (by omega) (by omega)]; exact d3
        · rw [fr _ _ (by omega) (by omega)]; exact d4 a ha
      · have e : y = 0 := by omega
        subst e
        rw [show bx_di g (x : Int) 0 = 0 from if_pos k0, ff _ _ (by omega) (by omega) (by omega) (by omega) (by omega) (by omega)]
        exact hz0
      · exact ff _ _ (by omega) (by omega) (by omega) (by omega) (by omega) (by omega)
      · exact ff _ _ (by omega) (by omega) (by omega) (by omega) (by omega) (by omega)
      · exact ff _ _ (by omega) (by omega) (by omega) (by omega) (by omega) (by omega)
      · exact ff _ _ (by omega) (by omega) (by omega) (by omega) (by omega) (by omega)
      · exact ff _ _ (by omega) (by omega) (by omega) (by omega) (by omega) (by omega)
      · exact ff _ _ (by omega) (by omega) (by omega) (by omega) (by omega) (by omega)
      · exact ff _ _ (by omega) (by omega) (by omega) (by omega) (by omega) (by omega)
      · exact ff _ _ (by omega) (by omega) (by omega) (by omega) (by omega) (by omega)
  · have hd' := hd
    obtain ⟨⟨n1, n2, n3⟩, b1, b2, b3, b4, b5, b6⟩ := hd
    have kn : ¬ g (28 * (x : Int)) = 0 := by omega
    have en : bx_nc g (x : Int) = n := by
      unfold bx_nc
      rw [if_neg kn, b1, Int.toNat_natCast]
    have eg : bx_ng g (x : Int) = gr := by
      unfold bx_ng
      rw [if_neg kn, b3, Int.toNat_natCast]
    rw [en] at hj
    rw [eg] at hg
    rw [k1] at t11'
    have t14 := w_atN (a := 14) (i := x0) (n := 40) (by decide +kernel) (j := x) hx0 hx M
    have t14' : E_C 146 [14, x0] M = some ((n : Int), M) := t14.trans (by rw [show M (14 : Int).toNat x = M (14 + 0) x from rfl, b2])
    obtain ⟨M1, y4, y5, y6, z1, r1, r2, r3, r4, r5, r6, r7, r8, r9⟩ := bx_53 (g0 := g0) hd' hx hj hg h4 hx0 (n0 := (n : Int)) rfl n 0 0 0 0 M rfl (by omega) ⟨h0, fun i hi => absurd hi (Nat.not_lt_zero _), fun i hi => absurd hi (Nat.not_lt_zero _), fun _ _ _ => rfl, fun _ _ => rfl, fun _ => rfl, fun _ _ => rfl, fun _ _ => ⟨rfl, rfl, rfl⟩, fun _ _ => rfl⟩
    have f5 : (e_up M1 170 4 ((g0 + gr : Nat) : Int)) 170 5 = l0 := by
      rw [c_up_n (by omega)]
      exact (r5 5 (by decide)).trans h5
    have f0 : (e_up M1 170 4 ((g0 + gr : Nat) : Int)) 170 0 = ((j0 + n : Nat) : Int) := by
      rw [c_up_n (by omega)]
      exact r1
    have k := bx_140 (x := x0) (x2 := 10) (x3 := (n : Int)) (x4 := y4) (x5 := y5) (x6 := y6) f5 h6 f0
    refine ⟨e_up (e_up (e_up M1 170 4 ((g0 + gr : Nat) : Int)) 170 5 ((l0 : Int) + 1)) 171 (l0 + 1) ((j0 + n : Nat) : Int), ?_, ?_⟩
    · have z2 := z1.trans k
      clear z1 k
      unfold e_t4_0
      generalize (n : Int) = nn at t14' z2
      simp [e_tv, e_ev, e_sv, e_b1, e_b2, x_o1, x_o2, bx_G3, w_H0, w_P1, w_P4, t11', t14', z2]
    · have fr : ∀ id i, ¬ (id = 171 ∧ i = l0 + 1) → ¬ (id = 170 ∧ (i = 5 ∨ i = 4)) → (e_up (e_up (e_up M1 170 4 ((g0 + gr : Nat) : Int)) 170 5 ((l0 : Int) + 1)) 171 (l0 + 1) ((j0 + n : Nat) : Int)) id i = M1 id i := fun id i h1 h2 => by
        rw [c_up_n h1, c_up_n (fun e => h2 ⟨e.1, Or.inl e.2⟩), c_up_n (fun e => h2 ⟨e.1, Or.inr e.2⟩)]
      unfold bx_AL
      rw [en, eg]
      refine ⟨?_, ?_, ?_, ?_, fun k hk => ?_, fun y hy => ?_, fun id k h => ?_, fun k h1 h2 h3 => ?_, fun k h => ?_, fun k h => ?_, fun k h => ⟨?_, ?_, ?_⟩, fun k h => ?_⟩
      · rw [fr _ _ (by omega) (by omega)]; exact r1
      · rw [c_up_n (by omega), c_up_n (by omega), c_up_s]
      · rw [c_up_n (by omega), c_up_s]; omega
      · rw [c_up_s]
      · have ec : bx_ce g (x : Int) k = g (28 * (x : Int) + 3 + (k : Int)) := if_neg kn
        have eG : bx_gr g (x : Int) k = g (28 * (x : Int) + 11 + (k : Int)) := if_neg kn
        rw [ec, eG]
        obtain ⟨d1, d2, d3, d4⟩ := r2 k hk
        refine ⟨?_, ?_, ?_, fun a ha => ?_⟩
        · rw [fr _ _ (by omega) (by omega)]; exact d1
        · rw [fr _ _ (by omega) (by omega)]; exact d2
        · rw [fr _ _ (by omega) (by omega)]; exact d3
        · rw [fr _ _ (by omega) (by omega)]; exact d4 a ha
      · obtain ⟨i, i1, i2⟩ := cu_gp_on b5 y hy
        have i2 : g (28 * (x : Int) + 11 + (i : Int)) = y := i2
        have := r3 i i1
        rw [i2, Int.toNat_natCast] at this
        rw [show bx_di g (x : Int) y = g (28 * (x : Int) + 20 + (y : Int)) from if_neg kn, fr _ _ (by omega) (by omega)]
        exact this
      · rw [fr _ _ (by omega) (by omega)]; exact r4 _ _ h
      · rw [fr _ _ (by omega) (by omega)]; exact r5 _ h1
      · rw [fr _ _ (by omega) (by omega)]; exact r6 _
      · rw [fr _ _ (by omega) (by omega)]; exact r7 _ h
      · rw [fr _ _ (by omega) (by omega)]; exact (r8 _ h).1
      · rw [fr _ _ (by omega) (by omega)]; exact (r8 _ h).2.1
      · rw [fr _ _ (by omega) (by omega)]; exact (r8 _ h).2.2
      · rw [fr _ _ (by omega) (by omega)]; exact r9 _ h
