section
/-! a PART spread out: exactly -/
section BXM
variable {M : EM} {g : Int → Int}
theorem bx_d1_cg {N : EM} {x n gr : Nat} (e : ∀ id, id < 162 → N id = M id) (h : hd_d1 M 0 g x n gr) : hd_d1 N 0 g x n gr := by
  unfold hd_d1 hd_mb at h ⊢
  rw [e (12 + 0) (by decide), e (14 + 0) (by decide), e (15 + 0) (by decide), e (16 + 0) (by decide), e (17 + 0) (by decide)]
  exact h
/-- a line is a CELL or a ROW -/
def bx_ok (M : EM) (g : Int → Int) (x : Int) : Prop := ∃ z : Nat, x = z ∧ (z : Int) < g 1198 ∧ (g (28 * (z : Int)) = 0 ∨ (g (28 * (z : Int)) = 1 ∧ ∃ n gr, hd_d1 M 0 g z n gr))
theorem bx_ok_ce {x : Int} (h40 : g 1198 ≤ 40) (h : bx_ok M g x) {k : Nat} (hk : k < bx_nc g x) : 0 ≤ bx_ce g x k ∧ bx_ce g x k < 40 := by
  obtain ⟨z, rfl, z2, z3⟩ := h
  rcases z3 with z3 | ⟨z3, n, gr, ⟨-, b1, -, -, -, -, b6⟩⟩
  · rw [show bx_ce g (z : Int) k = z from if_pos z3]
    omega
  · have kn : ¬ g (28 * (z : Int)) = 0 := by omega
    have e : bx_nc g (z : Int) = n := by
      unfold bx_nc
      rw [if_neg kn, b1, Int.toNat_natCast]
    rw [show bx_ce g (z : Int) k = g (28 * (z : Int) + 3 + (k : Int)) from if_neg kn]
    obtain ⟨⟨-, m2, m3, -, -⟩, -⟩ := b6 k (by omega)
    omega
theorem bx_ok_n {x : Int} (h : bx_ok M g x) : bx_ng g x ≤ bx_nc g x := by
  obtain ⟨z, rfl, z2, z3⟩ := h
  rcases z3 with z3 | ⟨z3, n, gr, ⟨⟨-, -, n3⟩, b1, -, b3, -, -, -⟩⟩
  · rw [show bx_ng g (z : Int) = 1 from if_pos z3, show bx_nc g (z : Int) = 1 from if_pos z3]
    exact Nat.le_refl _
  · have kn : ¬ g (28 * (z : Int)) = 0 := by omega
    unfold bx_ng bx_nc
    rw [if_neg kn, if_neg kn, b1, b3, Int.toNat_natCast, Int.toNat_natCast]
    exact n3
/-- CELLS of one ROW differ; of a ROW each is in it -/
theorem bx_ok_row {z k k' : Nat} (h : bx_ok M g (z : Int)) (hk : k < bx_nc g (z : Int)) (hk' : k' < bx_nc g (z : Int)) (e : bx_ce g (z : Int) k = bx_ce g (z : Int) k') : k = k' := by
  obtain ⟨z', z1, z2, z3⟩ := h
  have : z' = z := by omega
  subst this
  rcases z3 with z3 | ⟨z3, n, gr, ⟨-, b1, -, -, -, -, b6⟩⟩
  · rw [show bx_nc g (z' : Int) = 1 from if_pos z3] at hk hk'
    omega
  · have kn : ¬ g (28 * (z' : Int)) = 0 := by omega
    have e2 : bx_nc g (z' : Int) = n := by
      unfold bx_nc
      rw [if_neg kn, b1, Int.toNat_natCast]
    rw [show bx_ce g (z' : Int) k = g (28 * (z' : Int) + 3 + (k : Int)) from if_neg kn, show bx_ce g (z' : Int) k' = g (28 * (z' : Int) + 3 + (k' : Int)) from if_neg kn] at e
    rcases Nat.lt_trichotomy k k' with c | c | c
    · exact absurd e ((b6 k' (by omega)).1.2.2.2.2 k c)
    · exact c
    · exact absurd e.symm ((b6 k (by omega)).1.2.2.2.2 k' c)
theorem bx_ok_in {x : Int} (h : bx_ok M g x) {k : Nat} (hk : k < bx_nc g x) : (g (28 * x) = 0 ∧ bx_ce g x k = x) ∨ (g (28 * x) = 1 ∧ g (28 * bx_ce g x k + 1) = x + 1) := by
  obtain ⟨z, rfl, z2, z3⟩ := h
  rcases z3 with z3 | ⟨z3, n, gr, ⟨-, b1, -, -, -, -, b6⟩⟩
  · exact Or.inl ⟨z3, if_pos z3⟩
  · have kn : ¬ g (28 * (z : Int)) = 0 := by omega
    have e2 : bx_nc g (z : Int) = n := by
      unfold bx_nc
      rw [if_neg kn, b1, Int.toNat_natCast]
    rw [show bx_ce g (z : Int) k = g (28 * (z : Int) + 3 + (k : Int)) from if_neg kn]
    exact Or.inr ⟨z3, (b6 k (by omega)).1.2.2.2.1⟩
/-- of a PART that is no BOX: its lines, how many CELLS, how many GROUPS -/
theorem bx_lines (h40 : g 1198 ≤ 40) (hB : h_B M 0 g) (hD : hd_D M 0 g) {y : Nat} (hy : (y : Int) < g 1198) (hk : g (28 * (y : Int)) ≠ 3) : (1 ≤ cu_nl g (y : Int) ∧ cu_nl g (y : Int) ≤ 6) ∧ (∀ l, l < cu_nl g (y : Int) → bx_ok M g (cu_ln g (y : Int) l)) ∧ bx_oc g (cu_ln g (y : Int)) (cu_nl g (y : Int)) ≤ 40 ∧ bx_og g (cu_ln g (y : Int)) (cu_nl g (y : Int)) ≤ 40 := by
  obtain ⟨d0, d1, d2, d3⟩ := hD y hy
  obtain ⟨-, -, ⟨k0, k3⟩, -⟩ := hB.2.2 y hy
  by_cases c : g (28 * (y : Int)) = 2
  · obtain ⟨n, ⟨n1, n2⟩, b1, b2, b3, b4⟩ := d2 c
    have eL : cu_nl g (y : Int) = n := by
      unfold cu_nl
      rw [if_pos c, b1, Int.toNat_natCast]
    have eX : ∀ l : Nat, cu_ln g (y : Int) l = g (28 * (y : Int) + 3 + (l : Int)) := fun l => if_pos c
    rw [eL]
    have ok : ∀ l, l < n → bx_ok M g (cu_ln g (y : Int) l) := by
      intro l hl
      rw [eX l]
      obtain ⟨⟨m1, m2, m3, m4, m5⟩, m6⟩ := b4 l hl
      obtain ⟨z, hz⟩ : ∃ z : Nat, g (28 * (y : Int) + 3 + (l : Int)) = z := ⟨(g (28 * (y : Int) + 3 + (l : Int))).toNat, by omega⟩
      rw [hz] at m6 ⊢
      refine ⟨z, rfl, by omega, ?_⟩
      rcases m6 with m6 | m6
      · exact Or.inl m6
      · exact Or.inr ⟨m6, (hD z (by omega)).2.1 m6⟩
    have cap : bx_oc g (cu_ln g (y : Int)) n ≤ 40 := by
      refine bx_cap (fun l k hl hk => bx_ok_ce h40 (ok l hl) hk) (fun l k l' k' hl hk hl' hk' e => ?_)
      have o := ok l hl
      have o' := ok l' hl'
      have i1 := bx_ok_in o hk
      have i2 := bx_ok_in o' hk'
      obtain ⟨⟨m1, m2, m3, m4, m5⟩, m6⟩ := b4 l hl
      obtain ⟨⟨m1', m2', m3', m4', m5'⟩, m6'⟩ := b4 l' hl'
      rw [e] at i1
      rw [eX l] at i1 o hk e
      rw [eX l'] at i2 o' hk' e i1
      have xx : g (28 * (y : Int) + 3 + (l : Int)) = g (28 * (y : Int) + 3 + (l' : Int)) := by
        rcases i1 with ⟨i1, j1⟩ | ⟨i1, j1⟩
        · rcases i2 with ⟨i2, j2⟩ | ⟨i2, j2⟩
          · omega
          · rw [j1, m4] at j2
            omega
        · rcases i2 with ⟨i2, j2⟩ | ⟨i2, j2⟩
          · rw [j2, m4'] at j1
            omega
          · rw [j1] at j2
            omega
      have ll : l = l' := by
        rcases Nat.lt_trichotomy l l' with c2 | c2 | c2
        · exact absurd xx (m5' l c2)
        · exact c2
        · exact absurd xx.symm (m5 l' c2)
      subst ll
      refine ⟨rfl, ?_⟩
      obtain ⟨z, hz⟩ : ∃ z : Nat, g (28 * (y : Int) + 3 + (l : Int)) = z := ⟨(g (28 * (y : Int) + 3 + (l : Int))).toNat, by omega⟩
      rw [hz] at o hk hk' e
      exact bx_ok_row o hk hk' e
    refine ⟨⟨n1, n2⟩, ok, cap, ?_⟩
    have := bx_ogc (g := g) (X := cu_ln g (y : Int)) n (fun l hl => bx_ok_n (ok l hl))
    omega
  · have eL : cu_nl g (y : Int) = 1 := if_neg c
    have eX : ∀ l : Nat, cu_ln g (y : Int) l = y := fun l => if_neg c
    rw [eL]
    have oky : bx_ok M g (y : Int) := by
      refine ⟨y, rfl, hy, ?_⟩
      by_cases c0 : g (28 * (y : Int)) = 0
      · exact Or.inl c0
      · have c1 : g (28 * (y : Int)) = 1 := by omega
        exact Or.inr ⟨c1, d1 c1⟩
    have ok : ∀ l, l < 1 → bx_ok M g (cu_ln g (y : Int) l) := fun l _ => by rw [eX l]; exact oky
    have cap : bx_oc g (cu_ln g (y : Int)) 1 ≤ 40 := by
      refine bx_cap (fun l k hl hk => bx_ok_ce h40 (ok l hl) hk) (fun l k l' k' hl hk hl' hk' e => ?_)
      have e1 : l = l' := by omega
      subst e1
      rw [eX l] at e hk hk'
      exact ⟨rfl, bx_ok_row oky hk hk' e⟩
    refine ⟨⟨by decide, by decide⟩, ok, cap, ?_⟩
    have := bx_ogc (g := g) (X := cu_ln g (y : Int)) 1 (fun l hl => bx_ok_n (ok l hl))
    omega
/-- one line more -/
theorem bx_add {N : EM} {X : Nat → Int} {i : Nat} (hB : h_B M 0 g) (hS : bx_SP g M N X i) (h6 : i < 6) (ok : bx_ok M g (X i)) (hj : bx_oc g X (i + 1) ≤ 40) (hg : bx_og g X (i + 1) ≤ 40) : ∃ N', E_C 4 [170, X i] N = some (0, N') ∧ bx_SP g M N' X (i + 1) ∧ N' 170 7 = N 170 7 := by
  obtain ⟨z, z1, z2, z3⟩ := ok
  have e : ∀ id, id < 162 → N id = M id := fun id hid => funext fun k => hS.2.2.2.2.2.2.2.1 _ _ (by omega)
  have h40 := hB.2.1.2
  have zz : z3 = z3 := rfl
  rw [z1]
  obtain ⟨N', s1, s2⟩ := bx_4 (g := g) (M := N) (x := z) (j0 := bx_oc g X i) (g0 := bx_og g X i) (l0 := i) (x0 := (z : Int)) rfl (by omega) (by rw [e 11 (by decide)]; exact (hB.2.2 z z2).1) (by
    rcases z3 with z3 | ⟨z3, n, gr, z4⟩
    · exact Or.inl z3
    · exact Or.inr ⟨z3, n, gr, bx_d1_cg e z4⟩) hS.1 hS.2.1 hS.2.2.1 h6 (by rw [← z1]; exact hj) (by rw [← z1]; exact hg) hS.2.2.2.2.2.2.1
  rw [← z1] at s2
  exact ⟨N', s1, bx_SPs hS s2, s2.2.2.2.2.2.2.2.1 7 (by decide) (by decide) (by decide)⟩
theorem bx_loop {y n : Nat} {p0 x3 y0 n0 : Int} (hy0 : y0 = y) (hn0 : n0 = n) (hB : h_B M 0 g) (hd : hd_d2 M 0 g y n) (hk : g (28 * (y : Int)) = 2) (hy40 : y < 40) (ok : ∀ l, l < n → bx_ok M g (cu_ln g (y : Int) l)) (hj : bx_oc g (cu_ln g (y : Int)) n ≤ 40) (hg : bx_og g (cu_ln g (y : Int)) n ≤ 40) : ∀ (d i : Nat) (i0 : Int) (N : EM), i0 = i → i + d = n → bx_SP g M N (cu_ln g (y : Int)) i → ∃ N', E_V 1 101 [170, p0, 10, x3, y0, n0, i0] N = some (0, N') ∧ bx_SP g M N' (cu_ln g (y : Int)) n ∧ N' 170 7 = N 170 7 := by
  obtain ⟨⟨n1, n6⟩, b1, b2, b3, b4⟩ := hd
  intro d
  induction d with
  | zero =>
    intro i i0 N hi hd hS
    have e : i = n := by omega
    subst e
    have q : ¬ (i0 < n0) := by omega
    refine ⟨N, ?_, hS, rfl⟩
    rw [E_V_eq]
    show e_tv E_C (E_V 1) e_t1_101 [170, p0, 10, x3, y0, n0, i0] N = _
    unfold e_t1_101
    simp [e_tv, e_ev, e_sv, e_b1, e_b2, x_o1, x_o2, q]
  | succ d ih =>
    intro i i0 N hi hd hS
    have q : i0 < n0 := by omega
    have m1 := bx_oc_m (g := g) (X := cu_ln g (y : Int)) (n - (i + 1)) (i + 1)
    have m2 := bx_og_m (g := g) (X := cu_ln g (y : Int)) (n - (i + 1)) (i + 1)
    rw [show i + 1 + (n - (i + 1)) = n by omega] at m1 m2
    obtain ⟨N1, s1, s2, s3⟩ := bx_add hB hS (by omega) (ok i (by omega)) (by omega) (by omega)
    obtain ⟨N', k, k2, k3⟩ := ih (i + 1) (i0 + 1) N1 (by omega) (by omega) s2
    refine ⟨N', ?_, k2, k3.trans s3⟩
    have ex : cu_ln g (y : Int) i = g (28 * (y : Int) + 3 + (i : Int)) := if_pos hk
    have t := w_atN (a := 15) (i := y0 * 8 + i0) (n := 320) (by decide +kernel) (j := 8 * y + i) (by omega) (by omega) N
    have t' : E_C 146 [15, y0 * 8 + i0] N = some (cu_ln g (y : Int) i, N) := t.trans (by rw [show N (15 : Int).toNat (8 * y + i) = M (15 + 0) (8 * y + i) from hS.2.2.2.2.2.2.2.1 _ _ (by omega), (b4 i (by omega)).1.1, ex])
    have w1 : e_w (y0 * 8) = y0 * 8 := a_w_id (by omega) (by omega)
    have w2 : e_w (y0 * 8 + i0) = y0 * 8 + i0 := a_w_id (by omega) (by omega)
    have w4 : e_w (i0 + 1) = i0 + 1 := a_w_id (by omega) (by omega)
    rw [E_V_eq]
    show e_tv E_C (E_V 1) e_t1_101 [170, p0, 10, x3, y0, n0, i0] N = _
    unfold e_t1_101
    simp [e_tv, e_ev, e_sv, e_b1, e_b2, x_o1, x_o2, w_P5, q, w1, w2, w4, t', s1, k]
/-- the bench cleared -/
theorem bx_SP0 {b : Int} {X : Nat → Int} (h171 : M 171 0 = 0) : bx_SP g M (e_up (bx_cl M) 170 7 b) X 0 := by
  have cl : ∀ id k, ¬ (id = 172) → ¬ (id = 170) → bx_cl M id k = M id k := fun id k h1 h2 => by
    unfold bx_cl bx_fl
    rw [if_neg (fun e => h1 e.1), c_up_n (fun e => h2 e.1), c_up_n (fun e => h2 e.1), c_up_n (fun e => h2 e.1)]
  have c170 : ∀ k, bx_cl M 170 k = e_up (e_up (e_up M 170 0 0) 170 4 0) 170 5 0 170 k := fun k => by
    unfold bx_cl bx_fl
    exact if_neg (fun e => absurd e.1 (by decide))
  refine ⟨?_, ?_, ?_, fun l hl => ?_, fun l k hl => absurd hl (Nat.not_lt_zero _), fun l k hl => absurd hl (Nat.not_lt_zero _), fun y _ hy => ?_, fun id k h => ?_, fun k h0 h4 h5 h7 => ?_⟩
  · rw [c_up_n (by omega), c170, c_up_n (by omega), c_up_n (by omega), c_up_s]; rfl
  · rw [c_up_n (by omega), c170, c_up_n (by omega), c_up_s]; rfl
  · rw [c_up_n (by omega), c170, c_up_s]; rfl
  · have e : l = 0 := by omega
    subst e
    rw [c_up_n (by omega), cl _ _ (by decide) (by decide)]
    exact h171
  · rw [c_up_n (by omega)]
    exact if_pos ⟨rfl, Nat.zero_le _, hy⟩
  · rw [c_up_n (by omega)]
    exact cl _ _ (by omega) (by omega)
  · rw [c_up_n (by omega), c170, c_up_n (by omega), c_up_n (by omega), c_up_n (by omega)]
/-- a PART spread out -/
theorem bx_1 {p : Nat} (hB : h_B M 0 g) (hD : hd_D M 0 g) (hp : (p : Int) < g 1198) (h171 : M 171 0 = 0) : ∃ M', E_C 1 [170, (p : Int)] M = some (0, M') ∧ bx_SP g M M' (cu_ln g (cu_in g (p : Int))) (cu_nl g (cu_in g (p : Int))) ∧ M' 170 7 = (if g (28 * cu_in g (p : Int)) = 2 then 1 else 0) := by
  have h40 := hB.2.1.2
  obtain ⟨p0, hp0⟩ : ∃ p0 : Int, (p : Int) = p0 := ⟨_, rfl⟩
  obtain ⟨b1, -, ⟨b3, b4⟩, -⟩ := hB.2.2 p hp
  have b1 : M 11 p = g (28 * (p : Int)) := b1
  obtain ⟨-, -, -, d3⟩ := hD p hp
  -- the inner PART
  have inn : ∃ y : Nat, cu_in g (p : Int) = y ∧ (y : Int) < g 1198 ∧ g (28 * (y : Int)) ≠ 3 ∧ (g (28 * (p : Int)) = 3 → M 15 (8 * p) = y) ∧ (g (28 * (p : Int)) ≠ 3 → y = p) := by
    by_cases c : g (28 * (p : Int)) = 3
    · obtain ⟨⟨c1, c2, c3, ⟨m1, m2, m3, m4, m5⟩, c5⟩, -⟩ := d3 c
      have e0 : (28 * (p : Int) + 3 + ((0 : Nat) : Int)) = 28 * (p : Int) + 3 := by omega
      rw [e0] at m1 m2 m3 c5
      obtain ⟨y, hy⟩ : ∃ y : Nat, g (28 * (p : Int) + 3) = y := ⟨(g (28 * (p : Int) + 3)).toNat, by omega⟩
      refine ⟨y, ?_, by omega, by rw [← hy]; exact c5, fun _ => ?_, fun h => absurd c h⟩
      · unfold cu_in
        rw [if_pos c, hy]
      · rw [← hy]
        exact m1
    · refine ⟨p, ?_, hp, c, fun h => absurd h c, fun _ => rfl⟩
      unfold cu_in
      rw [if_neg c]
  obtain ⟨y, hy, y1, y3, y4, y5⟩ := inn
  rw [hy]
  obtain ⟨⟨l1, l6⟩, ok, cap, capg⟩ := bx_lines h40 hB hD y1 y3
  have y40 : y < 40 := by omega
  have p40 : p < 40 := by omega
  obtain ⟨y0, hy0⟩ : ∃ y0 : Int, (y : Int) = y0 := ⟨_, rfl⟩
  obtain ⟨c1, -, -, -⟩ := hB.2.2 y y1
  have c1 : M 11 y = g (28 * (y : Int)) := c1
  obtain ⟨b, hb⟩ : ∃ b : Int, (if g (28 * (y : Int)) = 2 then (1 : Int) else 0) = b := ⟨_, rfl⟩
  rw [hb]
  obtain ⟨Z, hZ⟩ : ∃ Z, bx_cl M = Z := ⟨_, rfl⟩
  have S0 := bx_SP0 (g := g) (b := b) (X := cu_ln g (y : Int)) h171
  rw [hZ] at S0
  have fZ : ∀ id k, ¬ (170 ≤ id ∧ id ≤ 176) → Z id k = M id k := fun id k h => (by
    have := S0.2.2.2.2.2.2.2.1 id k h
    rw [c_up_n (by omega)] at this
    exact this)
  have t11 := fun (j : Nat) (j0 : Int) (h : j0 = j) (h2 : j < 40) => (w_atN (a := 11) (i := j0) (n := 40) (by decide +kernel) (j := j) h h2 Z).trans (by rw [show Z (11 : Int).toNat j = M 11 j from fZ _ _ (by omega)])
  have tp := t11 p p0 hp0.symm p40
  have ty := t11 y y0 hy0.symm y40
  rw [b1] at tp
  rw [c1] at ty
  have cl : E_C 3 [170] M = some (0, Z) := by rw [← hZ]; exact bx_clear M
  have w1 : e_w (p0 * 8) = p0 * 8 := a_w_id (by omega) (by omega)
  have t15 : g (28 * (p : Int)) = 3 → E_C 146 [15, p0 * 8] Z = some (y0, Z) := fun h => by
    have t := w_atN (a := 15) (i := p0 * 8) (n := 320) (by decide +kernel) (j := 8 * p) (by omega) (by omega) Z
    exact t.trans (by rw [show Z (15 : Int).toNat (8 * p) = M 15 (8 * p) from fZ _ _ (by omega), y4 h, hy0])
  -- what stands behind the choice of the inner PART
  have go : ∀ x3 : Int, ∃ M', (if b = 0 then (E_C 4 [170, y0] (e_up Z 170 7 b)).bind (fun r => some (0, r.2)) else (E_C 146 [14, y0] (e_up Z 170 7 b)).bind (fun r => E_V 1 101 [170, p0, 10, x3, y0, r.1, 0] r.2)) = some (0, M') ∧ bx_SP g M M' (cu_ln g (y : Int)) (cu_nl g (y : Int)) ∧ M' 170 7 = b := by
    intro x3
    by_cases c : g (28 * (y : Int)) = 2
    · rw [if_pos c] at hb
      obtain ⟨n, hd⟩ := (hD y y1).2.2.1 c
      have eL : cu_nl g (y : Int) = n := by
        unfold cu_nl
        rw [if_pos c, hd.2.1, Int.toNat_natCast]
      rw [eL] at ok cap capg ⊢
      obtain ⟨N', k, k2, k3⟩ := bx_loop (p0 := p0) (x3 := x3) (y0 := y0) (n0 := (n : Int)) hy0.symm rfl hB hd c y40 ok cap capg n 0 0 _ rfl (by omega) S0
      refine ⟨N', ?_, k2, k3.trans c_up_s⟩
      have t14 := w_atN (a := 14) (i := y0) (n := 40) (by decide +kernel) (j := y) hy0.symm y40 (e_up Z 170 7 b)
      have t14' : E_C 146 [14, y0] (e_up Z 170 7 b) = some ((n : Int), e_up Z 170 7 b) := t14.trans (by rw [show (e_up Z 170 7 b) (14 : Int).toNat y = M (14 + 0) y from (c_up_n (by omega)).trans (fZ _ _ (by omega)), hd.2.2.1])
      rw [if_neg (by omega), t14']
      exact k
    · rw [if_neg c] at hb
      have eL : cu_nl g (y : Int) = 1 := if_neg c
      have eX : cu_ln g (y : Int) 0 = y := if_neg c
      rw [eL] at ok cap capg ⊢
      obtain ⟨N', s1, s2, s3⟩ := bx_add hB S0 (by decide) (ok 0 (by decide)) cap capg
      refine ⟨N', ?_, s2, s3.trans c_up_s⟩
      rw [eX, hy0] at s1
      rw [if_pos hb.symm, s1]
      rfl
  rw [hp0]
  by_cases c3 : g (28 * (p : Int)) = 3
  · obtain ⟨M', m1, m2, m3⟩ := go 1
    refine ⟨M', ?_, m2, m3⟩
    have t15' := t15 c3
    rw [c3] at tp
    rw [r_ent (show e_rok 1 [170, p0] = true from bx_r (M := M) rfl (by decide +kernel))]
    show e_tv E_C (E_V 1) e_t1_0 [170, p0, 0, 0, 0, 0, 0] M = _
    unfold e_t1_0
    by_cases c : g (28 * (y : Int)) = 2
    · rw [if_pos c] at hb
      subst hb
      rw [if_neg (by decide)] at m1
      rw [c] at ty
      cases h14 : E_C 146 [14, y0] (e_up Z 170 7 1) with
      | none => rw [h14] at m1; cases m1
      | some r =>
        rw [h14] at m1
        have m1' : E_V 1 101 [170, p0, 10, 1, y0, r.1, 0] r.2 = some (0, M') := m1
        simp [e_tv, e_ev, e_sv, e_b1, e_b2, x_o1, x_o2, bx_G3, bx_F7, bx_P7, w_H0, w_P1, w_P4, w_P5, cl, tp, t15', ty, w1, h14, m1', c_up_s]
    · rw [if_neg c] at hb
      subst hb
      rw [if_pos rfl] at m1
      cases h4 : E_C 4 [170, y0] (e_up Z 170 7 0) with
      | none => rw [h4] at m1; cases m1
      | some r =>
        rw [h4] at m1
        have m1' : r.2 = M' := (Prod.mk.inj (Option.some.inj m1)).2
        simp [e_tv, e_ev, e_sv, e_b1, e_b2, x_o1, x_o2, bx_G3, bx_F7, bx_P7, w_H0, w_P1, w_P5, cl, tp, t15', ty, c, w1, h4, m1', c_up_s]
  · obtain ⟨M', m1, m2, m3⟩ := go 0
    refine ⟨M', ?_, m2, m3⟩
    have e := y5 c3
    have ey : y0 = p0 := by omega
    rw [ey] at m1 ty
    rw [r_ent (show e_rok 1 [170, p0] = true from bx_r (M := M) rfl (by decide +kernel))]
    show e_tv E_C (E_V 1) e_t1_0 [170, p0, 0, 0, 0, 0, 0] M = _
    unfold e_t1_0
    by_cases c : g (28 * (y : Int)) = 2
    · rw [if_pos c] at hb
      subst hb
      rw [if_neg (by decide)] at m1
      rw [c] at ty
      cases h14 : E_C 146 [14, p0] (e_up Z 170 7 1) with
      | none => rw [h14] at m1; cases m1
      | some r =>
        rw [h14] at m1
        have m1' : E_V 1 101 [170, p0, 10, 0, p0, r.1, 0] r.2 = some (0, M') := m1
        simp [e_tv, e_ev, e_sv, e_b1, e_b2, x_o1, x_o2, bx_G3, bx_F7, bx_P7, w_H0, w_P1, w_P4, cl, ty, h14, m1', c_up_s]
    · rw [if_neg c] at hb
      subst hb
      rw [if_pos rfl] at m1
      rw [e] at c ty
      cases h4 : E_C 4 [170, p0] (e_up Z 170 7 0) with
      | none => rw [h4] at m1; cases m1
      | some r =>
        rw [h4] at m1
        have m1' : r.2 = M' := (Prod.mk.inj (Option.some.inj m1)).2
        simp [e_tv, e_ev, e_sv, e_b1, e_b2, x_o1, x_o2, bx_G3, bx_F7, bx_P7, w_H0, w_P1, cl, ty, c3, c, h4, m1', c_up_s]
end BXM
end
section
/-! the class draws CELLS: exactly -/
theorem bx_shv {l d w : Int} (hl : 0 ≤ l ∧ l ≤ 100) (hd : 0 ≤ d ∧ d ≤ 100) (hw : 0 ≤ w ∧ w ≤ 100) : e_w ((e_w (e_w (l * e_w (100 - d)) * e_w (100 - w))).tdiv 10000) = (l * (100 - d) * (100 - w)).tdiv 10000 ∧ 0 ≤ (l * (100 - d) * (100 - w)).tdiv 10000 ∧ (l * (100 - d) * (100 - w)).tdiv 10000 ≤ 100 := by
  have a0 : 0 ≤ l * (100 - d) := Int.mul_nonneg hl.1 (by omega)
  have a1 : l * (100 - d) ≤ l * 100 := Int.mul_le_mul_of_nonneg_left (by omega) hl.1
  have b0 : 0 ≤ l * (100 - d) * (100 - w) := Int.mul_nonneg a0 (by omega)
  have b1 : l * (100 - d) * (100 - w) ≤ l * (100 - d) * 100 := Int.mul_le_mul_of_nonneg_left (by omega) a0
  rw [a_w_id (x := 100 - d) (by omega) (by omega), a_w_id (x := 100 - w) (by omega) (by omega)]
  revert a0 a1 b0 b1
  generalize l * (100 - d) = A
  intro a0 a1 b0 b1
  rw [a_w_id (x := A) (by omega) (by omega)]
  revert b0 b1
  generalize A * (100 - w) = B
  intro b0 b1
  rw [a_w_id (x := B) (by omega) (by omega), Int.tdiv_eq_ediv_of_nonneg b0]
  have z : 0 ≤ B / 10000 ∧ B / 10000 ≤ 100 := by omega
  exact ⟨a_w_id (by omega) (by omega), z⟩
def bx_sh (M : EM) (j : Nat) : Int := if M 176 j = 0 then (M 175 (4 * j) * (100 - M 175 (4 * j + 1)) * (100 - M 175 (4 * j + 2))).tdiv 10000 else 0
/-- CELL j of the bench, known -/
def bx_kn (g : Int → Int) (SH WM : Int → Int) (M : EM) (j : Nat) : Prop := ∃ q : Nat, M 174 j = q ∧ (q : Int) < g 1198 ∧ g (28 * (q : Int)) = 0 ∧ (∀ a, a < 4 → 0 ≤ M 175 (4 * j + a) ∧ M 175 (4 * j + a) ≤ 100) ∧ bx_sh M j = SH q ∧ M 175 (4 * j + 3) = WM q
def bx_DP (g : Int → Int) (M M' : EM) (j n : Nat) (q s w : Int) : Prop := (∀ i, i < n → M' 177 (6 * j + i) = cu_pv g w q i ∧ M' 178 (6 * j + i) = cu_cv g s q i) ∧ ∀ id k, ¬ ((id = 177 ∨ id = 178) ∧ 6 * j ≤ k ∧ k < 6 * j + 6) → M' id k = M id k
theorem bx_pve {g : Int → Int} {w q z : Int} {i : Nat} (hz : z = g (28 * q + 3 + (i : Int))) (h0 : 0 ≤ z ∧ z ≤ 60) (hw : 0 ≤ w ∧ w ≤ 100) : e_w (z - e_w ((e_w (z * w)).tdiv 100)) = cu_pv g w q i := by
  unfold cu_pv
  rw [← hz]
  have d := cu_wv (p := z) (w := w) ⟨h0.1, by omega⟩ hw
  rw [a_w_id (x := z * w) (by omega) (by omega), a_w_id (x := (z * w).tdiv 100) (by omega) (by omega), a_w_id (by omega) (by omega)]
theorem bx_cve {g : Int → Int} {s q z : Int} {i : Nat} (hz : z = g (28 * q + 9 + (i : Int))) (h0 : 0 ≤ z ∧ z ≤ 99) (hs : 0 ≤ s ∧ s ≤ 100) : e_w ((e_w (z * s)).tdiv 100) = cu_cv g s q i := by
  unfold cu_cv
  rw [← hz]
  have d := cu_wv (p := z) (w := s) ⟨h0.1, by omega⟩ hs
  rw [a_w_id (x := z * s) (by omega) (by omega), a_w_id (x := (z * s).tdiv 100) (by omega) (by omega)]
theorem bx_74 {g : Int → Int} {M0 : EM} {j q n : Nat} {j0 s w x2 : Int} (hj0 : j0 = j) (hj : j < 40) (hq : q < 40) (h174 : M0 174 j = q) (hd : hd_d0 M0 0 g q) (hn : g (28 * (q : Int) + 2) = n) (hs : 0 ≤ s ∧ s ≤ 100) (hw : 0 ≤ w ∧ w ≤ 100) : ∀ (d i : Nat) (x5 x6 x7 : Int) (M : EM), x5 = i → i + d = 6 → (∀ k, k < i → k < n → M 177 (6 * j + k) = cu_pv g w q k ∧ M 178 (6 * j + k) = cu_cv g s q k) → (∀ id k, ¬ ((id = 177 ∨ id = 178) ∧ 6 * j ≤ k ∧ k < 6 * j + 6) → M id k = M0 id k) → ∃ M', E_V 9 74 [170, j0, x2, w, s, x5, x6, x7] M = some (0, M') ∧ bx_DP g M0 M' j n q s w := by
  obtain ⟨hv, d2, d3⟩ := hd
  obtain ⟨n2, n6, b3, -, -, -⟩ := hd_cv_bd hv hn
  intro d
  induction d with
  | zero =>
    intro i x5 x6 x7 M hx hi h1 h2
    have q5 : ¬ (x5 < 6) := by omega
    refine ⟨M, ?_, fun k hk => h1 k (by omega) hk, h2⟩
    rw [E_V_eq]
    show e_tv E_C (E_V 9) e_t9_74 [170, j0, x2, w, s, x5, x6, x7] M = _
    unfold e_t9_74
    simp [e_tv, e_ev, e_sv, e_b1, e_b2, x_o1, x_o2, q5]
  | succ d ih =>
    intro i x5 x6 x7 M hx hi h1 h2
    have q5 : x5 < 6 := by omega
    have i1 : (q : Int) * 6 + x5 = ((6 * q + i : Nat) : Int) := by omega
    have i2 : 6 * q + i < 240 := by omega
    have i3 : j0 * 6 + x5 = ((6 * j + i : Nat) : Int) := by omega
    have i4 : 6 * j + i < 240 := by omega
    obtain ⟨u, hu⟩ : ∃ u, M0 19 (6 * q + i) = u := ⟨_, rfl⟩
    obtain ⟨v, hv'⟩ : ∃ v, M0 20 (6 * q + i) = v := ⟨_, rfl⟩
    obtain ⟨pv, hpv⟩ : ∃ pv, e_w (u - e_w ((e_w (u * w)).tdiv 100)) = pv := ⟨_, rfl⟩
    obtain ⟨cv, hcv⟩ : ∃ cv, e_w ((e_w (v * s)).tdiv 100) = cv := ⟨_, rfl⟩
    have vals : i < n → pv = cu_pv g w q i ∧ cv = cu_cv g s q i := fun hin => by
      obtain ⟨e1, e2⟩ := d3 i (by omega)
      obtain ⟨c1, c2⟩ := b3 i hin
      have e1' : u = g (28 * (q : Int) + 3 + (i : Int)) := hu.symm.trans e1
      have e2' : v = g (28 * (q : Int) + 9 + (i : Int)) := hv'.symm.trans e2
      exact ⟨hpv.symm.trans (bx_pve e1' (by rw [e1']; exact c1) hw), hcv.symm.trans (bx_cve e2' (by rw [e2']; exact c2) hs)⟩
    have l1 := w_layN (a := 177) (i := j0 * 6 + x5) (n := 240) (by decide +kernel) (j := 6 * j + i) i3 i4 pv M
    have l1' : E_C 147 [177, j0 * 6 + x5, pv] M = some (0, e_up M 177 (6 * j + i) pv) := l1
    have l2 := w_layN (a := 178) (i := j0 * 6 + x5) (n := 240) (by decide +kernel) (j := 6 * j + i) i3 i4 cv (e_up M 177 (6 * j + i) pv)
    have l2' : E_C 147 [178, j0 * 6 + x5, cv] (e_up M 177 (6 * j + i) pv) = some (0, e_up (e_up M 177 (6 * j + i) pv) 178 (6 * j + i) cv) := l2
    obtain ⟨M1, hM1⟩ : ∃ M1, e_up (e_up M 177 (6 * j + i) pv) 178 (6 * j + i) cv = M1 := ⟨_, rfl⟩
    rw [hM1] at l2'
    have t1 := fun N : EM => w_atN (a := 174) (i := j0) (n := 40) (by decide +kernel) (j := j) hj0 hj N
    have t174 : E_C 146 [174, j0] M = some ((q : Int), M) := (t1 M).trans (by rw [show M (174 : Int).toNat j = M0 174 j from h2 _ _ (by omega), h174])
    have t19 := w_atN (a := 19) (i := (q : Int) * 6 + x5) (n := 240) (by decide +kernel) (j := 6 * q + i) i1 i2 M
    have t19' : E_C 146 [19, (q : Int) * 6 + x5] M = some (u, M) := t19.trans (by rw [show M (19 : Int).toNat (6 * q + i) = M0 19 (6 * q + i) from h2 _ _ (by omega), hu])
    have t20 := w_atN (a := 20) (i := (q : Int) * 6 + x5) (n := 240) (by decide +kernel) (j := 6 * q + i) i1 i2 M
    have t20' : E_C 146 [20, (q : Int) * 6 + x5] M = some (v, M) := t20.trans (by rw [show M (20 : Int).toNat (6 * q + i) = M0 20 (6 * q + i) from h2 _ _ (by omega), hv'])
    obtain ⟨M', k, kk⟩ := ih (i + 1) (x5 + 1) u v M1 (by omega) (by omega) (fun k k1 k2 => by
      by_cases e : k = i
      · subst e
        obtain ⟨v1, v2⟩ := vals k2
        refine ⟨?_, ?_⟩
        · rw [← hM1, c_up_n (by omega), c_up_s, v1]
        · rw [← hM1, c_up_s, v2]
      · obtain ⟨z1, z2⟩ := h1 k (by omega) k2
        refine ⟨?_, ?_⟩
        · rw [← hM1, c_up_n (by omega), c_up_n (by omega)]; exact z1
        · rw [← hM1, c_up_n (by omega), c_up_n (by omega)]; exact z2) (fun id k h => by
      rw [← hM1, c_up_n (by omega), c_up_n (by omega)]
      exact h2 id k h)
    refine ⟨M', ?_, kk⟩
    clear ih h1 h2 vals kk d3 b3
    obtain ⟨qq, hqq⟩ : ∃ qq : Int, (q : Int) = qq := ⟨_, rfl⟩
    rw [hqq] at t174 t19' t20' i1
    have w1 : e_w (qq * 6) = qq * 6 := a_w_id (by omega) (by omega)
    have w2 : e_w (qq * 6 + x5) = qq * 6 + x5 := a_w_id (by omega) (by omega)
    have w3 : e_w (j0 * 6) = j0 * 6 := a_w_id (by omega) (by omega)
    have w4 : e_w (j0 * 6 + x5) = j0 * 6 + x5 := a_w_id (by omega) (by omega)
    have w5 : e_w (x5 + 1) = x5 + 1 := a_w_id (by omega) (by omega)
    rw [E_V_eq]
    show e_tv E_C (E_V 9) e_t9_74 [170, j0, x2, w, s, x5, x6, x7] M = _
    unfold e_t9_74
    simp [e_tv, e_ev, e_sv, e_b1, e_b2, x_o1, x_o2, bx_G3, bx_Gb, bx_Ge, bx_Gf, w_H1, w_C0, w_C1, q5, w1, w2, w3, w4, w5, t174, t19', t20', hpv, hcv, l1', l2', k]
theorem bx_9 {g : Int → Int} {M : EM} {j q n : Nat} {j0 : Int} (hj0 : j0 = j) (hj : j < 40) (hq : q < 40) (h174 : M 174 j = q) (hd : hd_d0 M 0 g q) (hn : g (28 * (q : Int) + 2) = n) (ha : ∀ a, a < 4 → 0 ≤ M 175 (4 * j + a) ∧ M 175 (4 * j + a) ≤ 100) : (0 ≤ bx_sh M j ∧ bx_sh M j ≤ 100) ∧ ∃ M', E_C 9 [170, j0] M = some (0, M') ∧ bx_DP g M M' j n q (bx_sh M j) (M 175 (4 * j + 3)) := by
  have a0 := ha 0 (by decide)
  have a1 := ha 1 (by decide)
  have a2 := ha 2 (by decide)
  have a3 := ha 3 (by decide)
  rw [Nat.add_zero] at a0
  obtain ⟨z1, z2⟩ := bx_shv a0 a1 a2
  have hs : 0 ≤ bx_sh M j ∧ bx_sh M j ≤ 100 := by
    unfold bx_sh
    by_cases c : M 176 j = 0
    · rw [if_pos c]; exact z2
    · rw [if_neg c]; omega
  refine ⟨hs, ?_⟩
  obtain ⟨M', k, kk⟩ := bx_74 (x2 := j0 * 4) hj0 hj hq h174 hd hn hs a3 6 0 0 0 0 M rfl rfl (fun k h => absurd h (Nat.not_lt_zero _)) (fun _ _ _ => rfl)
  refine ⟨M', ?_, kk⟩
  clear kk hd hn
  have i0 : j0 * 4 = ((4 * j : Nat) : Int) := by omega
  have i1 : j0 * 4 + 1 = ((4 * j + 1 : Nat) : Int) := by omega
  have i2 : j0 * 4 + 2 = ((4 * j + 2 : Nat) : Int) := by omega
  have i3 : j0 * 4 + 3 = ((4 * j + 3 : Nat) : Int) := by omega
  have t0 : E_C 146 [175, j0 * 4] M = some (M 175 (4 * j), M) := w_atN (a := 175) (n := 160) (by decide +kernel) (j := 4 * j) i0 (by omega) M
  have t1 : E_C 146 [175, j0 * 4 + 1] M = some (M 175 (4 * j + 1), M) := w_atN (a := 175) (n := 160) (by decide +kernel) (j := 4 * j + 1) i1 (by omega) M
  have t2 : E_C 146 [175, j0 * 4 + 2] M = some (M 175 (4 * j + 2), M) := w_atN (a := 175) (n := 160) (by decide +kernel) (j := 4 * j + 2) i2 (by omega) M
  have t3 : E_C 146 [175, j0 * 4 + 3] M = some (M 175 (4 * j + 3), M) := w_atN (a := 175) (n := 160) (by decide +kernel) (j := 4 * j + 3) i3 (by omega) M
  have t4 : E_C 146 [176, j0] M = some (M 176 j, M) := w_atN (a := 176) (n := 40) (by decide +kernel) (j := j) hj0 hj M
  have w1 : e_w (j0 * 4) = j0 * 4 := a_w_id (by omega) (by omega)
  have w2 : e_w (j0 * 4 + 1) = j0 * 4 + 1 := a_w_id (by omega) (by omega)
  have w3 : e_w (j0 * 4 + 2) = j0 * 4 + 2 := a_w_id (by omega) (by omega)
  have w4 : e_w (j0 * 4 + 3) = j0 * 4 + 3 := a_w_id (by omega) (by omega)
  have k71 : ∀ s, E_V 9 71 [170, j0, j0 * 4, M 175 (4 * j + 3), s, 0, 0, 0] M = E_V 9 74 [170, j0, j0 * 4, M 175 (4 * j + 3), s, 0, 0, 0] M := fun s => by
    rw [E_V_eq]
    show e_tv E_C (E_V 9) e_t9_71 [170, j0, j0 * 4, M 175 (4 * j + 3), s, 0, 0, 0] M = _
    unfold e_t9_71
    simp [e_tv, e_ev, e_sv, e_b1, e_b2, x_o1, x_o2]
  have k' := (k71 (bx_sh M j)).trans k
  clear k71 k i0 i1 i2 i3 ha h174
  unfold bx_sh at k'
  rw [r_ent (show e_rok 9 [170, j0] = true from bx_r (M := M) rfl (by decide +kernel))]
  show e_tv E_C (E_V 9) e_t9_0 [170, j0, 0, 0, 0, 0, 0, 0] M = _
  unfold e_t9_0
  by_cases c : M 176 j = 0
  · rw [if_pos c, ← z1] at k'
    rw [c] at t4
    simp [e_tv, e_ev, e_sv, e_b1, e_b2, x_o1, x_o2, bx_Gc, bx_Gd, w1, w2, w3, w4, t0, t1, t2, t3, t4, k']
  · rw [if_neg c] at k'
    simp [e_tv, e_ev, e_sv, e_b1, e_b2, x_o1, x_o2, bx_Gc, bx_Gd, w1, w2, w3, w4, t0, t1, t2, t3, t4, c, k']
end
section
/-! PUSH of CELLS on the bench: exactly -/
theorem bx_14 {j l : Nat} {x1 c s t a b : Int} {M : EM} (hx : x1 = ((6 * j + l : Nat) : Int)) (hl : 1 ≤ l) (hb6 : 6 * j + l < 240) (hs : M 177 (6 * j + l) = s) (ht : M 177 (6 * j + (l - 1)) = t) (ha : M 178 (6 * j + l) = a) (hb : M 178 (6 * j + (l - 1)) = b) (h1 : 0 ≤ t) (h2 : t ≤ s) (h3 : s ≤ 60) (h4 : 0 ≤ a) (h5 : a ≤ c) (h6 : c ≤ b) (h7 : b ≤ 99) : E_C 14 [170, x1, c] M = some (if b = a then s else s - ((s - t) * (c - a)).tdiv (b - a), M) := by
  have i1 : x1 - 1 = ((6 * j + (l - 1) : Nat) : Int) := by omega
  have t1 : E_C 146 [177, x1] M = some (s, M) := (w_atN (a := 177) (n := 240) (by decide +kernel) (j := 6 * j + l) hx hb6 M).trans (by rw [← hs]; rfl)
  have t2 : E_C 146 [177, x1 - 1] M = some (t, M) := (w_atN (a := 177) (n := 240) (by decide +kernel) (j := 6 * j + (l - 1)) i1 (by omega) M).trans (by rw [← ht]; rfl)
  have t3 : E_C 146 [178, x1] M = some (a, M) := (w_atN (a := 178) (n := 240) (by decide +kernel) (j := 6 * j + l) hx hb6 M).trans (by rw [← ha]; rfl)
  have t4 : E_C 146 [178, x1 - 1] M = some (b, M) := (w_atN (a := 178) (n := 240) (by decide +kernel) (j := 6 * j + (l - 1)) i1 (by omega) M).trans (by rw [← hb]; rfl)
  have w1 : e_w (x1 - 1) = x1 - 1 := a_w_id (by omega) (by omega)
  clear hs ht ha hb
  rw [r_ent (show e_rok 14 [170, x1, c] = true from bx_r (M := M) rfl (by decide +kernel))]
  show e_tv E_C (E_V 14) e_t14_0 [170, x1, c, 0, 0] M = _
  unfold e_t14_0
  by_cases e : b = a
  · have w2 : e_w (a - a) = 0 := by rw [Int.sub_self]; exact a_w_id (by omega) (by omega)
    rw [if_pos e]
    subst e
    have w3 : e_w 0 = 0 := a_w_id (by omega) (by omega)
    simp [e_tv, e_ev, e_sv, e_b1, e_b2, x_o1, x_o2, bx_Ge, bx_Gf, w1, w2, w3, t1, t2, t3, t4]
  · have w3 := rx_ar (s := s) (t := t) (a := a) (b := b) (c := c) h1 h2 h3 h4 h5 h6 h7 (fun e2 => e e2.symm)
    have w4 : e_w (b - a) ≠ 0 := r_ne_w ⟨by omega, by omega⟩ ⟨by omega, by omega⟩ e
    rw [if_neg e, ← w3]
    simp [e_tv, e_ev, e_sv, e_b1, e_b2, x_o1, x_o2, bx_Ge, bx_Gf, w1, t1, t2, t3, t4, w4]
theorem bx_60 {j n : Nat} {j0 c x3 x4 : Int} {P C : Nat → Int} {M : EM} (hj : j < 40) (hx3 : x3 = ((6 * j : Nat) : Int)) (hn : n ≤ 6) (hM : ∀ i, i < n → M 177 (6 * j + i) = P i ∧ M 178 (6 * j + i) = C i) (hb : ∀ i, i < n → (0 ≤ P i ∧ P i ≤ 60) ∧ 0 ≤ C i ∧ C i ≤ 99) (hm : ∀ i, i + 1 < n → P i ≤ P (i + 1)) : ∀ (l : Nat) (x5 : Int), x5 = ((6 * j + l : Nat) : Int) → l < n → E_V 13 60 [170, j0, c, x3, x4, x5] M = some (cu_sg P C c l, M) := by
  intro l
  induction l with
  | zero =>
    intro x5 hx hl
    have q : ¬ (x3 < x5) := by omega
    rw [E_V_eq]
    show e_tv E_C (E_V 13) e_t13_60 [170, j0, c, x3, x4, x5] M = _
    unfold e_t13_60
    simp [e_tv, e_ev, e_sv, e_b1, e_b2, x_o1, x_o2, q, cu_sg]
  | succ l ih =>
    intro x5 hx hl
    have q : x3 < x5 := by omega
    have i1 : x5 - 1 = ((6 * j + l : Nat) : Int) := by omega
    obtain ⟨m1, m2⟩ := hM (l + 1) hl
    obtain ⟨m3, m4⟩ := hM l (by omega)
    obtain ⟨b1, b2⟩ := hb (l + 1) hl
    obtain ⟨b3, b4⟩ := hb l (by omega)
    have mm := hm l hl
    have t3 : E_C 146 [178, x5] M = some (C (l + 1), M) := (w_atN (a := 178) (n := 240) (by decide +kernel) (j := 6 * j + (l + 1)) hx (by omega) M).trans (by rw [← m2]; rfl)
    have t4 : E_C 146 [178, x5 - 1] M = some (C l, M) := (w_atN (a := 178) (n := 240) (by decide +kernel) (j := 6 * j + l) i1 (by omega) M).trans (by rw [← m4]; rfl)
    have kb : C (l + 1) ≤ c → c ≤ C l → E_C 14 [170, x5, c] M = some (cu_bt P C (l + 1) c, M) := fun h1 h2 => bx_14 (j := j) (l := l + 1) hx (by omega) (by omega) m1 m3 m2 m4 b3.1 mm b1.2 b2.1 h1 h2 b4.2
    have k := ih (x5 - 1) i1 (by omega)
    have esg : cu_sg P C c (l + 1) = if C (l + 1) ≤ c ∧ c ≤ C l then cu_bt P C (l + 1) c else cu_sg P C c l := rfl
    have w1 : e_w (x5 - 1) = x5 - 1 := a_w_id (by omega) (by omega)
    have w2 : e_w (x5 + -1) = x5 - 1 := (a_w_id (by omega) (by omega)).trans (by omega)
    rw [esg]
    clear esg ih hM hb hm m1 m2 m3 m4
    revert t3 t4 kb
    generalize cu_bt P C (l + 1) c = z
    generalize C (l + 1) = a
    generalize C l = b
    intro t3 t4 kb
    rw [E_V_eq]
    show e_tv E_C (E_V 13) e_t13_60 [170, j0, c, x3, x4, x5] M = _
    unfold e_t13_60
    rcases x_le a c with ⟨c1, c1_n⟩ | ⟨c1, c1_n⟩
    · rcases x_le c b with ⟨c2, c2_n⟩ | ⟨c2, c2_n⟩
      · have kb' := kb c1 c2
        rw [if_pos ⟨c1, c2⟩]
        simp [e_tv, e_ev, e_sv, e_b1, e_b2, x_o1, x_o2, bx_Gf, q, w1, t3, t4, c1, c1_n, c2, c2_n, kb']
      · rw [if_neg (fun e => c2 e.2)]
        simp [e_tv, e_ev, e_sv, e_b1, e_b2, x_o1, x_o2, bx_Gf, q, w1, w2, t3, t4, c1, c1_n, c2, c2_n, k]
    · rw [if_neg (fun e => c1 e.1)]
      simp [e_tv, e_ev, e_sv, e_b1, e_b2, x_o1, x_o2, bx_Gf, q, w2, t3, c1, c1_n, k]
theorem bx_13 {j q n : Nat} {j0 c : Int} {P C : Nat → Int} {M : EM} (hj0 : j0 = j) (hj : j < 40) (hq : q < 40) (h174 : M 174 j = q) (h12 : M 12 q = n) (hn1 : 1 ≤ n) (hn : n ≤ 6) (hc : 0 ≤ c ∧ c ≤ 2000) (hM : ∀ i, i < n → M 177 (6 * j + i) = P i ∧ M 178 (6 * j + i) = C i) (hb : ∀ i, i < n → (0 ≤ P i ∧ P i ≤ 60) ∧ 0 ≤ C i ∧ C i ≤ 99) (hm : ∀ i, i + 1 < n → P i ≤ P (i + 1)) : E_C 13 [170, j0, c] M = some (cu_cp n P C c, M) := by
  have i0 : j0 * 6 = ((6 * j : Nat) : Int) := by omega
  have i5 : j0 * 6 + (n : Int) - 1 = ((6 * j + (n - 1) : Nat) : Int) := by omega
  have t0 : E_C 146 [178, j0 * 6] M = some (C 0, M) := (w_atN (a := 178) (n := 240) (by decide +kernel) (j := 6 * j + 0) i0 (by omega) M).trans (by rw [← (hM 0 (by omega)).2]; rfl)
  have t1 : E_C 146 [174, j0] M = some ((q : Int), M) := (w_atN (a := 174) (n := 40) (by decide +kernel) (j := j) hj0 hj M).trans (by rw [← h174]; rfl)
  have t2 : E_C 146 [12, (q : Int)] M = some ((n : Int), M) := (w_atN (a := 12) (n := 40) (by decide +kernel) (j := q) rfl hq M).trans (by rw [← h12]; rfl)
  have k := fun x4 => bx_60 (j0 := j0) (c := c) (x3 := j0 * 6) (x4 := x4) hj i0 hn hM hb hm (n - 1) (j0 * 6 + (n : Int) - 1) i5 (by omega)
  have b0 := (hb 0 (by omega)).2
  obtain ⟨qq, hqq⟩ : ∃ qq : Int, (q : Int) = qq := ⟨_, rfl⟩
  obtain ⟨nn, hnn⟩ : ∃ nn : Int, (n : Int) = nn := ⟨_, rfl⟩
  rw [hqq, hnn] at t2
  rw [hqq] at t1
  rw [hnn] at k
  have w1 : e_w (j0 * 6) = j0 * 6 := a_w_id (by omega) (by omega)
  have w2 : e_w (j0 * 6 + nn) = j0 * 6 + nn := a_w_id (by omega) (by omega)
  have w3 : e_w (j0 * 6 + nn - 1) = j0 * 6 + nn - 1 := a_w_id (by omega) (by omega)
  unfold cu_cp
  clear hM hb hm i5 i0 h174 h12 hqq hnn
  revert t0 k b0
  generalize cu_sg P C c (n - 1) = z
  generalize C 0 = a
  intro t0 b0 k
  have w4 : e_w (c - a) = c - a := a_w_id (by omega) (by omega)
  rw [r_ent (show e_rok 13 [170, j0, c] = true from bx_r (M := M) rfl (by decide +kernel))]
  show e_tv E_C (E_V 13) e_t13_0 [170, j0, c, 0, 0, 0] M = _
  unfold e_t13_0
  rcases x_lt a c with ⟨c1, c1_n⟩ | ⟨c1, c1_n⟩
  · have c1' : 0 < c - a := by omega
    have c1'' : ¬ (c - a ≤ 0) := by omega
    have w5 : e_w (2 * (c - a)) = 2 * (c - a) := a_w_id (by omega) (by omega)
    rw [if_pos c1]
    rcases x_lt 10 (c - a) with ⟨c2, c2_n⟩ | ⟨c2, c2_n⟩
    · rw [if_pos c2]
      have c3 : 20 < 2 * (c - a) := by omega
      have w6 : e_w (-20) = -20 := a_w_id (by omega) (by omega)
      simp [e_tv, e_ev, e_sv, e_b1, e_b2, x_o1, x_o2, bx_Gf, w1, w4, w5, w6, t0, c1', c1'', c3]
    · rw [if_neg c2, show -2 * (c - a) = -(2 * (c - a)) by omega]
      have c3 : ¬ (20 < 2 * (c - a)) := by omega
      have w6 : e_w (-(2 * (c - a))) = -(2 * (c - a)) := a_w_id (by omega) (by omega)
      simp [e_tv, e_ev, e_sv, e_b1, e_b2, x_o1, x_o2, bx_Gf, w1, w4, w5, w6, t0, c1', c1'', c3]
  · have c1' : ¬ (0 < c - a) := by omega
    have c1'' : c - a ≤ 0 := by omega
    rw [if_neg c1]
    have k' := k (c - a)
    simp [e_tv, e_ev, e_sv, e_b1, e_b2, x_o1, x_o2, bx_Gf, bx_Gb, bx_G3, w_H0, w_P2, w1, w2, w3, w4, t0, t1, t2, c1', c1'', k']
end
