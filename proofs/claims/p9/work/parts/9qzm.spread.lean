/-! a PART spread out: exactly -/
section BXM
variable {M : EM} {g : Int → Int}
theorem bx_d1_cg {N : EM} {x n gr : Nat} (e : ∀ id, id < 162 → N id = M id) (h : hd_d1 M 0 g x n gr) : hd_d1 N 0 g x n gr := by
  unfold hd_d1 hd_mb at h ⊢
  rw [e (12 + 0) (by decide), e (14 + 0) (by decide), e (15 + 0) (by decide), e (16 + 0) (by decide), e (17 + 0) (by decide)]
  exact h
/-- a line is a CELL or a ROW -/
def bx_ok (M : EM) (g : Int → Int) (x : Int) : Prop := ∃ z : Nat, x = z ∧ (z : Int) < g 1198 ∧ (g (28 * (z : Int)) = 0 ∨ (g (28 * (z : Int)) = 1 ∧ ∃ n gr, hd_d1 M 0 g z n gr))
theorem bx_ok_ce {x : Int} (h40 : g 1198 ≤ 40) (h : bx_ok M g x) {k : Nat} (hk : k < bx_nc g x) : 0 ≤ bx_ce g x k ∧ bx_ce g x k < 40 := by
  obtain ⟨z, rfl, z2, z3⟩ := h
  rcases z3 with z3 | ⟨z3, n, gr, ⟨-, b1, -, -, -, -, b6⟩⟩
  · rw [show bx_ce g (z : Int) k = z from if_pos z3]
    omega
  · have kn : ¬ g (28 * (z : Int)) = 0 := by omega
    have e : bx_nc g (z : Int) = n := by
      unfold bx_nc
      rw [if_neg kn, b1, Int.toNat_natCast]
    rw [show bx_ce g (z : Int) k = g (28 * (z : Int) + 3 + (k : Int)) from if_neg kn]
    obtain ⟨⟨-, m2, m3, -, -⟩, -⟩ := b6 k (by omega)
    omega
theorem bx_ok_n {x : Int} (h : bx_ok M g x) : bx_ng g x ≤ bx_nc g x := by
  obtain ⟨z, rfl, z2, z3⟩ := h
  rcases z3 with z3 | ⟨z3, n, gr, ⟨⟨-, -, n3⟩, b1, -, b3, -, -, -⟩⟩
  · rw [show bx_ng g (z : Int) = 1 from if_pos z3, show bx_nc g (z : Int) = 1 from if_pos z3]
    exact Nat.le_refl _
  · have kn : ¬ g (28 * (z : Int)) = 0 := by omega
    unfold bx_ng bx_nc
    rw [if_neg kn, if_neg kn, b1, b3, Int.toNat_natCast, Int.toNat_natCast]
    exact n3
/-- CELLS of one ROW differ; of a ROW each is in it -/
theorem bx_ok_row {z k k' : Nat} (h : bx_ok M g (z : Int)) (hk : k < bx_nc g (z : Int)) (hk' : k' < bx_nc g (z : Int)) (e : bx_ce g (z : Int) k = bx_ce g (z : Int) k') : k = k' := by
  obtain ⟨z', z1, z2, z3⟩ := h
  have : z' = z := by omega
  subst this
  rcases z3 with z3 | ⟨z3, n, gr, ⟨-, b1, -, -, -, -, b6⟩⟩
  · rw [show bx_nc g (z' : Int) = 1 from if_pos z3] at hk hk'
    omega
  · have kn : ¬ g (28 * (z' : Int)) = 0 := by omega
    have e2 : bx_nc g (z' : Int) = n := by
      unfold bx_nc
      rw [if_neg kn, b1, Int.toNat_natCast]
    rw [show bx_ce g (z' : Int) k = g (28 * (z' : Int) + 3 + (k : Int)) from if_neg kn, show bx_ce g (z' : Int) k' = g (28 * (z' : Int) + 3 + (k' : Int)) from if_neg kn] at e
    rcases Nat.lt_trichotomy k k' with c | c | c
    · exact absurd e ((b6 k' (by omega)).1.2.2.2.2 k c)
    · exact c
    · exact absurd e.symm ((b6 k (by omega)).1.2.2.2.2 k' c)
theorem bx_ok_in {x : Int} (h : bx_ok M g x) {k : Nat} (hk : k < bx_nc g x) : (g (28 * x) = 0 ∧ bx_ce g x k = x) ∨ (g (28 * x) = 1 ∧ g (28 * bx_ce g x k + 1) = x + 1) := by
  obtain ⟨z, rfl, z2, z3⟩ := h
  rcases z3 with z3 | ⟨z3, n, gr, ⟨-, b1, -, -, -, -, b6⟩⟩
  · exact Or.inl ⟨z3, if_pos z3⟩
  · have kn : ¬ g (28 * (z : Int)) = 0 := by omega
    have e2 : bx_nc g (z : Int) = n := by
      unfold bx_nc
      rw [if_neg kn, b1, Int.toNat_natCast]
    rw [show bx_ce g (z : Int) k = g (28 * (z : Int) + 3 + (k : Int)) from if_neg kn]
    exact Or.inr ⟨z3, (b6 k (by omega)).1.2.2.2.1⟩
/-- of a PART that is no BOX: its lines, how many CELLS, how many GROUPS -/
theorem bx_lines (h40 : g 1198 ≤ 40) (hB : h_B M 0 g) (hD : hd_D M 0 g) {y : Nat} (hy : (y : Int) < g 1198) (hk : g (28 * (y : Int)) ≠ 3) : (1 ≤ cu_nl g (y : Int) ∧ cu_nl g (y : Int) ≤ 6) ∧ (∀ l, l < cu_nl g (y : Int) → bx_ok M g (cu_ln g (y : Int) l)) ∧ bx_oc g (cu_ln g (y : Int)) (cu_nl g (y : Int)) ≤ 40 ∧ bx_og g (cu_ln g (y : Int)) (cu_nl g (y : Int)) ≤ 40 := by
  obtain ⟨d0, d1, d2, d3⟩ := hD y hy
  obtain ⟨-, -, ⟨k0, k3⟩, -⟩ := hB.2.2 y hy
  by_cases c : g (28 * (y : Int)) = 2
  · obtain ⟨n, ⟨n1, n2⟩, b1, b2, b3, b4⟩ := d2 c
    have eL : cu_nl g (y : Int) = n := by
      unfold cu_nl
      rw [if_pos c, b1, Int.toNat_natCast]
    have eX : ∀ l : Nat, cu_ln g (y : Int) l = g (28 * (y : Int) + 3 + (l : Int)) := fun l => if_pos c
    rw [eL]
    have ok : ∀ l, l < n → bx_ok M g (cu_ln g (y : Int) l) := by
      intro l hl
      rw [eX l]
      obtain ⟨⟨m1, m2, m3, m4, m5⟩, m6⟩ := b4 l hl
      obtain ⟨z, hz⟩ : ∃ z : Nat, g (28 * (y : Int) + 3 + (l : Int)) = z := ⟨(g (28 * (y : Int) + 3 + (l : Int))).toNat, by omega⟩
      rw [hz] at m6 ⊢
      refine ⟨z, rfl, by omega, ?_⟩
      rcases m6 with m6 | m6
      · exact Or.inl m6
      · exact Or.inr ⟨m6, (hD z (by omega)).2.1 m6⟩
    have cap : bx_oc g (cu_ln g (y : Int)) n ≤ 40 := by
      refine bx_cap (fun l k hl hk => bx_ok_ce h40 (ok l hl) hk) (fun l k l' k' hl hk hl' hk' e => ?_)
      have o := ok l hl
      have o' := ok l' hl'
      have i1 := bx_ok_in o hk
      have i2 := bx_ok_in o' hk'
      obtain ⟨⟨m1, m2, m3, m4, m5⟩, m6⟩ := b4 l hl
      obtain ⟨⟨m1', m2', m3', m4', m5'⟩, m6'⟩ := b4 l' hl'
      rw [e] at i1
      rw [eX l] at i1 o hk e
      rw [eX l'] at i2 o' hk' e i1
      have xx : g (28 * (y : Int) + 3 + (l : Int)) = g (28 * (y : Int) + 3 + (l' : Int)) := by
        rcases i1 with ⟨i1, j1⟩ | ⟨i1, j1⟩
        · rcases i2 with ⟨i2, j2⟩ | ⟨i2, j2⟩
          · omega
          · rw [j1, m4] at j2
            omega
        · rcases i2 with ⟨i2, j2⟩ | ⟨i2, j2⟩
          · rw [j2, m4'] at j1
            omega
          · rw [j1] at j2
            omega
      have ll : l = l' := by
        rcases Nat.lt_trichotomy l l' with c2 | c2 | c2
        · exact absurd xx (m5' l c2)
        · exact c2
        · exact absurd xx.symm (m5 l' c2)
      subst ll
      refine ⟨rfl, ?_⟩
      obtain ⟨z, hz⟩ : ∃ z : Nat, g (28 * (y : Int) + 3 + (l : Int)) = z := ⟨(g (28 * (y : Int) + 3 + (l : Int))).toNat, by omega⟩
      rw [hz] at o hk hk' e
      exact bx_ok_row o hk hk' e
    refine ⟨⟨n1, n2⟩, ok, cap, ?_⟩
    have := bx_ogc (g := g) (X := cu_ln g (y : Int)) n (fun l hl => bx_ok_n (ok l hl))
    omega
  · have eL : cu_nl g (y : Int) = 1 := if_neg c
    have eX : ∀ l : Nat, cu_ln g (y : Int) l = y := fun l => if_neg c
    rw [eL]
    have oky : bx_ok M g (y : Int) := by
      refine ⟨y, rfl, hy, ?_⟩
      by_cases c0 : g (28 * (y : Int)) = 0
      · exact Or.inl c0
      · have c1 : g (28 * (y : Int)) = 1 := by omega
        exact Or.inr ⟨c1, d1 c1⟩
    have ok : ∀ l, l < 1 → bx_ok M g (cu_ln g (y : Int) l) := fun l _ => by rw [eX l]; exact oky
    have cap : bx_oc g (cu_ln g (y : Int)) 1 ≤ 40 := by
      refine bx_cap (fun l k hl hk => bx_ok_ce h40 (ok l hl) hk) (fun l k l' k' hl hk hl' hk' e => ?_)
      have e1 : l = l' := by omega
      subst e1
      rw [eX l] at e hk hk'
      exact ⟨rfl, bx_ok_row oky hk hk' e⟩
    refine ⟨⟨by decide, by decide⟩, ok, cap, ?_⟩
    have := bx_ogc (g := g) (X := cu_ln g (y : Int)) 1 (fun l hl => bx_ok_n (ok l hl))
    omega
/-- one line more -/
theorem bx_add {N : EM} {X : Nat → Int} {i : Nat} (hB : h_B M 0 g) (hS : bx_SP g M N X i) (h6 : i < 6) (ok : bx_ok M g (X i)) (hj : bx_oc g X (i + 1) ≤ 40) (hg : bx_og g X (i + 1) ≤ 40) : ∃ N', E_C 4 [170, X i] N = some (0, N') ∧ bx_SP g M N' X (i + 1) ∧ N' 170 7 = N 170 7 := by
  obtain ⟨z, z1, z2, z3⟩ := ok
  have e : ∀ id, id < 162 → N id = M id := fun id hid => funext fun k => hS.2.2.2.2.2.2.2.1 _ _ (by omega)
  have h40 := hB.2.1.2
  have zz : z3 = z3 := rfl
  rw [z1]
  obtain ⟨N', s1, s2⟩ := bx_4 (g := g) (M := N) (x := z) (j0 := bx_oc g X i) (g0 := bx_og g X i) (l0 := i) (x0 := (z : Int)) rfl (by omega) (by rw [e 11 (by decide)]; exact (hB.2.2 z z2).1) (by
    rcases z3 with z3 | ⟨z3, n, gr, z4⟩
    · exact Or.inl z3
    · exact Or.inr ⟨z3, n, gr, bx_d1_cg e z4⟩) hS.1 hS.2.1 hS.2.2.1 h6 (by rw [← z1]; exact hj) (by rw [← z1]; exact hg) hS.2.2.2.2.2.2.1
  rw [← z1] at s2
  exact ⟨N', s1, bx_SPs hS s2, s2.2.2.2.2.2.2.2.1 7 (by decide) (by decide) (by decide)⟩
theorem bx_loop {y n : Nat} {p0 x3 y0 n0 : Int} (hy0 : y0 = y) (hn0 : n0 = n) (hB : h_B M 0 g) (hd : hd_d2 M 0 g y n) (hk : g (28 * (y : Int)) = 2) (hy40 : y < 40) (ok : ∀ l, l < n → bx_ok M g (cu_ln g (y : Int) l)) (hj : bx_oc g (cu_ln g (y : Int)) n ≤ 40) (hg : bx_og g (cu_ln g (y : Int)) n ≤ 40) : ∀ (d i : Nat) (i0 : Int) (N : EM), i0 = i → i + d = n → bx_SP g M N (cu_ln g (y : Int)) i → ∃ N', E_V 1 101 [170, p0, 10, x3, y0, n0, i0] N = some (0, N') ∧ bx_SP g M N' (cu_ln g (y : Int)) n ∧ N' 170 7 = N 170 7 := by
  obtain ⟨⟨n1, n6⟩, b1, b2, b3, b4⟩ := hd
  intro d
  induction d with
  | zero =>
    intro i i0 N hi hd hS
    have e : i = n := by omega
    subst e
    have q : ¬ (i0 < n0) := by omega
    refine ⟨N, ?_, hS, rfl⟩
    rw [E_V_eq]
    show e_tv E_C (E_V 1) e_t1_101 [170, p0, 10, x3, y0, n0, i0] N = _
    unfold e_t1_101
    simp [e_tv, e_ev, e_sv, e_b1, e_b2, x_o1, x_o2, q]
  | succ d ih =>
    intro i i0 N hi hd hS
    have q : i0 < n0 := by omega
    have m1 := bx_oc_m (g := g) (X := cu_ln g (y : Int)) (n - (i + 1)) (i + 1)
    have m2 := bx_og_m (g := g) (X := cu_ln g (y : Int)) (n - (i + 1)) (i + 1)
    rw [show i + 1 + (n - (i + 1)) = n by omega] at m1 m2
    obtain ⟨N1, s1, s2, s3⟩ := bx_add hB hS (by omega) (ok i (by omega)) (by omega) (by omega)
    obtain ⟨N', k, k2, k3⟩ := ih (i + 1) (i0 + 1) N1 (by omega) (by omega) s2
    refine ⟨N', ?_, k2, k3.trans s3⟩
    have ex : cu_ln g (y : Int) i = g (28 * (y : Int) + 3 + (i : Int)) := if_pos hk
    have t := w_atN (a := 15) (i := y0 * 8 + i0) (n := 320) (by decide +kernel) (j := 8 * y + i) (by omega) (by omega) N
    have t' : E_C 146 [15, y0 * 8 + i0] N = some (cu_ln g (y : Int) i, N) := t.trans (by rw [show N (15 : Int).toNat (8 * y + i) = M (15 + 0) (8 * y + i) from hS.2.2.2.2.2.2.2.1 _ _ (by omega), (b4 i (by omega)).1.1, ex])
    have w1 : e_w (y0 * 8) = y0 * 8 := a_w_id (by omega) (by omega)
    have w2 : e_w (y0 * 8 + i0) = y0 * 8 + i0 := a_w_id (by omega) (by omega)
    have w4 : e_w (i0 + 1) = i0 + 1 := a_w_id (by omega) (by omega)
    rw [E_V_eq]
    show e_tv E_C (E_V 1) e_t1_101 [170, p0, 10, x3, y0, n0, i0] N = _
    unfold e_t1_101
    simp [e_tv, e_ev, e_sv, e_b1, e_b2, x_o1, x_o2, w_P5, q, w1, w2, w4, t', s1, k]
/-- the bench cleared -/
theorem bx_SP0 {b : Int} {X : Nat → Int} (h171 : M 171 0 = 0) : bx_SP g M (e_up (bx_cl M) 170 7 b) X 0 := by
  have cl : ∀ id k, ¬ (id = 172) → ¬ (id = 170) → bx_cl M id k = M id k := fun id k h1 h2 => by
    unfold bx_cl bx_fl
    rw [if_neg (fun e => h1 e.1), c_up_n (fun e => h2 e.1), c_up_n (fun e => h2 e.1), c_up_n (fun e => h2 e.1)]
  have c170 : ∀ k, bx_cl M 170 k = e_up (e_up (e_up M 170 0 0) 170 4 0) 170 5 0 170 k := fun k => by
    unfold bx_cl bx_fl
    exact if_neg (fun e => absurd e.1 (by decide))
  refine ⟨?_, ?_, ?_, fun l hl => ?_, fun l k hl => absurd hl (Nat.not_lt_zero _), fun l k hl => absurd hl (Nat.not_lt_zero _), fun y _ hy => ?_, fun id k h => ?_, fun k h0 h4 h5 h7 => ?_⟩
  · rw [c_up_n (by omega), c170, c_up_n (by omega), c_up_n (by omega), c_up_s]; rfl
  · rw [c_up_n (by omega), c170, c_up_n (by omega), c_up_s]; rfl
  · rw [c_up_n (by omega), c170, c_up_s]; rfl
  · have e : l = 0 := by omega
    subst e
    rw [c_up_n (by omega), cl _ _ (by decide) (by decide)]
    exact h171
  · rw [c_up_n (by omega)]
    exact if_pos ⟨rfl, Nat.zero_le _, hy⟩
  · rw [c_up_n (by omega)]
    exact cl _ _ (by omega) (by omega)
  · rw [c_up_n (by omega), c170, c_up_n (by omega), c_up_n (by omega), c_up_n (by omega)]
/-- a PART spread out -/
theorem bx_1 {p : Nat} (hB : h_B M 0 g) (hD : hd_D M 0 g) (hp : (p : Int) < g 1198) (h171 : M 171 0 = 0) : ∃ M', E_C 1 [170, (p : Int)] M = some (0, M') ∧ bx_SP g M M' (cu_ln g (cu_in g (p : Int))) (cu_nl g (cu_in g (p : Int))) ∧ M' 170 7 = (if g (28 * cu_in g (p : Int)) = 2 then 1 else 0) := by
  have h40 := hB.2.1.2
  obtain ⟨p0, hp0⟩ : ∃ p0 : Int, (p : Int) = p0 := ⟨_, rfl⟩
  obtain ⟨b1, -, ⟨b3, b4⟩, -⟩ := hB.2.2 p hp
  have b1 : M 11 p = g (28 * (p : Int)) := b1
  obtain ⟨-, -, -, d3⟩ := hD p hp
  -- the inner PART
  have inn : ∃ y : Nat, cu_in g (p : Int) = y ∧ (y : Int) < g 1198 ∧ g (28 * (y : Int)) ≠ 3 ∧ (g (28 * (p : Int)) = 3 → M 15 (8 * p) = y) ∧ (g (28 * (p : Int)) ≠ 3 → y = p) := by
    by_cases c : g (28 * (p : Int)) = 3
    · obtain ⟨⟨c1, c2, c3, ⟨m1, m2, m3, m4, m5⟩, c5⟩, -⟩ := d3 c
      have e0 : (28 * (p : Int) + 3 + ((0 : Nat) : Int)) = 28 * (p : Int) + 3 := by omega
      rw [e0] at m1 m2 m3 c5
      obtain ⟨y, hy⟩ : ∃ y : Nat, g (28 * (p : Int) + 3) = y := ⟨(g (28 * (p : Int) + 3)).toNat, by omega⟩
      refine ⟨y, ?_, by omega, by rw [← hy]; exact c5, fun _ => ?_, fun h => absurd c h⟩
      · unfold cu_in
        rw [if_pos c, hy]
      · rw [← hy]
        exact m1
    · refine ⟨p, ?_, hp, c, fun h => absurd h c, fun _ => rfl⟩
      unfold cu_in
      rw [if_neg c]
  obtain ⟨y, hy, y1, y3, y4, y5⟩ := inn
  rw [hy]
  obtain ⟨⟨l1, l6⟩, ok, cap, capg⟩ := bx_lines h40 hB hD y1 y3
  have y40 : y < 40 := by omega
  have p40 : p < 40 := by omega
  obtain ⟨y0, hy0⟩ : ∃ y0 : Int, (y : Int) = y0 := ⟨_, rfl⟩
  obtain ⟨c1, -, -, -⟩ := hB.2.2 y y1
  have c1 : M 11 y = g (28 * (y : Int)) := c1
  obtain ⟨b, hb⟩ : ∃ b : Int, (if g (28 * (y : Int)) = 2 then (1 : Int) else 0) = b := ⟨_, rfl⟩
  rw [hb]
  obtain ⟨Z, hZ⟩ : ∃ Z, bx_cl M = Z := ⟨_, rfl⟩
  have S0 := bx_SP0 (g := g) (b := b) (X := cu_ln g (y : Int)) h171
  rw [hZ] at S0
  have fZ : ∀ id k, ¬ (170 ≤ id ∧ id ≤ 176) → Z id k = M id k := fun id k h => (by
    have := S0.2.2.2.2.2.2.2.1 id k h
    rw [c_up_n (by omega)] at this
    exact this)
  have t11 := fun (j : Nat) (j0 : Int) (h : j0 = j) (h2 : j < 40) => (w_atN (a := 11) (i := j0) (n := 40) (by decide +kernel) (j := j) h h2 Z).trans (by rw [show Z (11 : Int).toNat j = M 11 j from fZ _ _ (by omega)])
  have tp := t11 p p0 hp0.symm p40
  have ty := t11 y y0 hy0.symm y40
  rw [b1] at tp
  rw [c1] at ty
  have cl : E_C 3 [170] M = some (0, Z) := by rw [← hZ]; exact bx_clear M
  have w1 : e_w (p0 * 8) = p0 * 8 := a_w_id (by omega) (by omega)
  have t15 : g (28 * (p : Int)) = 3 → E_C 146 [15, p0 * 8] Z = some (y0, Z) := fun h => by
    have t := w_atN (a := 15) (i := p0 * 8) (n := 320) (by decide +kernel) (j := 8 * p) (by omega) (by omega) Z
    exact t.trans (by rw [show Z (15 : Int).toNat (8 * p) = M 15 (8 * p) from fZ _ _ (by omega), y4 h, hy0])
  -- what stands behind the choice of the inner PART
  have go : ∀ x3 : Int, ∃ M', (if b = 0 then (E_C 4 [170, y0] (e_up Z 170 7 b)).bind (fun r => some (0, r.2)) else (E_C 146 [14, y0] (e_up Z 170 7 b)).bind (fun r => E_V 1 101 [170, p0, 10, x3, y0, r.1, 0] r.2)) = some (0, M') ∧ bx_SP g M M' (cu_ln g (y : Int)) (cu_nl g (y : Int)) ∧ M' 170 7 = b := by
    intro x3
    by_cases c : g (28 * (y : Int)) = 2
    · rw [if_pos c] at hb
      obtain ⟨n, hd⟩ := (hD y y1).2.2.1 c
      have eL : cu_nl g (y : Int) = n := by
        unfold cu_nl
        rw [if_pos c, hd.2.1, Int.toNat_natCast]
      rw [eL] at ok cap capg ⊢
      obtain ⟨N', k, k2, k3⟩ := bx_loop (p0 := p0) (x3 := x3) (y0 := y0) (n0 := (n : Int)) hy0.symm rfl hB hd c y40 ok cap capg n 0 0 _ rfl (by omega) S0
      refine ⟨N', ?_, k2, k3.trans c_up_s⟩
      have t14 := w_atN (a := 14) (i := y0) (n := 40) (by decide +kernel) (j := y) hy0.symm y40 (e_up Z 170 7 b)
      have t14' : E_C 146 [14, y0] (e_up Z 170 7 b) = some ((n : Int), e_up Z 170 7 b) := t14.trans (by rw [show (e_up Z 170 7 b) (14 : Int).toNat y = M (14 + 0) y from (c_up_n (by omega)).trans (fZ _ _ (by omega)), hd.2.2.1])
      rw [if_neg (by omega), t14']
      exact k
    · rw [if_neg c] at hb
      have eL : cu_nl g (y : Int) = 1 := if_neg c
      have eX : cu_ln g (y : Int) 0 = y := if_neg c
      rw [eL] at ok cap capg ⊢
      obtain ⟨N', s1, s2, s3⟩ := bx_add hB S0 (by decide) (ok 0 (by decide)) cap capg
      refine ⟨N', ?_, s2, s3.trans c_up_s⟩
      rw [eX, hy0] at s1
      rw [if_pos hb.symm, s1]
      rfl
  rw [hp0]
  by_cases c3 : g (28 * (p : Int)) = 3
  · obtain ⟨M', m1, m2, m3⟩ := go 1
    refine ⟨M', ?_, m2, m3⟩
    have t15' := t15 c3
    rw [c3] at tp
    rw [r_ent (show e_rok 1 [170, p0] = true from bx_r (M := M) rfl (by decide +kernel))]
    show e_tv E_C (E_V 1) e_t1_0 [170, p0, 0, 0, 0, 0, 0] M = _
    unfold e_t1_0
    by_cases c : g (28 * (y : Int)) = 2
    · rw [if_pos c] at hb
      subst hb
      rw [if_neg (by decide)] at m1
      rw [c] at ty
      cases h14 : E_C 146 [14, y0] (e_up Z 170 7 1) with
      | none => rw [h14] at m1; cases m1
      | some r =>
        rw [h14] at m1
        have m1' : E_V 1 101 [170, p0, 10, 1, y0, r.1, 0] r.2 = some (0, M') := m1
        simp [e_tv, e_ev, e_sv, e_b1, e_b2, x_o1, x_o2, bx_G3, bx_F7, bx_P7, w_H0, w_P1, w_P4, w_P5, cl, tp, t15', ty, w1, h14, m1', c_up_s]
    · rw [if_neg c] at hb
      subst hb
      rw [if_pos rfl] at m1
      cases h4 : E_C 4 [170, y0] (e_up Z 170 7 0) with
      | none => rw [h4] at m1; cases m1
      | some r =>
        rw [h4] at m1
        have m1' : r.2 = M' := (Prod.mk.inj (Option.some.inj m1)).2
        simp [e_tv, e_ev, e_sv, e_b1, e_b2, x_o1, x_o2, bx_G3, bx_F7, bx_P7, w_H0, w_P1, w_P5, cl, tp, t15', ty, c, w1, h4, m1', c_up_s]
  · obtain ⟨M', m1, m2, m3⟩ := go 0
    refine ⟨M', ?_, m2, m3⟩
    have e := y5 c3
    have ey : y0 = p0 := by omega
    rw [ey] at m1 ty
    rw [r_ent (show e_rok 1 [170, p0] = true from bx_r (M := M) rfl (by decide +kernel))]
    show e_tv E_C (E_V 1) e_t1_0 [170, p0, 0, 0, 0, 0, 0] M = _
    unfold e_t1_0
    by_cases c : g (28 * (y : Int)) = 2
    · rw [if_pos c] at hb
      subst hb
      rw [if_neg (by decide)] at m1
      rw [c] at ty
      cases h14 : E_C 146 [14, p0] (e_up Z 170 7 1) with
      | none => rw [h14] at m1; cases m1
      | some r =>
        rw [h14] at m1
        have m1' : E_V 1 101 [170, p0, 10, 0, p0, r.1, 0] r.2 = some (0, M') := m1
        simp [e_tv, e_ev, e_sv, e_b1, e_b2, x_o1, x_o2, bx_G3, bx_F7, bx_P7, w_H0, w_P1, w_P4, cl, ty, h14, m1', c_up_s]
    · rw [if_neg c] at hb
      subst hb
      rw [if_pos rfl] at m1
      rw [e] at c ty
      cases h4 : E_C 4 [170, p0] (e_up Z 170 7 0) with
      | none => rw [h4] at m1; cases m1
      | some r =>
        rw [h4] at m1
        have m1' : r.2 = M' := (Prod.mk.inj (Option.some.inj m1)).2
        simp [e_tv, e_ev, e_sv, e_b1, e_b2, x_o1, x_o2, bx_G3, bx_F7, bx_P7, w_H0, w_P1, cl, ty, c3, c, h4, m1', c_up_s]
end BXM
