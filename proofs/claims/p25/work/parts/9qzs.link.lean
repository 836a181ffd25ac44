section
/-! the bench and the reference's PARTS: one PUSH, one CURRENT -/
section BXL
variable {g : Int → Int} {SH WM : Int → Int} {DI : Int → Nat → Int}
/-- the bench, drawn: lines X -/
def bx_RD (g : Int → Int) (SH WM : Int → Int) (DI : Int → Nat → Int) (X : Nat → Int) (L : Nat) (B : EM) : Prop := B 170 5 = (L : Int) ∧ (∀ l, l ≤ L → B 171 l = (bx_oc g X l : Int)) ∧ (∀ l k, l < L → k < bx_nc g (X l) → B 173 (bx_oc g X l + k) = (bx_og g X l : Int) + bx_gr g (X l) k ∧ ∀ c : Nat, c < 100 → B 179 (40 * c + (bx_oc g X l + k)) = cu_v g SH WM (bx_ce g (X l) k) (c : Int)) ∧ ∀ l y, l < L → y < bx_ng g (X l) → B 172 (bx_og g X l + y) = if g (28 * X l) = 0 then 0 else DI (X l) y
theorem bx_lowp {M : EM} {X : Nat → Int} {L l : Nat} {B : EM} {l0 base cc : Int} {b : Nat} (ok : bx_ok M g (X l)) (hl : l < L) (hL6 : L ≤ 6) (hl0 : l0 = l) (hoc : bx_oc g X L ≤ 40) (hog : bx_og g X L ≤ 40) (h171 : ∀ l, l ≤ L → B 171 l = (bx_oc g X l : Int)) (h173 : ∀ k, k < bx_nc g (X l) → B 173 (bx_oc g X l + k) = (bx_og g X l : Int) + bx_gr g (X l) k) (h172 : ∀ y, y < bx_ng g (X l) → B 172 (bx_og g X l + y) = if g (28 * X l) = 0 then 0 else DI (X l) y) (hb : base = b) (hb4 : b + 40 ≤ 4040) (h179 : ∀ k, k < bx_nc g (X l) → B 179 (b + (bx_oc g X l + k)) = cu_v g SH WM (bx_ce g (X l) k) cc) (hv : ∀ k, k < bx_nc g (X l) → -20 ≤ cu_v g SH WM (bx_ce g (X l) k) cc ∧ cu_v g SH WM (bx_ce g (X l) k) cc ≤ 60) : E_C 15 [170, l0, base] B = some (cu_low g SH WM DI (X l) cc, B) := by
  have m1 := bx_oc_m (g := g) (X := X) (L - (l + 1)) (l + 1)
  have m2 := bx_og_m (g := g) (X := X) (L - (l + 1)) (l + 1)
  rw [show l + 1 + (L - (l + 1)) = L by omega] at m1 m2
  have m1 : bx_oc g X l + bx_nc g (X l) ≤ bx_oc g X L := m1
  have m2 : bx_og g X l + bx_ng g (X l) ≤ bx_og g X L := m2
  obtain ⟨z, z1, z2, z3⟩ := ok
  have a1 := h171 l (by omega)
  have a2 := h171 (l + 1) hl
  have a2 : B 171 (l + 1) = ((bx_oc g X l + bx_nc g (X l) : Nat) : Int) := a2
  rcases z3 with z3 | ⟨z3, n, gr, ⟨⟨n1, n8, ngr⟩, b1, b2, b3, b4, b5, b6⟩⟩
  · have k0 : g (28 * X l) = 0 := by rw [z1]; exact z3
    have en : bx_nc g (X l) = 1 := if_pos k0
    have eg : bx_ng g (X l) = 1 := if_pos k0
    rw [en] at a2 m1 h173 h179 hv
    rw [eg] at m2 h172
    have k := bx_15 (l0 := l0) (base := base) (G := fun _ => 0) (n := 1) (gr := 1) hl0 (by omega) a1 a2 (by omega) (show bx_og g X l + 1 ≤ 40 by omega) hb hb4 (by decide) (by decide) ⟨fun e => absurd e (by decide), fun _ => ⟨rfl, by decide⟩, fun j hj => absurd hj (by omega)⟩ (fun k hk => by
      rw [h173 k hk, show bx_gr g (X l) k = 0 from if_pos k0]) (fun k hk => by
      rw [h179 k hk]
      have := hv k hk
      omega)
    rw [k]
    refine congrArg some (congrArg (·, B) ?_)
    unfold cu_low
    rw [if_pos k0]
    show 0 + cu_cl (B 172 (bx_og g X l + 0)) (0 + (if (0 : Int) = ((0 : Nat) : Int) then B 179 (b + (bx_oc g X l + 0)) else 0)) = _
    rw [h172 0 (by decide), if_pos k0, h179 0 (by decide), if_pos (show (0 : Int) = ((0 : Nat) : Int) from rfl), show bx_ce g (X l) 0 = X l from if_pos k0, Int.zero_add, Int.zero_add]
    exact if_neg (fun e => e.1 rfl)
  · have kn : ¬ g (28 * X l) = 0 := by rw [z1]; omega
    have en : bx_nc g (X l) = n := by
      unfold bx_nc
      rw [if_neg kn, z1, b1, Int.toNat_natCast]
    have eg : bx_ng g (X l) = gr := by
      unfold bx_ng
      rw [if_neg kn, z1, b3, Int.toNat_natCast]
    rw [en] at a2 m1 h173 h179 hv
    rw [eg] at m2 h172
    have k := bx_15 (l0 := l0) (base := base) (G := fun k => g (28 * (z : Int) + 11 + (k : Int))) (n := n) (gr := gr) hl0 (by omega) a1 a2 (by omega) (show bx_og g X l + gr ≤ 40 by omega) hb hb4 n8 (by omega) b5 (fun k hk => by
      rw [h173 k hk, show bx_gr g (X l) k = g (28 * X l + 11 + (k : Int)) from if_neg kn, z1]) (fun k hk => by
      rw [h179 k hk]
      have := hv k hk
      omega)
    rw [k]
    refine congrArg some (congrArg (·, B) ?_)
    unfold cu_low
    rw [if_neg kn, z1, b1, b3, Int.toNat_natCast, Int.toNat_natCast]
    refine cu_R_cg (fun k hk => ⟨rfl, ?_⟩) gr (fun y hy => ?_)
    · show B 179 (b + (bx_oc g X l + k)) = _
      rw [h179 k hk, show bx_ce g (X l) k = g (28 * X l + 3 + (k : Int)) from if_neg kn, z1]
    · show B 172 (bx_og g X l + y) = _
      rw [h172 y hy, if_neg kn, z1]
theorem bx_lowm {M : EM} {x : Int} (ok : bx_ok M g x) (hv : ∀ k, k < bx_nc g x → ∀ c : Int, 0 ≤ c → cu_v g SH WM (bx_ce g x k) (c + 1) ≤ cu_v g SH WM (bx_ce g x k) c) {c : Int} (hc : 0 ≤ c) : cu_low g SH WM DI x (c + 1) ≤ cu_low g SH WM DI x c := by
  obtain ⟨z, rfl, z2, z3⟩ := ok
  unfold cu_low
  rcases z3 with z3 | ⟨z3, n, gr, ⟨-, b1, -, b3, -, -, b6⟩⟩
  · rw [if_pos z3, if_pos z3]
    have := hv 0 (by rw [show bx_nc g (z : Int) = 1 from if_pos z3]; decide) c hc
    rw [show bx_ce g (z : Int) 0 = z from if_pos z3] at this
    exact this
  · have kn : ¬ g (28 * (z : Int)) = 0 := by omega
    have en : bx_nc g (z : Int) = n := by
      unfold bx_nc
      rw [if_neg kn, b1, Int.toNat_natCast]
    rw [if_neg kn, if_neg kn]
    refine cu_R_mono (fun k hk => ?_) _
    rw [b1, Int.toNat_natCast] at hk
    have := hv k (by omega) c hc
    rw [show bx_ce g (z : Int) k = g (28 * (z : Int) + 3 + (k : Int)) from if_neg kn] at this
    exact this
/-- SHARES and WARMS in their bounds, for CELLS -/
def bx_bd (g : Int → Int) (SH WM : Int → Int) : Prop := ∀ q : Nat, (q : Int) < g 1198 → g (28 * (q : Int)) = 0 → (0 ≤ SH q ∧ SH q ≤ 100) ∧ 0 ≤ WM q ∧ WM q ≤ 100
theorem bx_vbd {M : EM} {x : Int} (hD : hd_D M 0 g) (hbd : bx_bd g SH WM) (ok : bx_ok M g x) {k : Nat} (hk : k < bx_nc g x) {c : Int} (hc : 0 ≤ c) : (-20 ≤ cu_v g SH WM (bx_ce g x k) c ∧ cu_v g SH WM (bx_ce g x k) c ≤ 60) ∧ cu_v g SH WM (bx_ce g x k) (c + 1) ≤ cu_v g SH WM (bx_ce g x k) c := by
  obtain ⟨z, rfl, z2, z3⟩ := ok
  have cell : ∀ q : Nat, (q : Int) < g 1198 → g (28 * (q : Int)) = 0 → (-20 ≤ cu_v g SH WM (q : Int) c ∧ cu_v g SH WM (q : Int) c ≤ 60) ∧ cu_v g SH WM (q : Int) (c + 1) ≤ cu_v g SH WM (q : Int) c := fun q h1 h2 => cu_v_bd ((hD q h1).1 h2).1 (hbd q h1 h2).1 (hbd q h1 h2).2 hc
  rcases z3 with z3 | ⟨z3, n, gr, ⟨-, b1, -, b3, -, -, b6⟩⟩
  · rw [show bx_ce g (z : Int) k = z from if_pos z3]
    exact cell z z2 z3
  · have kn : ¬ g (28 * (z : Int)) = 0 := by omega
    have en : bx_nc g (z : Int) = n := by
      unfold bx_nc
      rw [if_neg kn, b1, Int.toNat_natCast]
    obtain ⟨⟨m1, m2, m3, -, -⟩, c2, -⟩ := b6 k (by omega)
    rw [show bx_ce g (z : Int) k = g (28 * (z : Int) + 3 + (k : Int)) from if_neg kn]
    obtain ⟨q, hq⟩ : ∃ q : Nat, g (28 * (z : Int) + 3 + (k : Int)) = q := ⟨(g (28 * (z : Int) + 3 + (k : Int))).toNat, by omega⟩
    rw [hq] at c2 ⊢
    exact cell q (by omega) c2
theorem bx_RD_FL {M B : EM} {X : Nat → Int} {L : Nat} (hD : hd_D M 0 g) (hbd : bx_bd g SH WM) (ok : ∀ l, l < L → bx_ok M g (X l)) (hL6 : L ≤ 6) (hoc : bx_oc g X L ≤ 40) (hog : bx_og g X L ≤ 40) (h : bx_RD g SH WM DI X L B) : bx_FL B (fun l c => cu_low g SH WM DI (X l) (c : Int)) L := by
  obtain ⟨r1, r2, r3, r4⟩ := h
  intro l c l0 b0 N hl hc hl0 hb0 hN
  have e : ∀ id k, id = 171 ∨ id = 172 ∨ id = 173 ∨ id = 179 → N id k = B id k := fun id k h => hN id k (by omega) (by omega) (by omega)
  exact bx_lowp (M := M) (b := 40 * c) (ok l hl) hl hL6 hl0 hoc hog (fun l h => (e _ _ (by omega)).trans (r2 l h)) (fun k hk => (e _ _ (by omega)).trans (r3 l k hl hk).1) (fun y hy => (e _ _ (by omega)).trans (r4 l y hl hy)) (by omega) (by omega) (fun k hk => (e _ _ (by omega)).trans ((r3 l k hl hk).2 c hc)) (fun k hk => (bx_vbd hD hbd (ok l hl) hk (by omega)).1)
/-- CURRENTS of a bench that is drawn, from lo to hi -/
theorem bx_cur {M B : EM} {X : Nat → Int} {L n : Nat} {lo hi : Int} (hD : hd_D M 0 g) (hbd : bx_bd g SH WM) (ok : ∀ l, l < L → bx_ok M g (X l)) (hL6 : L ≤ 6) (hoc : bx_oc g X L ≤ 40) (hog : bx_og g X L ≤ 40) (h : bx_RD g SH WM DI X L B) (hlo : -1000 ≤ lo ∧ lo ≤ 1000) (hn : hi - lo + 1 = n) (hn9 : n ≤ 1000) : ∃ M', E_C 17 [170, lo, hi] B = some (0, M') ∧ M' 170 6 = lo ∧ (∀ k, k < n → M' 181 k = cu_S (fun l c => cu_low g SH WM DI (X l) (c : Int)) (lo + (k : Int)) L) ∧ ∀ id k, id ≠ 180 → id ≠ 181 → ¬ (id = 170 ∧ k = 6) → M' id k = B id k :=
  bx_17 h.1 hL6 hlo hn hn9 (bx_RD_FL hD hbd ok hL6 hoc hog h) (fun l hl c hc => by
    have := bx_lowm (DI := DI) (ok l hl) (fun k hk c hc => (bx_vbd hD hbd (ok l hl) hk hc).2) (c := (c : Int)) (by omega)
    show cu_low g SH WM DI (X l) ((c + 1 : Nat) : Int) ≤ _
    rw [show ((c + 1 : Nat) : Int) = (c : Int) + 1 by omega]
    exact this)
/-- all drawn: from what is known of the CELLS on the bench -/
theorem bx_draw {M N : EM} {X : Nat → Int} {L : Nat} (h40 : g 1198 ≤ 40) (hD : hd_D M 0 g) (e : ∀ id, id < 162 → N id = M id) (hoc : bx_oc g X L ≤ 40) (hk : ∀ j, j < bx_oc g X L → bx_kn g SH WM N j) (h0 : N 170 0 = (bx_oc g X L : Int)) (h5 : N 170 5 = (L : Int)) (h171 : ∀ l, l ≤ L → N 171 l = (bx_oc g X l : Int)) (h174 : ∀ l k, l < L → k < bx_nc g (X l) → N 174 (bx_oc g X l + k) = bx_ce g (X l) k ∧ N 173 (bx_oc g X l + k) = (bx_og g X l : Int) + bx_gr g (X l) k) (h172 : ∀ l y, l < L → y < bx_ng g (X l) → N 172 (bx_og g X l + y) = if g (28 * X l) = 0 then 0 else DI (X l) y) : ∃ M', E_C 11 [170] N = some (0, M') ∧ bx_RD g SH WM DI X L M' ∧ ∀ id k, ¬ (177 ≤ id ∧ id ≤ 179) → M' id k = N id k := by
  obtain ⟨M', k, k2, k3⟩ := bx_11 (n := bx_oc g X L) h0 hoc h40 (fun q hq h0 => bx_d0_cg e ((hD q hq).1 h0)) hk
  refine ⟨M', k, ⟨(k3 _ _ (by decide)).trans h5, fun l hl => (k3 _ _ (by decide)).trans (h171 l hl), fun l k' hl hk' => ⟨(k3 _ _ (by decide)).trans (h174 l k' hl hk').2, fun c hc => ?_⟩, fun l y hl hy => (k3 _ _ (by decide)).trans (h172 l y hl hy)⟩, k3⟩
  have m1 := bx_oc_m (g := g) (X := X) (L - (l + 1)) (l + 1)
  rw [show l + 1 + (L - (l + 1)) = L by omega] at m1
  have m1 : bx_oc g X l + bx_nc g (X l) ≤ bx_oc g X L := m1
  rw [k2 _ c (by omega) hc, (h174 l k' hl hk').1]
/-! how things stand as told -/
def hd_SH (g : Int → Int) (q : Int) : Int := if g (28 * q + 19) = 0 then (g (28 * q + 15) * (100 - g (28 * q + 16)) * (100 - g (28 * q + 17))).tdiv 10000 else 0
def hd_WM (g : Int → Int) (q : Int) : Int := g (28 * q + 18)
def hd_DI (g : Int → Int) (q : Int) (y : Nat) : Int := if g (28 * q + 20 + (y : Int)) = 1 then 1 else 0
theorem hd_bd {M : EM} (hC : h_C M 0 g) : bx_bd g (hd_SH g) (hd_WM g) := by
  intro q hq hk
  obtain ⟨c1, c2, -⟩ := hC q hq hk
  have a0 := c1 0 (by decide)
  have a1 := c1 1 (by decide)
  have a2 := c1 2 (by decide)
  have a3 := c1 3 (by decide)
  rw [show 28 * (q : Int) + 15 + ((0 : Nat) : Int) = 28 * (q : Int) + 15 by omega] at a0
  rw [show 28 * (q : Int) + 15 + ((1 : Nat) : Int) = 28 * (q : Int) + 16 by omega] at a1
  rw [show 28 * (q : Int) + 15 + ((2 : Nat) : Int) = 28 * (q : Int) + 17 by omega] at a2
  rw [show 28 * (q : Int) + 15 + ((3 : Nat) : Int) = 28 * (q : Int) + 18 by omega] at a3
  refine ⟨?_, a3.2⟩
  unfold hd_SH
  by_cases z : g (28 * (q : Int) + 19) = 0
  · rw [if_pos z]
    exact (bx_shv a0.2 a1.2 a2.2).2
  · rw [if_neg z]
    decide
/-- a CELL on the bench, as told -/
theorem hd_kn {M N : EM} {j q : Nat} (hC : h_C M 0 g) (hq : (q : Int) < g 1198) (hk : g (28 * (q : Int)) = 0) {y : Int} (hc : bx_cell M N j q y) : bx_kn g (hd_SH g) (hd_WM g) N j := by
  obtain ⟨c1, c2, -⟩ := hC q hq hk
  obtain ⟨d1, d2, d3, d4⟩ := hc
  have f : ∀ a, a < 4 → N 175 (4 * j + a) = g (28 * (q : Int) + 15 + (a : Int)) ∧ 0 ≤ g (28 * (q : Int) + 15 + (a : Int)) ∧ g (28 * (q : Int) + 15 + (a : Int)) ≤ 100 := fun a ha => by
    obtain ⟨z1, z2⟩ := c1 a ha
    exact ⟨(d4 a ha).trans z1, z2⟩
  have a0 := (f 0 (by decide)).1
  have a1 := (f 1 (by decide)).1
  have a2 := (f 2 (by decide)).1
  have a3 := (f 3 (by decide)).1
  rw [show 28 * (q : Int) + 15 + ((0 : Nat) : Int) = 28 * (q : Int) + 15 by omega, Nat.add_zero] at a0
  rw [show 28 * (q : Int) + 15 + ((1 : Nat) : Int) = 28 * (q : Int) + 16 by omega] at a1
  rw [show 28 * (q : Int) + 15 + ((2 : Nat) : Int) = 28 * (q : Int) + 17 by omega] at a2
  rw [show 28 * (q : Int) + 15 + ((3 : Nat) : Int) = 28 * (q : Int) + 18 by omega] at a3
  refine ⟨q, d1, hq, hk, fun a ha => by rw [(f a ha).1]; exact (f a ha).2, ?_, a3⟩
  have c2' : M 22 q = g (28 * (q : Int) + 19) := c2.1
  unfold bx_sh hd_SH
  rw [d3, c2', a0, a1, a2]
/-- of a PART spread out -/
theorem hd_spread {M N : EM} {X : Nat → Int} {L : Nat} (h40 : g 1198 ≤ 40) (hC : h_C M 0 g) (hD : hd_D M 0 g) (ok : ∀ l, l < L → bx_ok M g (X l)) (hS : bx_SP g M N X L) : (∀ j, j < bx_oc g X L → bx_kn g (hd_SH g) (hd_WM g) N j) ∧ (∀ l k, l < L → k < bx_nc g (X l) → N 174 (bx_oc g X l + k) = bx_ce g (X l) k ∧ N 173 (bx_oc g X l + k) = (bx_og g X l : Int) + bx_gr g (X l) k) ∧ ∀ l y, l < L → y < bx_ng g (X l) → N 172 (bx_og g X l + y) = if g (28 * X l) = 0 then 0 else hd_DI g (X l) y := by
  obtain ⟨a1, a2, a3, a4, a5, a6, a7, a8, a9⟩ := hS
  refine ⟨fun j hj => ?_, fun l k hl hk => ?_, fun l y hl hy => ?_⟩
  · obtain ⟨l, k, h1, h2, h3, -⟩ := bx_fc_at L j hj
    have c := a5 l k h1 h2
    rw [← h3] at c
    have b := bx_ok_ce h40 (ok l h1) h2
    obtain ⟨z, z1, z2, z3⟩ := ok l h1
    obtain ⟨q, hq⟩ : ∃ q : Nat, bx_ce g (X l) k = q := ⟨(bx_ce g (X l) k).toNat, by omega⟩
    rw [hq, Int.toNat_natCast] at c
    have qq : (q : Int) < g 1198 ∧ g (28 * (q : Int)) = 0 := by
      rcases z3 with z3 | ⟨z3, n, gr, ⟨-, b1, -, b3, -, -, b6⟩⟩
      · have e : bx_ce g (X l) k = X l := if_pos (by rw [z1]; exact z3)
        rw [← hq, e, z1]
        exact ⟨z2, z3⟩
      · have kn : ¬ g (28 * X l) = 0 := by rw [z1]; omega
        have en : bx_nc g (X l) = n := by
          unfold bx_nc
          rw [if_neg kn, z1, b1, Int.toNat_natCast]
        obtain ⟨⟨m1, m2, m3, -, -⟩, c2, -⟩ := b6 k (by omega)
        have e : bx_ce g (X l) k = g (28 * X l + 3 + (k : Int)) := if_neg kn
        rw [← hq, e, z1]
        exact ⟨by omega, c2⟩
    exact hd_kn hC qq.1 qq.2 c
  · obtain ⟨d1, d2, -, -⟩ := a5 l k hl hk
    have b := bx_ok_ce h40 (ok l hl) hk
    exact ⟨by rw [d1]; omega, d2⟩
  · rw [a6 l y hl hy]
    unfold bx_di
    by_cases c : g (28 * X l) = 0
    · rw [if_pos c, if_pos c]
    · rw [if_neg c, if_neg c]
      obtain ⟨z, z1, z2, z3⟩ := ok l hl
      rcases z3 with z3 | ⟨z3, n, gr, ⟨-, b1, -, b3, -, b5, b6⟩⟩
      · rw [z1] at c
        exact absurd z3 c
      · have eg : bx_ng g (X l) = gr := by
          unfold bx_ng
          rw [if_neg c, z1, b3, Int.toNat_natCast]
        obtain ⟨i, i1, i2⟩ := cu_gp_on b5 y (by omega)
        have i2 : g (28 * (z : Int) + 11 + (i : Int)) = y := i2
        obtain ⟨-, -, -, e4, e5⟩ := b6 i i1
        rw [i2] at e4
        rw [e4] at e5
        unfold hd_DI
        rw [z1]
        rcases e5 with e5 | e5
        · rw [e5]; rfl
        · rw [e5]; rfl
end BXL
end
section
/-! the reference as it stands between calls: SHARES, WARMS, DIODES as told -/
/-- no CAUSE is off, no FAULT is tried -/
def rx_K (M : EM) : Prop := M 192 22 = 0 ∧ M 192 23 = -1 ∧ M 192 24 = -1
/-- what is told of CELLS, by the reference alone -/
def hd_cs (g : Int → Int) : Prop := ∀ q, 0 ≤ q → q < g 1198 → g (28 * q) = 0 → (∀ a : Nat, a < 4 → 0 ≤ g (28 * q + 15 + (a : Int)) ∧ g (28 * q + 15 + (a : Int)) ≤ 100) ∧ (g (28 * q + 19) = 0 ∨ g (28 * q + 19) = 1)
theorem hd_cs_of {M : EM} {g : Int → Int} (hC : h_C M 0 g) : hd_cs g := by
  intro q h0 h1 hk
  obtain ⟨n, rfl⟩ : ∃ n : Nat, q = n := ⟨q.toNat, by omega⟩
  obtain ⟨c1, c2, -⟩ := hC n h1 hk
  exact ⟨fun a ha => (c1 a ha).2, c2.2⟩
theorem hd_cvs_of {M : EM} {g : Int → Int} (hD : hd_D M 0 g) : hd_cvs g := by
  intro q h0 h1 hk
  obtain ⟨n, rfl⟩ : ∃ n : Nat, q = n := ⟨q.toNat, by omega⟩
  exact ((hD n h1).1 hk).1
theorem e_b0 (k : Int) (hk : k = 1 ∨ k = 2 ∨ k = 4 ∨ k = 8) : e_bit (fun x y => x &&& y) 0 k = 0 := by
  rcases hk with rfl | rfl | rfl | rfl <;> decide +kernel
section RXP
variable {M : EM}
theorem rx_sh0 {q : Int} (hK : rx_K M) (h20 : M 192 20 = -1) (hq : 0 ≤ q ∧ q < 40) (ha : ∀ a : Nat, a < 4 → 0 ≤ r_G M (28 * q + 15 + (a : Int)) ∧ r_G M (28 * q + 15 + (a : Int)) ≤ 100) (hd : r_G M (28 * q + 19) = 0 ∨ r_G M (28 * q + 19) = 1) : E_C 192 [192, q] M = some (hd_SH (r_G M) q, M) ∧ 0 ≤ hd_SH (r_G M) q ∧ hd_SH (r_G M) q ≤ 100 := by
  obtain ⟨k22, k23, k24⟩ := hK
  have a0 := ha 0 (by decide)
  have a1 := ha 1 (by decide)
  have a2 := ha 2 (by decide)
  rw [show 28 * q + 15 + ((0 : Nat) : Int) = 28 * q + 15 by omega] at a0
  rw [show 28 * q + 15 + ((1 : Nat) : Int) = 28 * q + 16 by omega] at a1
  rw [show 28 * q + 15 + ((2 : Nat) : Int) = 28 * q + 17 by omega] at a2
  obtain ⟨z1, z2⟩ := bx_shv a0 a1 a2
  have l0 : e_op 60 [193, 28 * q + 15] M = some (r_G M (28 * q + 15)) := r_rd (by omega) (by omega)
  have l1 : e_op 60 [193, 28 * q + 15 + 4] M = some (r_G M (28 * q + 19)) := (r_rd (by omega) (by omega)).trans (by rw [show 28 * q + 15 + 4 = 28 * q + 19 by omega])
  have l2 : e_op 60 [193, 28 * q + 15 + 1] M = some (r_G M (28 * q + 16)) := (r_rd (by omega) (by omega)).trans (by rw [show 28 * q + 15 + 1 = 28 * q + 16 by omega])
  have l3 : e_op 60 [193, 28 * q + 15 + 2] M = some (r_G M (28 * q + 17)) := (r_rd (by omega) (by omega)).trans (by rw [show 28 * q + 15 + 2 = 28 * q + 17 by omega])
  have b1 := e_b0 1 (by decide)
  have b2 := e_b0 2 (by decide)
  have b4 := e_b0 4 (by decide)
  have q1 : ¬ (-1 = q) := by omega
  have w1 : e_w (28 * q) = 28 * q := a_w_id (by omega) (by omega)
  have w2 : e_w (28 * q + 15) = 28 * q + 15 := a_w_id (by omega) (by omega)
  have w3 : e_w (28 * q + 15 + 4) = 28 * q + 15 + 4 := a_w_id (by omega) (by omega)
  have w4 : e_w (28 * q + 15 + 1) = 28 * q + 15 + 1 := a_w_id (by omega) (by omega)
  have w5 : e_w (28 * q + 15 + 2) = 28 * q + 15 + 2 := a_w_id (by omega) (by omega)
  unfold hd_SH
  rcases hd with hd | hd
  · rw [hd] at l1
    rw [if_pos hd, ← z1]
    refine ⟨?_, by rw [z1]; exact z2⟩
    rw [r_ent (show e_rok 192 [192, q] = true from decide_eq_true r_ref)]
    show e_tv E_C (E_V 192) e_t192_0 [192, q, 0, 0, 0, 0] M = _
    unfold e_t192_0
    simp [zq_a, zq_b, zq_c, zq_d, zq_e, zq_f, zq_g, zq_h, zq_i, zq_j, zq_k, zq_l, zq_m, zq_n, zq_o, zq_p, zq_q, zq_r, zq_s, zq_t, zq_u, zq_v, zq_w, zq_x, zq_y, zq_z, zq_A, zq_B, zq_C, zq_D, zq_E, zq_F, zq_G, zq_H, zq_I, zq_J, zq_K, zq_L, ↓zq_M, ↓zq_N, ↓zq_O, ↓zq_P, ↓zq_Q, ↓zq_R, zq_S, zq_T, zq_U, zq_V, zq_W, zq_X, zq_Y, zq_Z, zq_0, zq_1, zq_2, zq_3, zq_4, zq_5, ↓zq_6, ↓zq_7, ↓zq_8, ↓zq_9, ↓zq_aa, zq_ab, zq_ac, zq_ad, zq_ae, zq_af, zq_ag, ↓zq_ah, ↓zq_ai, ↓zq_aj, zq_ak, ↓zq_al, ↓zq_am, e_b1, e_b2, x_o1, x_o2, r_O0, r_F20, r_F22, r_F23, k22, k23, h20, q1, w1, w2, w3, w4, w5, l0, l1, l2, l3, b1, b2, b4]
  · rw [hd] at l1
    rw [if_neg (by omega)]
    refine ⟨?_, by decide, by decide⟩
    rw [r_ent (show e_rok 192 [192, q] = true from decide_eq_true r_ref)]
    show e_tv E_C (E_V 192) e_t192_0 [192, q, 0, 0, 0, 0] M = _
    unfold e_t192_0
    simp [zq_a, zq_b, zq_c, zq_d, zq_e, zq_f, zq_g, zq_h, zq_i, zq_j, zq_k, zq_l, zq_m, zq_n, zq_o, zq_p, zq_q, zq_r, zq_s, zq_t, zq_u, zq_v, zq_w, zq_x, zq_y, zq_z, zq_A, zq_B, zq_C, zq_D, zq_E, zq_F, zq_G, zq_H, zq_I, zq_J, zq_K, zq_L, ↓zq_M, ↓zq_N, ↓zq_O, ↓zq_P, ↓zq_Q, ↓zq_R, zq_S, zq_T, zq_U, zq_V, zq_W, zq_X, zq_Y, zq_Z, zq_0, zq_1, zq_2, zq_3, zq_4, zq_5, ↓zq_6, ↓zq_7, ↓zq_8, ↓zq_9, ↓zq_aa, zq_ab, zq_ac, zq_ad, zq_ae, zq_af, zq_ag, ↓zq_ah, ↓zq_ai, ↓zq_aj, zq_ak, ↓zq_al, ↓zq_am, e_b1, e_b2, x_o1, x_o2, r_O0, w1, w2, w3, l1]
theorem rx_pv0 {q w : Int} {i : Nat} (hK : rx_K M) (hq : 0 ≤ q ∧ q < 40) (hi : i < 6) (hp : 0 ≤ r_G M (28 * q + 3 + (i : Int)) ∧ r_G M (28 * q + 3 + (i : Int)) ≤ 60) (hw : r_G M (28 * q + 18) = w) (hw1 : 0 ≤ w ∧ w ≤ 100) : E_C 193 [192, q, (i : Int)] M = some (cu_pv (r_G M) w q i, M) := by
  obtain ⟨k22, k23, k24⟩ := hK
  obtain ⟨z, hz⟩ : ∃ z, r_G M (28 * q + 3 + (i : Int)) = z := ⟨_, rfl⟩
  rw [hz] at hp
  have v := bx_pve (g := r_G M) (q := q) (i := i) hz.symm hp hw1
  have k : E_C 172 [192, q, (i : Int)] M = some (z, M) := by rw [← hz]; exact r_of hq ⟨by omega, by omega⟩
  have l1 : e_op 60 [193, 28 * q + 15 + 3] M = some w := (r_rd (by omega) (by omega)).trans (by rw [show 28 * q + 15 + 3 = 28 * q + 18 by omega, hw])
  obtain ⟨ii, hii⟩ : ∃ ii : Int, (i : Int) = ii := ⟨_, rfl⟩
  rw [hii] at k
  rw [hii, ← v]
  clear hz v hii
  have b8 := e_b0 8 (by decide)
  have w1 : e_w (28 * q) = 28 * q := a_w_id (by omega) (by omega)
  have w2 : e_w (28 * q + 15) = 28 * q + 15 := a_w_id (by omega) (by omega)
  have w3 : e_w (28 * q + 15 + 3) = 28 * q + 15 + 3 := a_w_id (by omega) (by omega)
  rw [r_ent (show e_rok 193 [192, q, ii] = true from decide_eq_true r_ref)]
  show e_tv E_C (E_V 193) e_t193_0 [192, q, ii, 0] M = _
  unfold e_t193_0
  simp [zq_a, zq_b, zq_c, zq_d, zq_e, zq_f, zq_g, zq_h, zq_i, zq_j, zq_k, zq_l, zq_m, zq_n, zq_o, zq_p, zq_q, zq_r, zq_s, zq_t, zq_u, zq_v, zq_w, zq_x, zq_y, zq_z, zq_A, zq_B, zq_C, zq_D, zq_E, zq_F, zq_G, zq_H, zq_I, zq_J, zq_K, zq_L, ↓zq_M, ↓zq_N, ↓zq_O, ↓zq_P, ↓zq_Q, ↓zq_R, zq_S, zq_T, zq_U, zq_V, zq_W, zq_X, zq_Y, zq_Z, zq_0, zq_1, zq_2, zq_3, zq_4, zq_5, ↓zq_6, ↓zq_7, ↓zq_8, ↓zq_9, ↓zq_aa, zq_ab, zq_ac, zq_ad, zq_ae, zq_af, zq_ag, ↓zq_ah, ↓zq_ai, ↓zq_aj, zq_ak, ↓zq_al, ↓zq_am, e_b1, e_b2, x_o1, x_o2, r_O0, r_F22, k22, w1, w2, w3, l1, b8, k]
theorem rx_di0 {q : Int} {y : Nat} (hK : rx_K M) (hq : 0 ≤ q ∧ q < 40) (hy : y < 8) : E_C 200 [192, q, (y : Int)] M = some (hd_DI (r_G M) q y, M) := by
  obtain ⟨k22, k23, k24⟩ := hK
  obtain ⟨yy, hyy⟩ : ∃ yy : Int, (y : Int) = yy := ⟨_, rfl⟩
  unfold hd_DI
  rw [hyy]
  have y0 : 0 ≤ yy ∧ yy < 8 := by omega
  have l1 : e_op 60 [193, 28 * q + 20 + yy] M = some (r_G M (28 * q + 20 + yy)) := r_rd (by omega) (by omega)
  have c2 : ¬ (-1 = 8 * q + yy) := by omega
  have w1 : e_w (28 * q) = 28 * q := a_w_id (by omega) (by omega)
  have w2 : e_w (28 * q + 20) = 28 * q + 20 := a_w_id (by omega) (by omega)
  have w3 : e_w (28 * q + 20 + yy) = 28 * q + 20 + yy := a_w_id (by omega) (by omega)
  have w4 : e_w (8 * q) = 8 * q := a_w_id (by omega) (by omega)
  have w5 : e_w (8 * q + yy) = 8 * q + yy := a_w_id (by omega) (by omega)
  by_cases c1 : r_G M (28 * q + 20 + yy) = 1
  · rw [if_pos c1]
    rw [c1] at l1
    rw [r_ent (show e_rok 200 [192, q, yy] = true from decide_eq_true r_ref)]
    show e_tv E_C (E_V 200) e_t200_0 [192, q, yy] M = _
    unfold e_t200_0
    simp [zq_a, zq_b, zq_c, zq_d, zq_e, zq_f, zq_g, zq_h, zq_i, zq_j, zq_k, zq_l, zq_m, zq_n, zq_o, zq_p, zq_q, zq_r, zq_s, zq_t, zq_u, zq_v, zq_w, zq_x, zq_y, zq_z, zq_A, zq_B, zq_C, zq_D, zq_E, zq_F, zq_G, zq_H, zq_I, zq_J, zq_K, zq_L, ↓zq_M, ↓zq_N, ↓zq_O, ↓zq_P, ↓zq_Q, ↓zq_R, zq_S, zq_T, zq_U, zq_V, zq_W, zq_X, zq_Y, zq_Z, zq_0, zq_1, zq_2, zq_3, zq_4, zq_5, ↓zq_6, ↓zq_7, ↓zq_8, ↓zq_9, ↓zq_aa, zq_ab, zq_ac, zq_ad, zq_ae, zq_af, zq_ag, ↓zq_ah, ↓zq_ai, ↓zq_aj, zq_ak, ↓zq_al, ↓zq_am, e_b1, e_b2, x_o1, x_o2, r_O0, r_F24, k24, w1, w2, w3, w4, w5, l1, c2]
  · rw [if_neg c1]
    rw [r_ent (show e_rok 200 [192, q, yy] = true from decide_eq_true r_ref)]
    show e_tv E_C (E_V 200) e_t200_0 [192, q, yy] M = _
    unfold e_t200_0
    simp [zq_a, zq_b, zq_c, zq_d, zq_e, zq_f, zq_g, zq_h, zq_i, zq_j, zq_k, zq_l, zq_m, zq_n, zq_o, zq_p, zq_q, zq_r, zq_s, zq_t, zq_u, zq_v, zq_w, zq_x, zq_y, zq_z, zq_A, zq_B, zq_C, zq_D, zq_E, zq_F, zq_G, zq_H, zq_I, zq_J, zq_K, zq_L, ↓zq_M, ↓zq_N, ↓zq_O, ↓zq_P, ↓zq_Q, ↓zq_R, zq_S, zq_T, zq_U, zq_V, zq_W, zq_X, zq_Y, zq_Z, zq_0, zq_1, zq_2, zq_3, zq_4, zq_5, ↓zq_6, ↓zq_7, ↓zq_8, ↓zq_9, ↓zq_aa, zq_ab, zq_ac, zq_ad, zq_ae, zq_af, zq_ag, ↓zq_ah, ↓zq_ai, ↓zq_aj, zq_ak, ↓zq_al, ↓zq_am, e_b1, e_b2, x_o1, x_o2, r_O0, w1, w2, w3, l1, c1]
theorem rx_md0 (hK : rx_K M) (h20 : M 192 20 = -1) (hcs : hd_cs (r_G M)) : rx_md M (hd_SH (r_G M)) (hd_WM (r_G M)) (hd_DI (r_G M)) := by
  refine ⟨fun b q hb hb1 hq => ?_, fun q y h0 h1 hy => ⟨rx_di0 hK ⟨h0, h1⟩ hy, ?_⟩⟩
  · have h40 : 0 ≤ q ∧ q < 40 := ⟨hq.1, by have := hq.2.1; omega⟩
    obtain ⟨c1, c2⟩ := hcs q hq.1 (by have := hq.2.1; omega) hq.2.2.1
    have a3 := c1 3 (by decide)
    rw [show 28 * q + 15 + ((3 : Nat) : Int) = 28 * q + 18 by omega] at a3
    exact ⟨rx_sh0 hK h20 h40 c1 c2, a3, fun i hi p0 p1 => rx_pv0 hK h40 hi ⟨p0, p1⟩ rfl a3⟩
  · unfold hd_DI
    by_cases c : r_G M (28 * q + 20 + (y : Int)) = 1
    · rw [if_pos c]; exact Or.inr rfl
    · rw [if_neg c]; exact Or.inl rfl
theorem rx_MD0 {g : Int → Int} (hG : r_G M = g) (hK : rx_K M) (h20 : M 192 20 = -1) (hcs : hd_cs g) : rx_MD M (hd_SH g) (hd_WM g) (hd_DI g) := by
  intro M' h
  have e : r_G M' = g := (rx_sm_G h).trans hG
  have e2 : ∀ k, M' 192 k = M 192 k := fun k => h _ _ (by decide) (by decide)
  have k := rx_md0 (M := M') (by unfold rx_K; rw [e2, e2, e2]; exact hK) (by rw [e2]; exact h20) (by rw [e]; exact hcs)
  rw [e] at k
  exact k
end RXP
end
section
/-! fields of the reference that no method of a row writes: a check of their trees -/
def fz_S (S : List Nat) (u : Nat) : Bool := S.any (fun v => Nat.beq v u)
def fz_b (B : List Nat) (key : Nat) : Bool := B.any (fun k => Nat.beq (768 + k) key)
def fz_e (S : List Nat) : e_X → Bool
  | .add a b => fz_e S a && fz_e S b
  | .mulL k a => fz_e S a && (if 5000 ≤ k then fz_S S (k.toNat - 5000) else true)
  | .mulR a _ => fz_e S a
  | .sub c (.add a b) => fz_e S c && fz_e S a && fz_e S b
  | _ => true
def fz_s (S B : List Nat) (s : e_X) : Bool := match s with
  | .mulL k e => fz_e S (.mulL k e) && (if k = 67 then (match e with
    | .mulR (.add o x) key => fz_e S o && fz_e S x && !fz_b B key.toNat
    | _ => true) else if k = 68 then (match e with
    | .add ai x => fz_e S ai && fz_e S x
    | _ => true) else true)
  | .mulR e key => fz_e S e && !fz_b B key.toNat
  | _ => true
def fz_t (S B : List Nat) : e_X → Bool
  | .mulL k e => if k < 0 then fz_t S B e else fz_e S e
  | .sub c (.add a b) => fz_e S c && fz_t S B a && fz_t S B b
  | .add s t => fz_s S B s && fz_t S B t
  | .mulR (.add x (.add (.num _) _)) _ => fz_e S x
  | .neg (.add (.mulR (.add ai as) v) (.add t (.add h0 h1))) => fz_e S ai && fz_e S as && fz_S S v.toNat && fz_t S B t && fz_t S B h0 && fz_t S B h1
  | _ => true
def fz_P (B : List Nat) (M M' : EM) : Prop := ∀ k ∈ B, M' 192 k = M 192 k
section FZ
variable {S B : List Nat}
theorem fz_rf {M : EM} : fz_P B M M := fun _ _ => rfl
theorem fz_tr {M M1 M2 : EM} (h : fz_P B M M1) (k : fz_P B M1 M2) : fz_P B M M2 := fun j hj => (k j hj).trans (h j hj)
theorem fz_st {kd : Nat} {x : List Int} {M M' : EM} (hk : kd = 100 ∨ kd = 101) (h : e_st kd x M = some M') : fz_P B M M' := by
  unfold e_st at h
  split at h
  · rename_i a i v
    split at h
    · rename_i hc
      cases h
      have hsh := hc.2.2.2.1
      refine fun k _ => c_up_n (fun e => ?_)
      rw [← e.1] at hsh
      rw [show (e_sh 192).1 = 12 from by decide +kernel] at hsh
      omega
    · cases h
  · cases h
theorem fz_cp {x : List Int} {M M' : EM} (h : e_cp x M = some M') : fz_P B M M' := by
  unfold e_cp at h
  split at h
  · rename_i a0 sp a dp n
    split at h
    · rename_i hc
      cases h
      have hsh := hc.1.2.2
      refine fun k _ => if_neg (fun e => ?_)
      rw [← e.1] at hsh
      exact absurd hsh (by decide +kernel)
    · cases h
  · cases h
theorem fz_pf {key : Nat} {x : List Int} {M M' : EM} (hb : fz_b B key = false) (h : e_pf key x M = some M') : fz_P B M M' := by
  unfold e_pf at h
  split at h
  · rename_i a v
    split at h
    · rename_i hc
      cases h
      have hsh := hc.1.2.2
      refine fun k hk => c_up_n (fun e => ?_)
      rw [← e.1] at hsh
      rw [show (e_sh 192).1 = 12 from by decide +kernel] at hsh
      have hkey : 768 + k = key := by omega
      have : fz_b B key = true := List.any_eq_true.mpr ⟨k, hk, by rw [hkey]; exact Nat.beq_refl key⟩
      rw [hb] at this
      cases this
    · cases h
  · cases h
variable {K J : Nat → List Int → EM → EO}
theorem fz_ev {L : List Int} (hK : ∀ u as M r, fz_S S u = true → K u as M = some r → fz_P B M r.2) : ∀ (x : e_X) (M : EM) (r : List Int × EM), fz_e S x = true → e_ev K L x M = some r → fz_P B M r.2
  | .num v, M, r, _, e => by
    simp only [e_ev, Option.some.injEq] at e
    subst e
    exact fz_rf
  | .var i, M, r, _, e => by
    simp only [e_ev, Option.some.injEq] at e
    subst e
    exact fz_rf
  | .add a b, M, r, h, e => by
    simp only [fz_e, Bool.and_eq_true] at h
    simp only [e_ev, Option.bind_eq_some_iff] at e
    obtain ⟨x, hx, y, hy, e⟩ := e
    cases e
    exact fz_tr (fz_ev hK a M x h.1 hx) (fz_ev hK b _ y h.2 hy)
  | .mulL k a, M, r, h, e => by
    simp only [fz_e, Bool.and_eq_true] at h
    unfold e_ev at e
    split at e
    · exact fz_ev hK a M r h.1 e
    · simp only [Option.bind_eq_some_iff] at e
      obtain ⟨x, hx, e⟩ := e
      have p := fz_ev hK a M x h.1 hx
      split at e
      · rename_i h5
        have h2 := h.2
        rw [if_pos h5] at h2
        simp only [Option.bind_eq_some_iff] at e
        obtain ⟨y, hy, e⟩ := e
        cases e
        exact fz_tr p (hK _ _ _ _ h2 hy)
      · simp only [Option.bind_eq_some_iff] at e
        obtain ⟨y, hy, e⟩ := e
        cases e
        exact p
  | .mulR a k, M, r, h, e => by
    simp only [fz_e] at h
    simp only [e_ev, Option.bind_eq_some_iff] at e
    obtain ⟨x, hx, y, hy, e⟩ := e
    cases e
    exact fz_ev hK a M x h hx
  | .sub c (.add a b), M, r, h, e => by
    simp only [fz_e, Bool.and_eq_true] at h
    simp only [e_ev, Option.bind_eq_some_iff] at e
    obtain ⟨x, hx, e⟩ := e
    have p := fz_ev hK c M x h.1.1 hx
    split at e
    · exact fz_tr p (fz_ev hK b _ r h.2 e)
    · exact fz_tr p (fz_ev hK a _ r h.1.2 e)
  | .sub c (.num _), M, r, _, e => by simp [e_ev] at e
  | .sub c (.var _), M, r, _, e => by simp [e_ev] at e
  | .sub c (.sub _ _), M, r, _, e => by simp [e_ev] at e
  | .sub c (.neg _), M, r, _, e => by simp [e_ev] at e
  | .sub c (.mulL _ _), M, r, _, e => by simp [e_ev] at e
  | .sub c (.mulR _ _), M, r, _, e => by simp [e_ev] at e
  | .neg _, M, r, _, e => by simp [e_ev] at e
theorem fz_sv (hK : ∀ u as M r, fz_S S u = true → K u as M = some r → fz_P B M r.2) {s : e_X} {L : List Int} {M : EM} {r : List Int × EM} (h : fz_s S B s = true) (e : e_sv K s L M = some r) : fz_P B M r.2 := by
  unfold e_sv at e
  split at e
  · rename_i k x
    unfold fz_s at h
    simp only [Bool.and_eq_true] at h
    obtain ⟨h1, h2⟩ := h
    have h0 : fz_e S x = true := by
      unfold fz_e at h1
      exact (Bool.and_eq_true _ _ ▸ h1).1
    try dsimp only at e
    split at e
    · obtain ⟨y, hy, e⟩ := Option.bind_eq_some_iff.mp e
      obtain ⟨z, hz, e⟩ := Option.bind_eq_some_iff.mp e
      cases e
      exact fz_tr (fz_ev hK _ _ _ h0 hy) (fz_st (Or.inl rfl) hz)
    split at e
    · obtain ⟨y, hy, e⟩ := Option.bind_eq_some_iff.mp e
      obtain ⟨z, hz, e⟩ := Option.bind_eq_some_iff.mp e
      cases e
      exact fz_tr (fz_ev hK _ _ _ h0 hy) (fz_st (Or.inr rfl) hz)
    split at e
    · obtain ⟨y, hy, e⟩ := Option.bind_eq_some_iff.mp e
      obtain ⟨z, hz, e⟩ := Option.bind_eq_some_iff.mp e
      cases e
      exact fz_tr (fz_ev hK _ _ _ h0 hy) (fz_cp hz)
    split at e
    · rename_i k67
      rw [if_pos k67] at h2
      split at e
      · rename_i o y key
        try dsimp only at h2
        simp only [Bool.and_eq_true, Bool.not_eq_true'] at h2
        try dsimp only at e
        simp only [Option.bind_eq_some_iff] at e
        obtain ⟨y1, hy, u, hu, q, hq, z, hz, w, hw, e⟩ := e
        cases e
        exact fz_tr (fz_ev hK _ _ _ h2.1.1 hy) (fz_tr (fz_ev hK _ _ _ h2.1.2 hq) (fz_pf h2.2 hw))
      · cases e
    rename_i k67
    rw [if_neg k67] at h2
    split at e
    · rename_i k68
      rw [if_pos k68] at h2
      split at e
      · rename_i ai y
        try dsimp only at h2
        simp only [Bool.and_eq_true] at h2
        try dsimp only at e
        simp only [Option.bind_eq_some_iff] at e
        obtain ⟨y1, hy, u, hu, q, hq, z, hz, w, hw, e⟩ := e
        cases e
        exact fz_tr (fz_ev hK _ _ _ h2.1 hy) (fz_tr (fz_ev hK _ _ _ h2.2 hq) (fz_st (Or.inl rfl) hw))
      · cases e
    split at e
    · obtain ⟨y, hy, e⟩ := Option.bind_eq_some_iff.mp e
      cases e
      exact (fz_ev hK _ _ _ h0 hy : fz_P B M y.2)
    split at e
    · split at e
      · cases e
        exact fz_rf
      · cases e
    split at e
    · obtain ⟨y, hy, e⟩ := Option.bind_eq_some_iff.mp e
      cases e
      exact (fz_ev hK _ _ _ h1 hy : fz_P B M y.2)
    · cases e
  · rename_i x key
    unfold fz_s at h
    simp only [Bool.and_eq_true, Bool.not_eq_true'] at h
    try dsimp only at e
    obtain ⟨y, hy, e⟩ := Option.bind_eq_some_iff.mp e
    obtain ⟨z, hz, e⟩ := Option.bind_eq_some_iff.mp e
    cases e
    exact fz_tr (fz_ev hK _ _ _ h.1 hy) (fz_pf h.2 hz)
  · cases e
theorem fz_tv (h5 : ∀ M : EM, ∀ v, fz_P B M (e_up M 5 0 v)) (hK : ∀ u as M r, fz_S S u = true → K u as M = some r → fz_P B M r.2) (hJ : ∀ pc L M r, J pc L M = some r → fz_P B M r.2) : ∀ (k : Nat) (t : e_X), SizeOf.sizeOf t ≤ k → ∀ (L : List Int) (M : EM) (r : Int × EM), fz_t S B t = true → e_tv K J t L M = some r → fz_P B M r.2 := by
  intro k
  induction k with
  | zero => intro t ht; cases t <;> simp at ht
  | succ k ih =>
    intro t ht L M r h e
    unfold e_tv at e
    split at e
    · rename_i k1 x
      simp at ht
      unfold fz_t at h
      try dsimp only at e
      split at e
      · rename_i h0
        rw [if_pos h0] at h
        exact ih x (by omega) L M r h e
      rename_i h0
      rw [if_neg h0] at h
      split at e
      · obtain ⟨y, hy, e⟩ := Option.bind_eq_some_iff.mp e
        cases e
        exact fz_ev hK _ _ _ h hy
      split at e
      · cases e
        exact fz_rf
      split at e
      · obtain ⟨y, hy, e⟩ := Option.bind_eq_some_iff.mp e
        cases e
        exact h5 _ _
      split at e
      · obtain ⟨y, hy, e⟩ := Option.bind_eq_some_iff.mp e
        exact hJ _ _ _ _ e
      · cases e
    · rename_i c a b
      simp at ht
      simp only [fz_t, Bool.and_eq_true] at h
      try dsimp only at e
      obtain ⟨y, hy, e⟩ := Option.bind_eq_some_iff.mp e
      have p := fz_ev hK _ _ _ h.1.1 hy
      split at e
      · exact fz_tr p (ih b (by omega) _ _ _ h.2 e)
      · exact fz_tr p (ih a (by omega) _ _ _ h.1.2 e)
    · rename_i s t
      simp at ht
      simp only [fz_t, Bool.and_eq_true] at h
      try dsimp only at e
      obtain ⟨y, hy, e⟩ := Option.bind_eq_some_iff.mp e
      exact fz_tr (fz_sv hK h.1 hy) (ih t (by omega) _ _ _ h.2 e)
    · rename_i x lo cs kk
      simp only [fz_t] at h
      try dsimp only at e
      obtain ⟨y, hy, e⟩ := Option.bind_eq_some_iff.mp e
      exact fz_tr (fz_ev hK _ _ _ h hy) (hJ _ _ _ _ e)
    · rename_i ai as v t h0 h1
      simp at ht
      simp only [fz_t, Bool.and_eq_true] at h
      obtain ⟨⟨⟨⟨⟨g1, g2⟩, g3⟩, g4⟩, g5⟩, g6⟩ := h
      try dsimp only at e
      obtain ⟨y, hy, e⟩ := Option.bind_eq_some_iff.mp e
      obtain ⟨q, hq, e⟩ := Option.bind_eq_some_iff.mp e
      obtain ⟨z, hz, e⟩ := Option.bind_eq_some_iff.mp e
      have p := fz_tr (fz_ev hK _ _ _ g1 hy) (fz_tr (fz_ev hK _ _ _ g2 hq) (hK _ _ _ _ g3 hz))
      split at e
      · exact fz_tr p (ih h0 (by omega) _ _ _ g5 e)
      split at e
      · exact fz_tr p (ih h1 (by omega) _ _ _ g6 e)
      obtain ⟨w, hw, e⟩ := Option.bind_eq_some_iff.mp e
      exact fz_tr p (fz_tr (fz_st (Or.inr rfl) hw) (ih t (by omega) _ _ _ g4 e))
    · cases e
/-- all trees of the methods of S pass -/
def fz_ok (S B : List Nat) : Bool := S.all (fun v => ((e_prog.getD (v / 16) []).getD (v % 16) []).all (fun x => fz_t S B x.2.2))
theorem fz_tree (h : fz_ok S B = true) {v : Nat} (hv : fz_S S v = true) (pc : Nat) : fz_t S B (e_tr v pc) = true := by
  obtain ⟨w, hw, hb⟩ := List.any_eq_true.mp hv
  have e := Nat.eq_of_beq_eq_true hb
  subst e
  have h1 := List.all_eq_true.mp h w hw
  unfold e_tr
  cases hl : e_lb w pc with
  | none => rfl
  | some q => exact List.all_eq_true.mp h1 _ (q_find_mem hl)
theorem fz_run (h : fz_ok S B = true) : ∀ (n v pc : Nat) (L : List Int) (M : EM) (r : Int × EM), fz_S S v = true → e_run n v pc L M = some r → fz_P B M r.2 := by
  intro n
  induction n with
  | zero => intro v pc L M r _ e; cases e
  | succ n ih =>
    intro v pc L M r hv e
    rw [e_run] at e
    refine fz_tv (S := S) (fun M v k _ => c_up_n (by omega)) (fun u as M' r' hu h' => ?_) (fun pc' L' M' r' h' => ih _ _ _ _ _ hv h') _ _ (Nat.le_refl _) L M r (fz_tree h hv pc) e
    split at h'
    · exact ih _ _ _ _ _ hu h'
    · cases h'
theorem fz_call (h : fz_ok S B = true) {u : Nat} {as : List Int} {M M' : EM} {r : Int} (hu : fz_S S u = true) (e : E_C u as M = some (r, M')) : fz_P B M M' := by
  unfold E_C at e
  split at e
  · obtain ⟨n, hn⟩ := E_V_ex e
    exact fz_run h n u 0 _ M _ hu (hn n (Nat.le_refl _))
  · cases e
end FZ
def fz_A : List Nat := (List.range 77).map (168 + ·) ++ [248, 255, 256, 257, 258, 259, 260, 261, 262, 263, 264, 265, 300, 301, 302, 304, 305, 306, 307, 308, 309]
theorem fz_A_ok : fz_ok fz_A [22, 23, 24] = true := by decide +kernel
theorem fz_W_ok : fz_ok (fz_A ++ [245, 246, 247]) [23, 24] = true := by decide +kernel
theorem fz_F_ok : fz_ok (fz_A ++ [249, 250, 251, 252, 253, 254]) [22] = true := by decide +kernel
/-- most calls leave CAUSES and FAULTS alone -/
theorem rx_Kc {u : Nat} {as : List Int} {M M' : EM} {r : Int} (hu : fz_S fz_A u = true) (e : E_C u as M = some (r, M')) (hK : rx_K M) : rx_K M' := by
  have p := fz_call fz_A_ok hu e
  obtain ⟨k1, k2, k3⟩ := hK
  exact ⟨(p 22 (by decide)).trans k1, (p 23 (by decide)).trans k2, (p 24 (by decide)).trans k3⟩
end
section
/-! BEST of a PART: class and reference -/
section BXV
variable {g : Int → Int} {SH WM : Int → Int} {DI : Int → Nat → Int}
/-- CELLS on the bench, known; lines X -/
def bx_ND (g : Int → Int) (SH WM : Int → Int) (DI : Int → Nat → Int) (X : Nat → Int) (L : Nat) (N : EM) : Prop := (∀ j, j < bx_oc g X L → bx_kn g SH WM N j) ∧ N 170 0 = (bx_oc g X L : Int) ∧ N 170 5 = (L : Int) ∧ (∀ l, l ≤ L → N 171 l = (bx_oc g X l : Int)) ∧ (∀ l k, l < L → k < bx_nc g (X l) → N 174 (bx_oc g X l + k) = bx_ce g (X l) k ∧ N 173 (bx_oc g X l + k) = (bx_og g X l : Int) + bx_gr g (X l) k) ∧ ∀ l y, l < L → y < bx_ng g (X l) → N 172 (bx_og g X l + y) = if g (28 * X l) = 0 then 0 else DI (X l) y
/-- lines of a PART -/
def bx_XL (M : EM) (g : Int → Int) (X : Nat → Int) (L : Nat) : Prop := (1 ≤ L ∧ L ≤ 6) ∧ (∀ l, l < L → bx_ok M g (X l)) ∧ bx_oc g X L ≤ 40 ∧ bx_og g X L ≤ 40
def bx_s (g : Int → Int) (SH WM : Int → Int) (DI : Int → Nat → Int) (X : Nat → Int) (L : Nat) (u : Int) : Int := cu_S (fun l c => cu_low g SH WM DI (X l) (c : Int)) u L
theorem bx_s_bd {X : Nat → Int} {L : Nat} {u : Int} (h : L ≤ 6) : 0 ≤ bx_s g SH WM DI X L u ∧ bx_s g SH WM DI X L u ≤ 600 := by
  have := cu_S_bd (F := fun l c => cu_low g SH WM DI (X l) (c : Int)) (u := u) L
  unfold bx_s
  omega
theorem bx_21 {M N : EM} {X : Nat → Int} {L : Nat} (h40 : g 1198 ≤ 40) (hD : hd_D M 0 g) (e : ∀ id, id < 162 → N id = M id) (hbd : bx_bd g SH WM) (hX : bx_XL M g X L) (hN : bx_ND g SH WM DI X L N) : ∃ M', E_C 21 [170] N = some (0, M') ∧ M' 170 6 = 0 ∧ (∀ u : Nat, u ≤ 500 → M' 181 u = bx_s g SH WM DI X L (u : Int)) ∧ M' 170 2 = (cu_b (fun u => bx_s g SH WM DI X L (u : Int)) 500 : Int) ∧ M' 170 1 = (cu_b (fun u => bx_s g SH WM DI X L (u : Int)) 500 : Int) * bx_s g SH WM DI X L (cu_b (fun u => bx_s g SH WM DI X L (u : Int)) 500 : Int) ∧ ∀ id k, ¬ (177 ≤ id ∧ id ≤ 181) → ¬ (id = 170 ∧ (k = 1 ∨ k = 2 ∨ k = 6)) → M' id k = N id k := by
  obtain ⟨⟨L1, L6⟩, ok, hoc, hog⟩ := hX
  obtain ⟨n1, n2, n3, n4, n5, n6⟩ := hN
  obtain ⟨A, a1, a2, a3⟩ := bx_draw h40 hD e hoc n1 n2 n3 n4 n5 n6
  obtain ⟨B, b1, b2, b3, b4⟩ := bx_cur (lo := 0) (hi := 500) (n := 501) hD hbd ok L6 hoc hog a2 (by decide) rfl (by decide)
  have sB : ∀ u : Nat, u ≤ 500 → B 181 u = bx_s g SH WM DI X L (u : Int) := fun u hu => by
    have := b3 u (by omega)
    rw [Int.zero_add] at this
    exact this
  obtain ⟨C, c1, c2, c3, c4⟩ := bx_22 (s := fun u => bx_s g SH WM DI X L (u : Int)) b2 sB (fun u _ => by have := bx_s_bd (g := g) (SH := SH) (WM := WM) (DI := DI) (X := X) (u := (u : Int)) L6; omega)
  refine ⟨C, ?_, (c4 _ _ (by omega)).trans b2, fun u hu => (c4 _ _ (by omega)).trans (sB u hu), c2, c3, fun id k h1 h2 => (c4 _ _ (by omega)).trans ((b4 _ _ (by omega) (by omega) (by omega)).trans (a3 _ _ (by omega)))⟩
  rw [r_ent (show e_rok 21 [170] = true from bx_r (M := M) rfl (by decide +kernel))]
  show e_tv E_C (E_V 21) e_t21_0 [170] N = _
  unfold e_t21_0
  simp [zq_a, zq_b, zq_c, zq_d, zq_e, zq_f, zq_g, zq_h, zq_i, zq_j, zq_k, zq_l, zq_m, zq_n, zq_o, zq_p, zq_q, zq_r, zq_s, zq_t, zq_u, zq_v, zq_w, zq_x, zq_y, zq_z, zq_A, zq_B, zq_C, zq_D, zq_E, zq_F, zq_G, zq_H, zq_I, zq_J, zq_K, zq_L, ↓zq_M, ↓zq_N, ↓zq_O, ↓zq_P, ↓zq_Q, ↓zq_R, zq_S, zq_T, zq_U, zq_V, zq_W, zq_X, zq_Y, zq_Z, zq_0, zq_1, zq_2, zq_3, zq_4, zq_5, ↓zq_6, ↓zq_7, ↓zq_8, ↓zq_9, ↓zq_aa, zq_ab, zq_ac, zq_ad, zq_ae, zq_af, zq_ag, ↓zq_ah, ↓zq_ai, ↓zq_aj, zq_ak, ↓zq_al, ↓zq_am, e_b1, e_b2, x_o1, x_o2, a1, b1, c1]
/-- the reference's bestOf -/
theorem rx_208 {M : EM} {s : Nat → Int} (hs : ∀ u, u ≤ 500 → M 205 u = s u) (hb : ∀ u, u ≤ 500 → 0 ≤ s u ∧ s u ≤ 1000) : E_C 208 [192] M = some ((cu_b s 500 : Int), M) := by
  have lp : ∀ (d u b : Nat) (x1 x2 : Int), x2 = u → u + d = 501 → 1 ≤ u → b = cu_b s (u - 1) → x1 = b → E_V 208 4 [192, x1, x2] M = some ((cu_b s 500 : Int), M) := by
    intro d
    induction d with
    | zero =>
      intro u b x1 x2 hx hu h1 hb' hx1
      have q : ¬ (x2 ≤ 500) := by omega
      have e : u - 1 = 500 := by omega
      rw [e] at hb'
      rw [← hb', ← hx1]
      rw [E_V_eq]
      show e_tv E_C (E_V 208) e_t208_4 [192, x1, x2] M = _
      unfold e_t208_4
      simp [zq_a, zq_b, zq_c, zq_d, zq_e, zq_f, zq_g, zq_h, zq_i, zq_j, zq_k, zq_l, zq_m, zq_n, zq_o, zq_p, zq_q, zq_r, zq_s, zq_t, zq_u, zq_v, zq_w, zq_x, zq_y, zq_z, zq_A, zq_B, zq_C, zq_D, zq_E, zq_F, zq_G, zq_H, zq_I, zq_J, zq_K, zq_L, ↓zq_M, ↓zq_N, ↓zq_O, ↓zq_P, ↓zq_Q, ↓zq_R, zq_S, zq_T, zq_U, zq_V, zq_W, zq_X, zq_Y, zq_Z, zq_0, zq_1, zq_2, zq_3, zq_4, zq_5, ↓zq_6, ↓zq_7, ↓zq_8, ↓zq_9, ↓zq_aa, zq_ab, zq_ac, zq_ad, zq_ae, zq_af, zq_ag, ↓zq_ah, ↓zq_ai, ↓zq_aj, zq_ak, ↓zq_al, ↓zq_am, e_b1, e_b2, x_o1, x_o2, q]
    | succ d ih =>
      intro u b x1 x2 hx hu h1 hb' hx1
      have q : x2 ≤ 500 := by omega
      have bl := cu_b_le (s := s) (u - 1)
      have l2 : e_op 60 [205, x2] M = some (s u) := (r_rd5 (by omega) (by omega)).trans (by rw [show x2.toNat = u by omega, hs u (by omega)])
      have l1 : e_op 60 [205, x1] M = some (s b) := (r_rd5 (by omega) (by omega)).trans (by rw [show x1.toNat = b by omega, hs b (by omega)])
      have p2 := (bx_pw (u := x2) (z := s u) ⟨by omega, by omega⟩ (hb u (by omega))).1
      have p1 := (bx_pw (u := x1) (z := s b) ⟨by omega, by omega⟩ (hb b (by omega))).1
      have w : e_w (x2 + 1) = x2 + 1 := a_w_id (by omega) (by omega)
      have s32 : ∀ y1, E_V 208 32 [192, y1, x2] M = E_V 208 4 [192, y1, x2 + 1] M := fun y1 => by
        rw [E_V_eq]
        show e_tv E_C (E_V 208) e_t208_32 [192, y1, x2] M = _
        unfold e_t208_32
        simp [zq_a, zq_b, zq_c, zq_d, zq_e, zq_f, zq_g, zq_h, zq_i, zq_j, zq_k, zq_l, zq_m, zq_n, zq_o, zq_p, zq_q, zq_r, zq_s, zq_t, zq_u, zq_v, zq_w, zq_x, zq_y, zq_z, zq_A, zq_B, zq_C, zq_D, zq_E, zq_F, zq_G, zq_H, zq_I, zq_J, zq_K, zq_L, ↓zq_M, ↓zq_N, ↓zq_O, ↓zq_P, ↓zq_Q, ↓zq_R, zq_S, zq_T, zq_U, zq_V, zq_W, zq_X, zq_Y, zq_Z, zq_0, zq_1, zq_2, zq_3, zq_4, zq_5, ↓zq_6, ↓zq_7, ↓zq_8, ↓zq_9, ↓zq_aa, zq_ab, zq_ac, zq_ad, zq_ae, zq_af, zq_ag, ↓zq_ah, ↓zq_ai, ↓zq_aj, zq_ak, ↓zq_al, ↓zq_am, e_b1, e_b2, x_o1, x_o2, w]
      have ecb : cu_b s u = if (b : Int) * s b < (u : Int) * s u then u else b := by
        obtain ⟨v, rfl⟩ : ∃ v, u = v + 1 := ⟨u - 1, by omega⟩
        rw [show v + 1 - 1 = v by omega] at hb'
        rw [hb']
        rfl
      rcases Int.lt_or_le ((b : Int) * s b) ((u : Int) * s u) with c | c
      · rw [if_pos c] at ecb
        have k := ih (u + 1) u x2 (x2 + 1) (by omega) (by omega) (by omega) (by rw [show u + 1 - 1 = u by omega, ecb]) hx
        have c' : x1 * s b < x2 * s u := by rw [hx1, hx]; exact c
        have c_n : ¬ (x2 * s u ≤ x1 * s b) := by omega
        rw [← k, ← s32]
        clear ih k s32 hs hb ecb c
        rw [E_V_eq]
        show e_tv E_C (E_V 208) e_t208_4 [192, x1, x2] M = _
        unfold e_t208_4
        simp [zq_a, zq_b, zq_c, zq_d, zq_e, zq_f, zq_g, zq_h, zq_i, zq_j, zq_k, zq_l, zq_m, zq_n, zq_o, zq_p, zq_q, zq_r, zq_s, zq_t, zq_u, zq_v, zq_w, zq_x, zq_y, zq_z, zq_A, zq_B, zq_C, zq_D, zq_E, zq_F, zq_G, zq_H, zq_I, zq_J, zq_K, zq_L, ↓zq_M, ↓zq_N, ↓zq_O, ↓zq_P, ↓zq_Q, ↓zq_R, zq_S, zq_T, zq_U, zq_V, zq_W, zq_X, zq_Y, zq_Z, zq_0, zq_1, zq_2, zq_3, zq_4, zq_5, ↓zq_6, ↓zq_7, ↓zq_8, ↓zq_9, ↓zq_aa, zq_ab, zq_ac, zq_ad, zq_ae, zq_af, zq_ag, ↓zq_ah, ↓zq_ai, ↓zq_aj, zq_ak, ↓zq_al, ↓zq_am, e_b1, e_b2, x_o1, x_o2, r_O25, q, l1, l2, p1, p2, c', c_n]
      · rw [if_neg (by omega)] at ecb
        have k := ih (u + 1) b x1 (x2 + 1) (by omega) (by omega) (by omega) (by rw [show u + 1 - 1 = u by omega, ecb]) hx1
        have c' : ¬ (x1 * s b < x2 * s u) := by rw [hx1, hx]; omega
        have c_n : x2 * s u ≤ x1 * s b := by omega
        rw [← k, ← s32]
        clear ih k s32 hs hb ecb c
        rw [E_V_eq]
        show e_tv E_C (E_V 208) e_t208_4 [192, x1, x2] M = _
        unfold e_t208_4
        simp [zq_a, zq_b, zq_c, zq_d, zq_e, zq_f, zq_g, zq_h, zq_i, zq_j, zq_k, zq_l, zq_m, zq_n, zq_o, zq_p, zq_q, zq_r, zq_s, zq_t, zq_u, zq_v, zq_w, zq_x, zq_y, zq_z, zq_A, zq_B, zq_C, zq_D, zq_E, zq_F, zq_G, zq_H, zq_I, zq_J, zq_K, zq_L, ↓zq_M, ↓zq_N, ↓zq_O, ↓zq_P, ↓zq_Q, ↓zq_R, zq_S, zq_T, zq_U, zq_V, zq_W, zq_X, zq_Y, zq_Z, zq_0, zq_1, zq_2, zq_3, zq_4, zq_5, ↓zq_6, ↓zq_7, ↓zq_8, ↓zq_9, ↓zq_aa, zq_ab, zq_ac, zq_ad, zq_ae, zq_af, zq_ag, ↓zq_ah, ↓zq_ai, ↓zq_aj, zq_ak, ↓zq_al, ↓zq_am, e_b1, e_b2, x_o1, x_o2, r_O25, q, l1, l2, p1, p2, c', c_n]
  have k := lp 500 1 0 0 1 rfl rfl (by decide) rfl rfl
  rw [r_ent (show e_rok 208 [192] = true from decide_eq_true r_ref)]
  show e_tv E_C (E_V 208) e_t208_0 [192, 0, 0] M = _
  unfold e_t208_0
  simp [zq_a, zq_b, zq_c, zq_d, zq_e, zq_f, zq_g, zq_h, zq_i, zq_j, zq_k, zq_l, zq_m, zq_n, zq_o, zq_p, zq_q, zq_r, zq_s, zq_t, zq_u, zq_v, zq_w, zq_x, zq_y, zq_z, zq_A, zq_B, zq_C, zq_D, zq_E, zq_F, zq_G, zq_H, zq_I, zq_J, zq_K, zq_L, ↓zq_M, ↓zq_N, ↓zq_O, ↓zq_P, ↓zq_Q, ↓zq_R, zq_S, zq_T, zq_U, zq_V, zq_W, zq_X, zq_Y, zq_Z, zq_0, zq_1, zq_2, zq_3, zq_4, zq_5, ↓zq_6, ↓zq_7, ↓zq_8, ↓zq_9, ↓zq_aa, zq_ab, zq_ac, zq_ad, zq_ae, zq_af, zq_ag, ↓zq_ah, ↓zq_ai, ↓zq_aj, zq_ak, ↓zq_al, ↓zq_am, e_b1, e_b2, x_o1, x_o2, k]
end BXV
/-! what the class and the reference hold of a PART, between calls -/
def hd_all (M : EM) : Prop := h_B M 0 (r_G M) ∧ h_C M 0 (r_G M) ∧ hd_D M 0 (r_G M) ∧ M 171 0 = 0
/-- a PART, spread out -/
theorem ax_1 {M : EM} {p : Nat} (h : hd_all M) (hp : (p : Int) < r_G M 1198) : ∃ N, E_C 1 [170, (p : Int)] M = some (0, N) ∧ bx_XL M (r_G M) (cu_ln (r_G M) (cu_in (r_G M) (p : Int))) (cu_nl (r_G M) (cu_in (r_G M) (p : Int))) ∧ bx_SP (r_G M) M N (cu_ln (r_G M) (cu_in (r_G M) (p : Int))) (cu_nl (r_G M) (cu_in (r_G M) (p : Int))) ∧ bx_ND (r_G M) (hd_SH (r_G M)) (hd_WM (r_G M)) (hd_DI (r_G M)) (cu_ln (r_G M) (cu_in (r_G M) (p : Int))) (cu_nl (r_G M) (cu_in (r_G M) (p : Int))) N ∧ N 170 7 = (if r_G M (28 * cu_in (r_G M) (p : Int)) = 2 then 1 else 0) ∧ (∀ id, id < 162 → N id = M id) ∧ N 171 0 = 0 := by
  obtain ⟨hB, hC, hD, h171⟩ := h
  have h40 := hB.2.1.2
  obtain ⟨N, k, kS, k7⟩ := bx_1 hB hD hp h171
  -- the inner PART is none over one
  have inn : ∃ y : Nat, cu_in (r_G M) (p : Int) = y ∧ (y : Int) < r_G M 1198 ∧ r_G M (28 * (y : Int)) ≠ 3 := by
    obtain ⟨-, -, -, d3⟩ := hD p hp
    by_cases c : r_G M (28 * (p : Int)) = 3
    · obtain ⟨⟨c1, c2, c3, ⟨m1, m2, m3, m4, m5⟩, c5⟩, -⟩ := d3 c
      have e0 : (28 * (p : Int) + 3 + ((0 : Nat) : Int)) = 28 * (p : Int) + 3 := by omega
      rw [e0] at m1 m2 m3 c5
      obtain ⟨y, hy⟩ : ∃ y : Nat, r_G M (28 * (p : Int) + 3) = y := ⟨(r_G M (28 * (p : Int) + 3)).toNat, by omega⟩
      refine ⟨y, ?_, by omega, by rw [← hy]; exact c5⟩
      unfold cu_in
      rw [if_pos c, hy]
    · refine ⟨p, ?_, hp, c⟩
      unfold cu_in
      rw [if_neg c]
  obtain ⟨y, hy, y1, y3⟩ := inn
  rw [hy] at k7 kS ⊢
  obtain ⟨l1, ok, cap, capg⟩ := bx_lines h40 hB hD y1 y3
  obtain ⟨f1, f2, f3⟩ := hd_spread h40 hC hD ok kS
  refine ⟨N, k, ⟨l1, ok, cap, capg⟩, kS, ⟨f1, kS.1, kS.2.2.1, kS.2.2.2.1, f2, f3⟩, k7, fun id hid => funext fun k => kS.2.2.2.2.2.2.2.1 _ _ (by omega), ?_⟩
  exact kS.2.2.2.1 0 (Nat.zero_le _)
end
