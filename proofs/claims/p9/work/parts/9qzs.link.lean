/-! the bench and the reference's PARTS: one PUSH, one CURRENT -/
section BXL
variable {g : Int → Int} {SH WM : Int → Int} {DI : Int → Nat → Int}
/-- the bench, drawn: lines X -/
def bx_RD (g : Int → Int) (SH WM : Int → Int) (DI : Int → Nat → Int) (X : Nat → Int) (L : Nat) (B : EM) : Prop := B 170 5 = (L : Int) ∧ (∀ l, l ≤ L → B 171 l = (bx_oc g X l : Int)) ∧ (∀ l k, l < L → k < bx_nc g (X l) → B 173 (bx_oc g X l + k) = (bx_og g X l : Int) + bx_gr g (X l) k ∧ ∀ c : Nat, c < 100 → B 179 (40 * c + (bx_oc g X l + k)) = cu_v g SH WM (bx_ce g (X l) k) (c : Int)) ∧ ∀ l y, l < L → y < bx_ng g (X l) → B 172 (bx_og g X l + y) = if g (28 * X l) = 0 then 0 else DI (X l) y
theorem bx_lowp {M : EM} {X : Nat → Int} {L l : Nat} {B : EM} {l0 base cc : Int} {b : Nat} (ok : bx_ok M g (X l)) (hl : l < L) (hL6 : L ≤ 6) (hl0 : l0 = l) (hoc : bx_oc g X L ≤ 40) (hog : bx_og g X L ≤ 40) (h171 : ∀ l, l ≤ L → B 171 l = (bx_oc g X l : Int)) (h173 : ∀ k, k < bx_nc g (X l) → B 173 (bx_oc g X l + k) = (bx_og g X l : Int) + bx_gr g (X l) k) (h172 : ∀ y, y < bx_ng g (X l) → B 172 (bx_og g X l + y) = if g (28 * X l) = 0 then 0 else DI (X l) y) (hb : base = b) (hb4 : b + 40 ≤ 4040) (h179 : ∀ k, k < bx_nc g (X l) → B 179 (b + (bx_oc g X l + k)) = cu_v g SH WM (bx_ce g (X l) k) cc) (hv : ∀ k, k < bx_nc g (X l) → -20 ≤ cu_v g SH WM (bx_ce g (X l) k) cc ∧ cu_v g SH WM (bx_ce g (X l) k) cc ≤ 60) : E_C 15 [170, l0, base] B = some (cu_low g SH WM DI (X l) cc, B) := by
  have m1 := bx_oc_m (g := g) (X := X) (L - (l + 1)) (l + 1)
  have m2 := bx_og_m (g := g) (X := X) (L - (l + 1)) (l + 1)
  rw [show l + 1 + (L - (l + 1)) = L by omega] at m1 m2
  have m1 : bx_oc g X l + bx_nc g (X l) ≤ bx_oc g X L := m1
  have m2 : bx_og g X l + bx_ng g (X l) ≤ bx_og g X L := m2
  obtain ⟨z, z1, z2, z3⟩ := ok
  have a1 := h171 l (by omega)
  have a2 := h171 (l + 1) hl
  have a2 : B 171 (l + 1) = ((bx_oc g X l + bx_nc g (X l) : Nat) : Int) := a2
  rcases z3 with z3 | ⟨z3, n, gr, ⟨⟨n1, n8, ngr⟩, b1, b2, b3, b4, b5, b6⟩⟩
  · have k0 : g (28 * X l) = 0 := by rw [z1]; exact z3
    have en : bx_nc g (X l) = 1 := if_pos k0
    have eg : bx_ng g (X l) = 1 := if_pos k0
    rw [en] at a2 m1 h173 h179 hv
    rw [eg] at m2 h172
    have k := bx_15 (l0 := l0) (base := base) (G := fun _ => 0) (n := 1) (gr := 1) hl0 (by omega) a1 a2 (by omega) (show bx_og g X l + 1 ≤ 40 by omega) hb hb4 (by decide) (by decide) ⟨fun e => absurd e (by decide), fun _ => ⟨rfl, by decide⟩, fun j hj => absurd hj (by omega)⟩ (fun k hk => by
      rw [h173 k hk, show bx_gr g (X l) k = 0 from if_pos k0]) (fun k hk => by
      rw [h179 k hk]
      have := hv k hk
      omega)
    rw [k]
    refine congrArg some (congrArg (·, B) ?_)
    unfold cu_low
    rw [if_pos k0]
    show 0 + cu_cl (B 172 (bx_og g X l + 0)) (0 + (if (0 : Int) = ((0 : Nat) : Int) then B 179 (b + (bx_oc g X l + 0)) else 0)) = _
    rw [h172 0 (by decide), if_pos k0, h179 0 (by decide), if_pos (show (0 : Int) = ((0 : Nat) : Int) from rfl), show bx_ce g (X l) 0 = X l from if_pos k0, Int.zero_add, Int.zero_add]
    exact if_neg (fun e => e.1 rfl)
  · have kn : ¬ g (28 * X l) = 0 := by rw [z1]; omega
    have en : bx_nc g (X l) = n := by
      unfold bx_nc
      rw [if_neg kn, z1, b1, Int.toNat_natCast]
    have eg : bx_ng g (X l) = gr := by
      unfold bx_ng
      rw [if_neg kn, z1, b3, Int.toNat_natCast]
    rw [en] at a2 m1 h173 h179 hv
    rw [eg] at m2 h172
    have k := bx_15 (l0 := l0) (base := base) (G := fun k => g (28 * (z : Int) + 11 + (k : Int))) (n := n) (gr := gr) hl0 (by omega) a1 a2 (by omega) (show bx_og g X l + gr ≤ 40 by omega) hb hb4 n8 (by omega) b5 (fun k hk => by
      rw [h173 k hk, show bx_gr g (X l) k = g (28 * X l + 11 + (k : Int)) from if_neg kn, z1]) (fun k hk => by
      rw [h179 k hk]
      have := hv k hk
      omega)
    rw [k]
    refine congrArg some (congrArg (·, B) ?_)
    unfold cu_low
    rw [if_neg kn, z1, b1, b3, Int.toNat_natCast, Int.toNat_natCast]
    refine cu_R_cg (fun k hk => ⟨rfl, ?_⟩) gr (fun y hy => ?_)
    · show B 179 (b + (bx_oc g X l + k)) = _
      rw [h179 k hk, show bx_ce g (X l) k = g (28 * X l + 3 + (k : Int)) from if_neg kn, z1]
    · show B 172 (bx_og g X l + y) = _
      rw [h172 y hy, if_neg kn, z1]
theorem bx_lowm {M : EM} {x : Int} (ok : bx_ok M g x) (hv : ∀ k, k < bx_nc g x → ∀ c : Int, 0 ≤ c → cu_v g SH WM (bx_ce g x k) (c + 1) ≤ cu_v g SH WM (bx_ce g x k) c) {c : Int} (hc : 0 ≤ c) : cu_low g SH WM DI x (c + 1) ≤ cu_low g SH WM DI x c := by
  obtain ⟨z, rfl, z2, z3⟩ := ok
  unfold cu_low
  rcases z3 with z3 | ⟨z3, n, gr, ⟨-, b1, -, b3, -, -, b6⟩⟩
  · rw [if_pos z3, if_pos z3]
    have := hv 0 (by rw [show bx_nc g (z : Int) = 1 from if_pos z3]; decide) c hc
    rw [show bx_ce g (z : Int) 0 = z from if_pos z3] at this
    exact this
  · have kn : ¬ g (28 * (z : Int)) = 0 := by omega
    have en : bx_nc g (z : Int) = n := by
      unfold bx_nc
      rw [if_neg kn, b1, Int.toNat_natCast]
    rw [if_neg kn, if_neg kn]
    refine cu_R_mono (fun k hk => ?_) _
    rw [b1, Int.toNat_natCast] at hk
    have := hv k (by omega) c hc
    rw [show bx_ce g (z : Int) k = g (28 * (z : Int) + 3 + (k : Int)) from if_neg kn] at this
    exact this
/-- SHARES and WARMS in their bounds, for CELLS -/
def bx_bd (g : Int → Int) (SH WM : Int → Int) : Prop := ∀ q : Nat, (q : Int) < g 1198 → g (28 * (q : Int)) = 0 → (0 ≤ SH q ∧ SH q ≤ 100) ∧ 0 ≤ WM q ∧ WM q ≤ 100
theorem bx_vbd {M : EM} {x : Int} (hD : hd_D M 0 g) (hbd : bx_bd g SH WM) (ok : bx_ok M g x) {k : Nat} (hk : k < bx_nc g x) {c : Int} (hc : 0 ≤ c) : (-20 ≤ cu_v g SH WM (bx_ce g x k) c ∧ cu_v g SH WM (bx_ce g x k) c ≤ 60) ∧ cu_v g SH WM (bx_ce g x k) (c + 1) ≤ cu_v g SH WM (bx_ce g x k) c := by
  obtain ⟨z, rfl, z2, z3⟩ := ok
  have cell : ∀ q : Nat, (q : Int) < g 1198 → g (28 * (q : Int)) = 0 → (-20 ≤ cu_v g SH WM (q : Int) c ∧ cu_v g SH WM (q : Int) c ≤ 60) ∧ cu_v g SH WM (q : Int) (c + 1) ≤ cu_v g SH WM (q : Int) c := fun q h1 h2 => cu_v_bd ((hD q h1).1 h2).1 (hbd q h1 h2).1 (hbd q h1 h2).2 hc
  rcases z3 with z3 | ⟨z3, n, gr, ⟨-, b1, -, b3, -, -, b6⟩⟩
  · rw [show bx_ce g (z : Int) k = z from if_pos z3]
    exact cell z z2 z3
  · have kn : ¬ g (28 * (z : Int)) = 0 := by omega
    have en : bx_nc g (z : Int) = n := by
      unfold bx_nc
      rw [if_neg kn, b1, Int.toNat_natCast]
    obtain ⟨⟨m1, m2, m3, -, -⟩, c2, -⟩ := b6 k (by omega)
    rw [show bx_ce g (z : Int) k = g (28 * (z : Int) + 3 + (k : Int)) from if_neg kn]
    obtain ⟨q, hq⟩ : ∃ q : Nat, g (28 * (z : Int) + 3 + (k : Int)) = q := ⟨(g (28 * (z : Int) + 3 + (k : Int))).toNat, by omega⟩
    rw [hq] at c2 ⊢
    exact cell q (by omega) c2
theorem bx_RD_FL {M B : EM} {X : Nat → Int} {L : Nat} (hD : hd_D M 0 g) (hbd : bx_bd g SH WM) (ok : ∀ l, l < L → bx_ok M g (X l)) (hL6 : L ≤ 6) (hoc : bx_oc g X L ≤ 40) (hog : bx_og g X L ≤ 40) (h : bx_RD g SH WM DI X L B) : bx_FL B (fun l c => cu_low g SH WM DI (X l) (c : Int)) L := by
  obtain ⟨r1, r2, r3, r4⟩ := h
  intro l c l0 b0 N hl hc hl0 hb0 hN
  have e : ∀ id k, id = 171 ∨ id = 172 ∨ id = 173 ∨ id = 179 → N id k = B id k := fun id k h => hN id k (by omega) (by omega) (by omega)
  exact bx_lowp (M := M) (b := 40 * c) (ok l hl) hl hL6 hl0 hoc hog (fun l h => (e _ _ (by omega)).trans (r2 l h)) (fun k hk => (e _ _ (by omega)).trans (r3 l k hl hk).1) (fun y hy => (e _ _ (by omega)).trans (r4 l y hl hy)) (by omega) (by omega) (fun k hk => (e _ _ (by omega)).trans ((r3 l k hl hk).2 c hc)) (fun k hk => (bx_vbd hD hbd (ok l hl) hk (by omega)).1)
/-- CURRENTS of a bench that is drawn, from lo to hi -/
theorem bx_cur {M B : EM} {X : Nat → Int} {L n : Nat} {lo hi : Int} (hD : hd_D M 0 g) (hbd : bx_bd g SH WM) (ok : ∀ l, l < L → bx_ok M g (X l)) (hL6 : L ≤ 6) (hoc : bx_oc g X L ≤ 40) (hog : bx_og g X L ≤ 40) (h : bx_RD g SH WM DI X L B) (hlo : -1000 ≤ lo ∧ lo ≤ 1000) (hn : hi - lo + 1 = n) (hn9 : n ≤ 1000) : ∃ M', E_C 17 [170, lo, hi] B = some (0, M') ∧ M' 170 6 = lo ∧ (∀ k, k < n → M' 181 k = cu_S (fun l c => cu_low g SH WM DI (X l) (c : Int)) (lo + (k : Int)) L) ∧ ∀ id k, id ≠ 180 → id ≠ 181 → ¬ (id = 170 ∧ k = 6) → M' id k = B id k :=
  bx_17 h.1 hL6 hlo hn hn9 (bx_RD_FL hD hbd ok hL6 hoc hog h) (fun l hl c hc => by
    have := bx_lowm (DI := DI) (ok l hl) (fun k hk c hc => (bx_vbd hD hbd (ok l hl) hk hc).2) (c := (c : Int)) (by omega)
    show cu_low g SH WM DI (X l) ((c + 1 : Nat) : Int) ≤ _
    rw [show ((c + 1 : Nat) : Int) = (c : Int) + 1 by omega]
    exact this)
/-- all drawn: from what is known of the CELLS on the bench -/
theorem bx_draw {M N : EM} {X : Nat → Int} {L : Nat} (h40 : g 1198 ≤ 40) (hD : hd_D M 0 g) (e : ∀ id, id < 162 → N id = M id) (hoc : bx_oc g X L ≤ 40) (hk : ∀ j, j < bx_oc g X L → bx_kn g SH WM N j) (h0 : N 170 0 = (bx_oc g X L : Int)) (h5 : N 170 5 = (L : Int)) (h171 : ∀ l, l ≤ L → N 171 l = (bx_oc g X l : Int)) (h174 : ∀ l k, l < L → k < bx_nc g (X l) → N 174 (bx_oc g X l + k) = bx_ce g (X l) k ∧ N 173 (bx_oc g X l + k) = (bx_og g X l : Int) + bx_gr g (X l) k) (h172 : ∀ l y, l < L → y < bx_ng g (X l) → N 172 (bx_og g X l + y) = if g (28 * X l) = 0 then 0 else DI (X l) y) : ∃ M', E_C 11 [170] N = some (0, M') ∧ bx_RD g SH WM DI X L M' ∧ ∀ id k, ¬ (177 ≤ id ∧ id ≤ 179) → M' id k = N id k := by
  obtain ⟨M', k, k2, k3⟩ := bx_11 (n := bx_oc g X L) h0 hoc h40 (fun q hq h0 => bx_d0_cg e ((hD q hq).1 h0)) hk
  refine ⟨M', k, ⟨(k3 _ _ (by decide)).trans h5, fun l hl => (k3 _ _ (by decide)).trans (h171 l hl), fun l k' hl hk' => ⟨(k3 _ _ (by decide)).trans (h174 l k' hl hk').2, fun c hc => ?_⟩, fun l y hl hy => (k3 _ _ (by decide)).trans (h172 l y hl hy)⟩, k3⟩
  have m1 := bx_oc_m (g := g) (X := X) (L - (l + 1)) (l + 1)
  rw [show l + 1 + (L - (l + 1)) = L by omega] at m1
  have m1 : bx_oc g X l + bx_nc g (X l) ≤ bx_oc g X L := m1
  rw [k2 _ c (by omega) hc, (h174 l k' hl hk').1]
/-! how things stand as told -/
def hd_SH (g : Int → Int) (q : Int) : Int := if g (28 * q + 19) = 0 then (g (28 * q + 15) * (100 - g (28 * q + 16)) * (100 - g (28 * q + 17))).tdiv 10000 else 0
def hd_WM (g : Int → Int) (q : Int) : Int := g (28 * q + 18)
def hd_DI (g : Int → Int) (q : Int) (y : Nat) : Int := if g (28 * q + 20 + (y : Int)) = 1 then 1 else 0
theorem hd_bd {M : EM} (hC : h_C M 0 g) : bx_bd g (hd_SH g) (hd_WM g) := by
  intro q hq hk
  obtain ⟨c1, c2, -⟩ := hC q hq hk
  have a0 := c1 0 (by decide)
  have a1 := c1 1 (by decide)
  have a2 := c1 2 (by decide)
  have a3 := c1 3 (by decide)
  rw [show 28 * (q : Int) + 15 + ((0 : Nat) : Int) = 28 * (q : Int) + 15 by omega] at a0
  rw [show 28 * (q : Int) + 15 + ((1 : Nat) : Int) = 28 * (q : Int) + 16 by omega] at a1
  rw [show 28 * (q : Int) + 15 + ((2 : Nat) : Int) = 28 * (q : Int) + 17 by omega] at a2
  rw [show 28 * (q : Int) + 15 + ((3 : Nat) : Int) = 28 * (q : Int) + 18 by omega] at a3
  refine ⟨?_, a3.2⟩
  unfold hd_SH
  by_cases z : g (28 * (q : Int) + 19) = 0
  · rw [if_pos z]
    exact (bx_shv a0.2 a1.2 a2.2).2
  · rw [if_neg z]
    decide
/-- a CELL on the bench, as told -/
theorem hd_kn {M N : EM} {j q : Nat} (hC : h_C M 0 g) (hq : (q : Int) < g 1198) (hk : g (28 * (q : Int)) = 0) {y : Int} (hc : bx_cell M N j q y) : bx_kn g (hd_SH g) (hd_WM g) N j := by
  obtain ⟨c1, c2, -⟩ := hC q hq hk
  obtain ⟨d1, d2, d3, d4⟩ := hc
  have f : ∀ a, a < 4 → N 175 (4 * j + a) = g (28 * (q : Int) + 15 + (a : Int)) ∧ 0 ≤ g (28 * (q : Int) + 15 + (a : Int)) ∧ g (28 * (q : Int) + 15 + (a : Int)) ≤ 100 := fun a ha => by
    obtain ⟨z1, z2⟩ := c1 a ha
    exact ⟨(d4 a ha).trans z1, z2⟩
  have a0 := (f 0 (by decide)).1
  have a1 := (f 1 (by decide)).1
  have a2 := (f 2 (by decide)).1
  have a3 := (f 3 (by decide)).1
  rw [show 28 * (q : Int) + 15 + ((0 : Nat) : Int) = 28 * (q : Int) + 15 by omega, Nat.add_zero] at a0
  rw [show 28 * (q : Int) + 15 + ((1 : Nat) : Int) = 28 * (q : Int) + 16 by omega] at a1
  rw [show 28 * (q : Int) + 15 + ((2 : Nat) : Int) = 28 * (q : Int) + 17 by omega] at a2
  rw [show 28 * (q : Int) + 15 + ((3 : Nat) : Int) = 28 * (q : Int) + 18 by omega] at a3
  refine ⟨q, d1, hq, hk, fun a ha => by rw [(f a ha).1]; exact (f a ha).2, ?_, a3⟩
  have c2' : M 22 q = g (28 * (q : Int) + 19) := c2.1
  unfold bx_sh hd_SH
  rw [d3, c2', a0, a1, a2]
/-- of a PART spread out -/
theorem hd_spread {M N : EM} {X : Nat → Int} {L : Nat} (h40 : g 1198 ≤ 40) (hC : h_C M 0 g) (hD : hd_D M 0 g) (ok : ∀ l, l < L → bx_ok M g (X l)) (hS : bx_SP g M N X L) : (∀ j, j < bx_oc g X L → bx_kn g (hd_SH g) (hd_WM g) N j) ∧ (∀ l k, l < L → k < bx_nc g (X l) → N 174 (bx_oc g X l + k) = bx_ce g (X l) k ∧ N 173 (bx_oc g X l + k) = (bx_og g X l : Int) + bx_gr g (X l) k) ∧ ∀ l y, l < L → y < bx_ng g (X l) → N 172 (bx_og g X l + y) = if g (28 * X l) = 0 then 0 else hd_DI g (X l) y := by
  obtain ⟨a1, a2, a3, a4, a5, a6, a7, a8, a9⟩ := hS
  refine ⟨fun j hj => ?_, fun l k hl hk => ?_, fun l y hl hy => ?_⟩
  · obtain ⟨l, k, h1, h2, h3, -⟩ := bx_fc_at L j hj
    have c := a5 l k h1 h2
    rw [← h3] at c
    have b := bx_ok_ce h40 (ok l h1) h2
    obtain ⟨z, z1, z2, z3⟩ := ok l h1
    obtain ⟨q, hq⟩ : ∃ q : Nat, bx_ce g (X l) k = q := ⟨(bx_ce g (X l) k).toNat, by omega⟩
    rw [hq, Int.toNat_natCast] at c
    have qq : (q : Int) < g 1198 ∧ g (28 * (q : Int)) = 0 := by
      rcases z3 with z3 | ⟨z3, n, gr, ⟨-, b1, -, b3, -, -, b6⟩⟩
      · have e : bx_ce g (X l) k = X l := if_pos (by rw [z1]; exact z3)
        rw [← hq, e, z1]
        exact ⟨z2, z3⟩
      · have kn : ¬ g (28 * X l) = 0 := by rw [z1]; omega
        have en : bx_nc g (X l) = n := by
          unfold bx_nc
          rw [if_neg kn, z1, b1, Int.toNat_natCast]
        obtain ⟨⟨m1, m2, m3, -, -⟩, c2, -⟩ := b6 k (by omega)
        have e : bx_ce g (X l) k = g (28 * X l + 3 + (k : Int)) := if_neg kn
        rw [← hq, e, z1]
        exact ⟨by omega, c2⟩
    exact hd_kn hC qq.1 qq.2 c
  · obtain ⟨d1, d2, -, -⟩ := a5 l k hl hk
    have b := bx_ok_ce h40 (ok l hl) hk
    exact ⟨by rw [d1]; omega, d2⟩
  · rw [a6 l y hl hy]
    unfold bx_di
    by_cases c : g (28 * X l) = 0
    · rw [if_pos c, if_pos c]
    · rw [if_neg c, if_neg c]
      obtain ⟨z, z1, z2, z3⟩ := ok l hl
      rcases z3 with z3 | ⟨z3, n, gr, ⟨-, b1, -, b3, -, b5, b6⟩⟩
      · rw [z1] at c
        exact absurd z3 c
      · have eg : bx_ng g (X l) = gr := by
          unfold bx_ng
          rw [if_neg c, z1, b3, Int.toNat_natCast]
        obtain ⟨i, i1, i2⟩ := cu_gp_on b5 y (by omega)
        have i2 : g (28 * (z : Int) + 11 + (i : Int)) = y := i2
        obtain ⟨-, -, -, e4, e5⟩ := b6 i i1
        rw [i2] at e4
        rw [e4] at e5
        unfold hd_DI
        rw [z1]
        rcases e5 with e5 | e5
        · rw [e5]; rfl
        · rw [e5]; rfl
end BXL
