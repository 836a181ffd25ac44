/-! BEST of a PART: class and reference -/
section BXV
variable {g : Int → Int} {SH WM : Int → Int} {DI : Int → Nat → Int}
/-- CELLS on the bench, known; lines X -/
def bx_ND (g : Int → Int) (SH WM : Int → Int) (DI : Int → Nat → Int) (X : Nat → Int) (L : Nat) (N : EM) : Prop := (∀ j, j < bx_oc g X L → bx_kn g SH WM N j) ∧ N 170 0 = (bx_oc g X L : Int) ∧ N 170 5 = (L : Int) ∧ (∀ l, l ≤ L → N 171 l = (bx_oc g X l : Int)) ∧ (∀ l k, l < L → k < bx_nc g (X l) → N 174 (bx_oc g X l + k) = bx_ce g (X l) k ∧ N 173 (bx_oc g X l + k) = (bx_og g X l : Int) + bx_gr g (X l) k) ∧ ∀ l y, l < L → y < bx_ng g (X l) → N 172 (bx_og g X l + y) = if g (28 * X l) = 0 then 0 else DI (X l) y
/-- lines of a PART -/
def bx_XL (M : EM) (g : Int → Int) (X : Nat → Int) (L : Nat) : Prop := (1 ≤ L ∧ L ≤ 6) ∧ (∀ l, l < L → bx_ok M g (X l)) ∧ bx_oc g X L ≤ 40 ∧ bx_og g X L ≤ 40
def bx_s (g : Int → Int) (SH WM : Int → Int) (DI : Int → Nat → Int) (X : Nat → Int) (L : Nat) (u : Int) : Int := cu_S (fun l c => cu_low g SH WM DI (X l) (c : Int)) u L
theorem bx_s_bd {X : Nat → Int} {L : Nat} {u : Int} (h : L ≤ 6) : 0 ≤ bx_s g SH WM DI X L u ∧ bx_s g SH WM DI X L u ≤ 600 := by
  have := cu_S_bd (F := fun l c => cu_low g SH WM DI (X l) (c : Int)) (u := u) L
  unfold bx_s
  omega
theorem bx_21 {M N : EM} {X : Nat → Int} {L : Nat} (h40 : g 1198 ≤ 40) (hD : hd_D M 0 g) (e : ∀ id, id < 162 → N id = M id) (hbd : bx_bd g SH WM) (hX : bx_XL M g X L) (hN : bx_ND g SH WM DI X L N) : ∃ M', E_C 21 [170] N = some (0, M') ∧ M' 170 6 = 0 ∧ (∀ u : Nat, u ≤ 500 → M' 181 u = bx_s g SH WM DI X L (u : Int)) ∧ M' 170 2 = (cu_b (fun u => bx_s g SH WM DI X L (u : Int)) 500 : Int) ∧ M' 170 1 = (cu_b (fun u => bx_s g SH WM DI X L (u : Int)) 500 : Int) * bx_s g SH WM DI X L (cu_b (fun u => bx_s g SH WM DI X L (u : Int)) 500 : Int) ∧ ∀ id k, ¬ (177 ≤ id ∧ id ≤ 181) → ¬ (id = 170 ∧ (k = 1 ∨ k = 2 ∨ k = 6)) → M' id k = N id k := by
  obtain ⟨⟨L1, L6⟩, ok, hoc, hog⟩ := hX
  obtain ⟨n1, n2, n3, n4, n5, n6⟩ := hN
  obtain ⟨A, a1, a2, a3⟩ := bx_draw h40 hD e hoc n1 n2 n3 n4 n5 n6
  obtain ⟨B, b1, b2, b3, b4⟩ := bx_cur (lo := 0) (hi := 500) (n := 501) hD hbd ok L6 hoc hog a2 (by decide) rfl (by decide)
  have sB : ∀ u : Nat, u ≤ 500 → B 181 u = bx_s g SH WM DI X L (u : Int) := fun u hu => by
    have := b3 u (by omega)
    rw [Int.zero_add] at this
    exact this
  obtain ⟨C, c1, c2, c3, c4⟩ := bx_22 (s := fun u => bx_s g SH WM DI X L (u : Int)) b2 sB (fun u _ => by have := bx_s_bd (g := g) (SH := SH) (WM := WM) (DI := DI) (X := X) (u := (u : Int)) L6; omega)
  refine ⟨C, ?_, (c4 _ _ (by omega)).trans b2, fun u hu => (c4 _ _ (by omega)).trans (sB u hu), c2, c3, fun id k h1 h2 => (c4 _ _ (by omega)).trans ((b4 _ _ (by omega) (by omega) (by omega)).trans (a3 _ _ (by omega)))⟩
  rw [r_ent (show e_rok 21 [170] = true from bx_r (M := M) rfl (by decide +kernel))]
  show e_tv E_C (E_V 21) e_t21_0 [170] N = _
  unfold e_t21_0
  simp [e_tv, e_ev, e_sv, e_b1, e_b2, x_o1, x_o2, a1, b1, c1]
/-- the reference's bestOf -/
theorem rx_208 {M : EM} {s : Nat → Int} (hs : ∀ u, u ≤ 500 → M 205 u = s u) (hb : ∀ u, u ≤ 500 → 0 ≤ s u ∧ s u ≤ 1000) : E_C 208 [192] M = some ((cu_b s 500 : Int), M) := by
  have lp : ∀ (d u b : Nat) (x1 x2 : Int), x2 = u → u + d = 501 → 1 ≤ u → b = cu_b s (u - 1) → x1 = b → E_V 208 4 [192, x1, x2] M = some ((cu_b s 500 : Int), M) := by
    intro d
    induction d with
    | zero =>
      intro u b x1 x2 hx hu h1 hb' hx1
      have q : ¬ (x2 ≤ 500) := by omega
      have e : u - 1 = 500 := by omega
      rw [e] at hb'
      rw [← hb', ← hx1]
      rw [E_V_eq]
      show e_tv E_C (E_V 208) e_t208_4 [192, x1, x2] M = _
      unfold e_t208_4
      simp [e_tv, e_ev, e_sv, e_b1, e_b2, x_o1, x_o2, q]
    | succ d ih =>
      intro u b x1 x2 hx hu h1 hb' hx1
      have q : x2 ≤ 500 := by omega
      have bl := cu_b_le (s := s) (u - 1)
      have l2 : e_op 60 [205, x2] M = some (s u) := (r_rd5 (by omega) (by omega)).trans (by rw [show x2.toNat = u by omega, hs u (by omega)])
      have l1 : e_op 60 [205, x1] M = some (s b) := (r_rd5 (by omega) (by omega)).trans (by rw [show x1.toNat = b by omega, hs b (by omega)])
      have p2 := (bx_pw (u := x2) (z := s u) ⟨by omega, by omega⟩ (hb u (by omega))).1
      have p1 := (bx_pw (u := x1) (z := s b) ⟨by omega, by omega⟩ (hb b (by omega))).1
      have w : e_w (x2 + 1) = x2 + 1 := a_w_id (by omega) (by omega)
      have s32 : ∀ y1, E_V 208 32 [192, y1, x2] M = E_V 208 4 [192, y1, x2 + 1] M := fun y1 => by
        rw [E_V_eq]
        show e_tv E_C (E_V 208) e_t208_32 [192, y1, x2] M = _
        unfold e_t208_32
        simp [e_tv, e_ev, e_sv, e_b1, e_b2, x_o1, x_o2, w]
      have ecb : cu_b s u = if (b : Int) * s b < (u : Int) * s u then u else b := by
        obtain ⟨v, rfl⟩ : ∃ v, u = v + 1 := ⟨u - 1, by omega⟩
        rw [show v + 1 - 1 = v by omega] at hb'
        rw [hb']
        rfl
      rcases Int.lt_or_le ((b : Int) * s b) ((u : Int) * s u) with c | c
      · rw [if_pos c] at ecb
        have k := ih (u + 1) u x2 (x2 + 1) (by omega) (by omega) (by omega) (by rw [show u + 1 - 1 = u by omega, ecb]) hx
        have c' : x1 * s b < x2 * s u := by rw [hx1, hx]; exact c
        have c_n : ¬ (x2 * s u ≤ x1 * s b) := by omega
        rw [← k, ← s32]
        clear ih k s32 hs hb ecb c
        rw [E_V_eq]
        show e_tv E_C (E_V 208) e_t208_4 [192, x1, x2] M = _
        unfold e_t208_4
        simp [e_tv, e_ev, e_sv, e_b1, e_b2, x_o1, x_o2, r_O25, q, l1, l2, p1, p2, c', c_n]
      · rw [if_neg (by omega)] at ecb
        have k := ih (u + 1) b x1 (x2 + 1) (by omega) (by omega) (by omega) (by rw [show u + 1 - 1 = u by omega, ecb]) hx1
        have c' : ¬ (x1 * s b < x2 * s u) := by rw [hx1, hx]; omega
        have c_n : x2 * s u ≤ x1 * s b := by omega
        rw [← k, ← s32]
        clear ih k s32 hs hb ecb c
        rw [E_V_eq]
        show e_tv E_C (E_V 208) e_t208_4 [192, x1, x2] M = _
        unfold e_t208_4
        simp [e_tv, e_ev, e_sv, e_b1, e_b2, x_o1, x_o2, r_O25, q, l1, l2, p1, p2, c', c_n]
  have k := lp 500 1 0 0 1 rfl rfl (by decide) rfl rfl
  rw [r_ent (show e_rok 208 [192] = true from decide_eq_true r_ref)]
  show e_tv E_C (E_V 208) e_t208_0 [192, 0, 0] M = _
  unfold e_t208_0
  simp [e_tv, e_ev, e_sv, e_b1, e_b2, x_o1, x_o2, k]
end BXV
/-! what the class and the reference hold of a PART, between calls -/
def hd_all (M : EM) : Prop := h_B M 0 (r_G M) ∧ h_C M 0 (r_G M) ∧ hd_D M 0 (r_G M) ∧ M 171 0 = 0
/-- a PART, spread out -/
theorem ax_1 {M : EM} {p : Nat} (h : hd_all M) (hp : (p : Int) < r_G M 1198) : ∃ N, E_C 1 [170, (p : Int)] M = some (0, N) ∧ bx_XL M (r_G M) (cu_ln (r_G M) (cu_in (r_G M) (p : Int))) (cu_nl (r_G M) (cu_in (r_G M) (p : Int))) ∧ bx_SP (r_G M) M N (cu_ln (r_G M) (cu_in (r_G M) (p : Int))) (cu_nl (r_G M) (cu_in (r_G M) (p : Int))) ∧ bx_ND (r_G M) (hd_SH (r_G M)) (hd_WM (r_G M)) (hd_DI (r_G M)) (cu_ln (r_G M) (cu_in (r_G M) (p : Int))) (cu_nl (r_G M) (cu_in (r_G M) (p : Int))) N ∧ N 170 7 = (if r_G M (28 * cu_in (r_G M) (p : Int)) = 2 then 1 else 0) ∧ (∀ id, id < 162 → N id = M id) ∧ N 171 0 = 0 := by
  obtain ⟨hB, hC, hD, h171⟩ := h
  have h40 := hB.2.1.2
  obtain ⟨N, k, kS, k7⟩ := bx_1 hB hD hp h171
  -- the inner PART is none over one
  have inn : ∃ y : Nat, cu_in (r_G M) (p : Int) = y ∧ (y : Int) < r_G M 1198 ∧ r_G M (28 * (y : Int)) ≠ 3 := by
    obtain ⟨-, -, -, d3⟩ := hD p hp
    by_cases c : r_G M (28 * (p : Int)) = 3
    · obtain ⟨⟨c1, c2, c3, ⟨m1, m2, m3, m4, m5⟩, c5⟩, -⟩ := d3 c
      have e0 : (28 * (p : Int) + 3 + ((0 : Nat) : Int)) = 28 * (p : Int) + 3 := by omega
      rw [e0] at m1 m2 m3 c5
      obtain ⟨y, hy⟩ : ∃ y : Nat, r_G M (28 * (p : Int) + 3) = y := ⟨(r_G M (28 * (p : Int) + 3)).toNat, by omega⟩
      refine ⟨y, ?_, by omega, by rw [← hy]; exact c5⟩
      unfold cu_in
      rw [if_pos c, hy]
    · refine ⟨p, ?_, hp, c⟩
      unfold cu_in
      rw [if_neg c]
  obtain ⟨y, hy, y1, y3⟩ := inn
  rw [hy] at k7 kS ⊢
  obtain ⟨l1, ok, cap, capg⟩ := bx_lines h40 hB hD y1 y3
  obtain ⟨f1, f2, f3⟩ := hd_spread h40 hC hD ok kS
  refine ⟨N, k, ⟨l1, ok, cap, capg⟩, kS, ⟨f1, kS.1, kS.2.2.1, kS.2.2.2.1, f2, f3⟩, k7, fun id hid => funext fun k => kS.2.2.2.2.2.2.2.1 _ _ (by omega), ?_⟩
  exact kS.2.2.2.1 0 (Nat.zero_le _)
