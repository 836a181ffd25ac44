/-! what the HOUSE sells: the class's plan, exactly -/
def s_mx (v : Int → Int) : Nat → Int → Int → Int
  | 0, acc, _ => acc
  | m + 1, acc, x => s_mx v m (if acc < v x then v x else acc) (x + 1)
def p_slo (R hi : Int) : Int := if 0 < hi - R then hi - R else 0
/-- the most taken in the last d hours, with s in the store -/
def s_T (c p : Int → Int) (R : Int) : Nat → Int → Int
  | 0, _ => 0
  | d + 1, s => s_mx (fun x => e_w (e_w (x * p (11 - d)) + s_T c p R d (s + c (11 - d) - x))) (s + c (11 - d) - p_slo R (s + c (11 - d)) + 1).toNat 0 (p_slo R (s + c (11 - d)))
def s_c (M : EM) (h : Int) : Int := M 34 h.toNat
def s_p (M : EM) (h : Int) : Int := M 35 h.toNat
def s_G (M : EM) (i : Int) : Int := M 36 i.toNat
theorem s_G_s {M : EM} {i v : Int} : s_G (e_up M 36 i.toNat v) i = v := c_up_s
theorem s_G_n {M : EM} {i j v : Int} (hi : 0 ≤ i) (h0 : 0 ≤ j) (hj : j ≠ i) : s_G (e_up M 36 i.toNat v) j = s_G M j := c_up_n (fun hc => by have := hc.2; omega)
theorem p_579 (M : EM) : e_gf 579 [33] M = some 36 := p_g 579 33 36 M (by decide +kernel)
theorem s_is33 : e_isO 9 33 := by decide +kernel
theorem s_taken {h hi x : Int} {M : EM} (h0 : 0 ≤ h ∧ h ≤ 11) (hx : 0 ≤ x ∧ x ≤ hi ∧ hi - x ≤ 30) (hh : hi ≤ 60) : E_C 96 [33, h, hi, x] M = some (e_w (e_w (x * s_p M h) + s_G M ((h + 1) * 31 + hi - x)), M) := by
  rw [r_ent (show e_rok 96 [33, h, hi, x] = true from decide_eq_true s_is33)]
  show e_tv E_C (E_V 96) e_t96_0 [33, h, hi, x] M = _
  unfold e_t96_0
  have w1 : e_w (h + 1) = h + 1 := a_w_id (by omega) (by omega)
  have w2 : e_w ((h + 1) * 31) = (h + 1) * 31 := a_w_id (by omega) (by omega)
  have w3 : e_w ((h + 1) * 31 + hi) = (h + 1) * 31 + hi := a_w_id (by omega) (by omega)
  have w4 : e_w ((h + 1) * 31 + hi - x) = (h + 1) * 31 + hi - x := a_w_id (by omega) (by omega)
  have t1 := fun M => p_at (a := 35) (i := h) (n := 12) (by decide +kernel) ⟨h0.1, by omega⟩ M
  have t2 := fun M => p_at (a := 36) (i := (h + 1) * 31 + hi - x) (n := 403) (by decide +kernel) ⟨by omega, by omega⟩ M
  unfold s_p s_G
  simp [e_tv, e_ev, e_sv, e_b1, e_b2, x_o1, x_o2, p_577, p_579, t1, t2, w1, w2, w3, w4]
theorem s_least {x : Int} {M : EM} (hx : -2000000000 ≤ x - M 33 2 ∧ x - M 33 2 ≤ 2000000000) : E_C 95 [33, x] M = some (p_slo (M 33 2) x, M) := by
  rw [r_ent (show e_rok 95 [33, x] = true from decide_eq_true s_is33)]
  show e_tv E_C (E_V 95) e_t95_0 [33, x] M = _
  unfold e_t95_0
  have w1 : e_w (x - M 33 2) = x - M 33 2 := a_w_id (by omega) (by omega)
  unfold p_slo
  simp [e_tv, e_ev, e_sv, e_b1, e_b2, x_o1, x_o2, p_578, w1]
/-- the rows of the trade that the plan reads -/
def s_bd (M : EM) : Prop := (0 ≤ M 33 2 ∧ M 33 2 ≤ 30) ∧ (∀ h, 0 ≤ h → h ≤ 11 → 0 ≤ s_c M h ∧ s_c M h ≤ 20) ∧ ∀ h, 0 ≤ h → h ≤ 11 → 0 ≤ s_p M h ∧ s_p M h ≤ 99
/-- the plan as far as hour h, store s -/
def s_pl (M0 M : EM) (h s : Int) : Prop := (∀ id k, id ≠ 36 → M id k = M0 id k) ∧ ∀ h' s', 0 ≤ s' → s' ≤ M0 33 2 → h' ≤ 12 → 0 ≤ h' → (h < h' ∨ (h' = h ∧ s' < s)) → s_G M (h' * 31 + s') = s_T (s_c M0) (s_p M0) (M0 33 2) (12 - h').toNat s'
theorem s_46 {M0 M : EM} (hb : s_bd M0) {h s hi : Int} (h0 : 0 ≤ h ∧ h ≤ 11) (s0 : 0 ≤ s ∧ s ≤ M0 33 2) (ehi : hi = s + s_c M0 h) (hp : s_pl M0 M h s) : ∀ (m : Nat) (x4 x5 : Int), (hi - x5 + 1).toNat = m → x5 ≤ hi + 1 → p_slo (M0 33 2) hi ≤ x5 →
    ∃ y4 y5, E_V 94 46 [33, h, s, hi, x4, x5] M = E_V 94 17 [33, h, s + 1, hi, y4, y5] (e_up M 36 (h * 31 + s).toNat (s_mx (fun x => e_w (e_w (x * s_p M0 h) + s_T (s_c M0) (s_p M0) (M0 33 2) (11 - h).toNat (hi - x))) m x4 x5)) := by
  obtain ⟨b1, b2, b3⟩ := hb
  have bc := b2 h h0.1 h0.2
  obtain ⟨f1, f2⟩ := hp
  have ep : s_p M h = s_p M0 h := f1 _ _ (by decide)
  intro m
  induction m with
  | zero =>
    intro x4 x5 hm h5 hl
    have q : hi < x5 := by omega
    have q_n : ¬ (x5 ≤ hi) := by omega
    refine ⟨x4, x5, ?_⟩
    have w1 : e_w (h * 31) = h * 31 := a_w_id (by omega) (by omega)
    have w2 : e_w (h * 31 + s) = h * 31 + s := a_w_id (by omega) (by omega)
    have w3 : e_w (s + 1) = s + 1 := a_w_id (by omega) (by omega)
    have ly := fun v M => p_layd (a := 36) (i := h * 31 + s) (v := v) (n := 403) (by decide +kernel) ⟨by omega, by omega⟩ M
    rw [E_V_eq]
    show e_tv E_C (E_V 94) e_t94_46 [33, h, s, hi, x4, x5] M = _
    unfold e_t94_46
    simp [e_tv, e_ev, e_sv, e_b1, e_b2, x_o1, x_o2, p_579, q, q_n, w1, w2, w3, ly, s_mx]
  | succ m ih =>
    intro x4 x5 hm h5 hl
    have q : x5 ≤ hi := by omega
    have q_n : ¬ (hi < x5) := by omega
    have hl2 : hi - x5 ≤ M0 33 2 ∧ 0 ≤ x5 := by
      unfold p_slo at hl
      split at hl <;> omega
    have tk := s_taken (h := h) (hi := hi) (x := x5) (M := M) h0 ⟨hl2.2, q, by omega⟩ (by omega)
    have eg : s_G M ((h + 1) * 31 + hi - x5) = s_T (s_c M0) (s_p M0) (M0 33 2) (11 - h).toNat (hi - x5) := by
      have := f2 (h + 1) (hi - x5) (by omega) hl2.1 (by omega) (by omega) (Or.inl (by omega))
      rw [show (h + 1) * 31 + (hi - x5) = (h + 1) * 31 + hi - x5 by omega, show (12 - (h + 1)).toNat = (11 - h).toNat by omega] at this
      exact this
    rw [ep, eg] at tk
    have w1 : e_w (x5 + 1) = x5 + 1 := a_w_id (by omega) (by omega)
    obtain ⟨y4, y5, k⟩ := ih (if x4 < e_w (e_w (x5 * s_p M0 h) + s_T (s_c M0) (s_p M0) (M0 33 2) (11 - h).toNat (hi - x5)) then e_w (e_w (x5 * s_p M0 h) + s_T (s_c M0) (s_p M0) (M0 33 2) (11 - h).toNat (hi - x5)) else x4) (x5 + 1) (by omega) (by omega) (by omega)
    refine ⟨y4, y5, Eq.trans ?_ k⟩
    generalize ht : e_w (e_w (x5 * s_p M0 h) + s_T (s_c M0) (s_p M0) (M0 33 2) (11 - h).toNat (hi - x5)) = t at tk
    rw [E_V_eq]
    show e_tv E_C (E_V 94) e_t94_46 [33, h, s, hi, x4, x5] M = _
    unfold e_t94_46
    simp [e_tv, e_ev, e_sv, e_b1, e_b2, x_o1, x_o2, q, q_n, w1, tk]
theorem s_17 {M0 : EM} (hb : s_bd M0) {h : Int} (h0 : 0 ≤ h ∧ h ≤ 11) : ∀ (m : Nat) (s x3 x4 x5 : Int) (M : EM), (M0 33 2 - s + 1).toNat = m → 0 ≤ s → s ≤ M0 33 2 + 1 → s_pl M0 M h s → ∃ y2 y3 y4 y5 M1, E_V 94 17 [33, h, s, x3, x4, x5] M = E_V 94 11 [33, h - 1, y2, y3, y4, y5] M1 ∧ s_pl M0 M1 (h - 1) 0 := by
  obtain ⟨b1, b2, b3⟩ := hb
  have bc := b2 h h0.1 h0.2
  intro m
  induction m with
  | zero =>
    intro s x3 x4 x5 M hm s0 s1 hp
    obtain ⟨f1, f2⟩ := hp
    have e2 : M 33 2 = M0 33 2 := f1 _ _ (by decide)
    have q : M0 33 2 < s := by omega
    have q_n : ¬ (s ≤ M0 33 2) := by omega
    have w1 : e_w (h + -1) = h - 1 := a_w_id (by omega) (by omega)
    have w2 : e_w (h - 1) = h - 1 := a_w_id (by omega) (by omega)
    refine ⟨s, x3, x4, x5, M, ?_, f1, fun h' s' p0 p1 p2 p3 p4 => f2 h' s' p0 p1 p2 p3 (by omega)⟩
    rw [E_V_eq]
    show e_tv E_C (E_V 94) e_t94_17 [33, h, s, x3, x4, x5] M = _
    unfold e_t94_17
    simp [e_tv, e_ev, e_sv, e_b1, e_b2, x_o1, x_o2, p_578, e2, q, q_n, w1, w2]
  | succ m ih =>
    intro s x3 x4 x5 M hm s0 s1 hp
    have hp0 := hp
    obtain ⟨f1, f2⟩ := hp
    have e2 : M 33 2 = M0 33 2 := f1 _ _ (by decide)
    have ec : s_c M h = s_c M0 h := f1 _ _ (by decide)
    have q : s ≤ M0 33 2 := by omega
    have q_n : ¬ (M0 33 2 < s) := by omega
    have w1 : e_w (s + s_c M0 h) = s + s_c M0 h := a_w_id (by omega) (by omega)
    have t1 : ∀ M, E_C 146 [34, h] M = some (s_c M h, M) := fun M => p_at (a := 34) (i := h) (n := 12) (by decide +kernel) ⟨h0.1, by omega⟩ M
    have ls := s_least (x := s + s_c M0 h) (M := M) (by rw [e2]; omega)
    rw [e2] at ls
    have hlo : p_slo (M0 33 2) (s + s_c M0 h) ≤ s + s_c M0 h ∧ 0 ≤ p_slo (M0 33 2) (s + s_c M0 h) := by
      unfold p_slo
      split <;> omega
    obtain ⟨y4, y5, k⟩ := s_46 ⟨b1, b2, b3⟩ h0 ⟨s0, q⟩ rfl hp0 _ 0 (p_slo (M0 33 2) (s + s_c M0 h)) rfl (by omega) (Int.le_refl _)
    have hd : (12 - h).toNat = (11 - h).toNat + 1 := by omega
    have hd2 : (11 : Int) - ((11 - h).toNat : Int) = h := by omega
    have eT : s_T (s_c M0) (s_p M0) (M0 33 2) (12 - h).toNat s = s_mx (fun x => e_w (e_w (x * s_p M0 h) + s_T (s_c M0) (s_p M0) (M0 33 2) (11 - h).toNat (s + s_c M0 h - x))) (s + s_c M0 h - p_slo (M0 33 2) (s + s_c M0 h) + 1).toNat 0 (p_slo (M0 33 2) (s + s_c M0 h)) := by
      rw [hd]
      show s_mx _ _ _ _ = _
      rw [hd2]
    rw [← eT] at k
    obtain ⟨y2, z3, z4, z5, M1, k1, k2⟩ := ih (s + 1) (s + s_c M0 h) y4 y5 (e_up M 36 (h * 31 + s).toNat (s_T (s_c M0) (s_p M0) (M0 33 2) (12 - h).toNat s)) (by omega) (by omega) (by omega) ⟨fun id j hne => (c_up_n (fun e => hne e.1)).trans (f1 id j hne), fun h' s' p0 p1 p2 p3 p4 => by
      by_cases c : h' = h ∧ s' = s
      · rw [c.1, c.2, s_G_s]
      · rw [s_G_n (by omega) (by omega) (by omega)]
        exact f2 h' s' p0 p1 p2 p3 (by omega)⟩
    refine ⟨y2, z3, z4, z5, M1, Eq.trans ?_ (k.trans k1), k2⟩
    rw [E_V_eq]
    show e_tv E_C (E_V 94) e_t94_17 [33, h, s, x3, x4, x5] M = _
    unfold e_t94_17
    simp [e_tv, e_ev, e_sv, e_b1, e_b2, x_o1, x_o2, p_576, p_578, e2, q, q_n, t1, ec, w1, ls]
