/-! the class's sells, exactly -/
def s_fl (M : EM) (i : Nat) : EM := fun b j => if b = 36 ∧ i ≤ j ∧ j < 403 then 0 else M b j
theorem s_fl_end (M : EM) (i : Nat) (h : 403 ≤ i) : s_fl M i = M := by
  funext b j
  exact if_neg (fun hc => by have := hc.2.1; have := hc.2.2; omega)
theorem s_fl_step (M : EM) (i : Nat) (h : i < 403) : s_fl (e_up M 36 i 0) (i + 1) = s_fl M i := by
  funext b j
  unfold s_fl
  by_cases c : b = 36 ∧ j = i
  · obtain ⟨rfl, rfl⟩ := c
    rw [if_neg (by omega), if_pos ⟨rfl, Nat.le_refl _, h⟩, c_up_s]
  · by_cases c2 : b = 36 ∧ i + 1 ≤ j ∧ j < 403
    · rw [if_pos c2, if_pos (by omega)]
    · rw [if_neg c2, if_neg (by omega), c_up_n c]
theorem s_fill_loop : ∀ (m i : Nat) (M : EM), i + m = 403 → E_V 270 5 [36, 0, (i : Int), 403] M = some (0, s_fl M i) := by
  intro m
  induction m with
  | zero =>
    intro i M hm
    have e : i = 403 := by omega
    subst e
    rw [s_fl_end M 403 (Nat.le_refl _), E_V_eq]
    show e_tv E_C (E_V 270) e_t270_5 [36, 0, 403, 403] M = _
    unfold e_t270_5
    simp [e_tv, e_ev, e_sv, e_b1, e_b2, x_o1, x_o2]
  | succ m ih =>
    intro i M hm
    have k := ih (i + 1) (e_up M 36 i 0) (by omega)
    rw [s_fl_step M i (by omega)] at k
    have hs : e_st 100 [36, (i : Int), 0] M = some (e_up M 36 i 0) := by
      have hin : (8 : Int) ≤ 36 ∧ e_in2 M 100 36 (i : Int) := ⟨by decide, by decide, by decide +kernel, by decide +kernel, by omega, by
        have z : e_sz M 36 = 403 := (if_neg (by decide)).trans (by decide +kernel)
        show _ < e_sz M 36
        omega⟩
      exact (if_pos hin).trans (by rw [Int.toNat_natCast]; rfl)
    generalize hi1 : ((i + 1 : Nat) : Int) = i1 at k
    generalize hi0 : (i : Int) = i0 at hs ⊢
    have w : e_w (i0 + 1) = i1 := (a_w_id (by omega) (by omega)).trans (by omega)
    have q : i0 < 403 := by omega
    have q_n : ¬ (403 ≤ i0) := by omega
    rw [E_V_eq]
    show e_tv E_C (E_V 270) e_t270_5 [36, 0, i0, 403] M = _
    unfold e_t270_5
    simp [e_tv, e_ev, e_sv, e_b1, e_b2, x_o1, x_o2, q, q_n, hs, w, k]
theorem s_fill (M : EM) : E_C 270 [36, 0] M = some (0, s_fl M 0) := by
  have k : E_V 270 5 [36, 0, 0, 403] M = some (0, s_fl M 0) := s_fill_loop 403 0 M rfl
  have l := p_len (a := 36) (n := 403) (by decide +kernel) M
  have l' : e_op 63 [36] M = some 403 := l
  rw [r_ent (show e_rok 270 [36, 0] = true from rfl)]
  show e_tv E_C (E_V 270) e_t270_0 [36, 0, 0, 0] M = _
  unfold e_t270_0
  simp [e_tv, e_ev, e_sv, e_b1, e_b2, x_o1, x_o2, l', k]
theorem s_11 {M0 : EM} (hb : s_bd M0) : ∀ (m : Nat) (h x2 x3 x4 x5 : Int) (M : EM), (h + 1).toNat = m → -1 ≤ h → h ≤ 11 → s_pl M0 M h 0 → ∃ M1, E_V 94 11 [33, h, x2, x3, x4, x5] M = some (0, M1) ∧ s_pl M0 M1 (-1) 0 := by
  intro m
  induction m with
  | zero =>
    intro h x2 x3 x4 x5 M hm h0 h1 hp
    have e : h = -1 := by omega
    subst e
    refine ⟨M, ?_, hp⟩
    rw [E_V_eq]
    show e_tv E_C (E_V 94) e_t94_11 [33, -1, x2, x3, x4, x5] M = _
    unfold e_t94_11
    simp [e_tv, e_ev, e_sv, e_b1, e_b2, x_o1, x_o2]
  | succ m ih =>
    intro h x2 x3 x4 x5 M hm h0 h1 hp
    have q : 0 ≤ h := by omega
    have q_n : ¬ (h < 0) := by omega
    obtain ⟨y2, y3, y4, y5, M1, k, c⟩ := s_17 hb ⟨q, h1⟩ _ 0 x3 x4 x5 M rfl (Int.le_refl _) (by have := hb.1; omega) hp
    obtain ⟨M2, k2, c2⟩ := ih (h - 1) y2 y3 y4 y5 M1 (by omega) (by omega) (by omega) c
    refine ⟨M2, Eq.trans ?_ (k.trans k2), c2⟩
    rw [E_V_eq]
    show e_tv E_C (E_V 94) e_t94_11 [33, h, x2, x3, x4, x5] M = _
    unfold e_t94_11
    simp [e_tv, e_ev, e_sv, e_b1, e_b2, x_o1, x_o2, q, q_n]
theorem s_plan {M : EM} (hb : s_bd M) : ∃ M1, E_C 94 [33] M = some (0, M1) ∧ s_pl M M1 (-1) 0 := by
  have hp : s_pl M (s_fl M 0) 11 0 := by
    refine ⟨fun id k hne => if_neg (fun hc => hne hc.1), fun h' s' p0 p1 p2 p3 p4 => ?_⟩
    have e : h' = 12 := by omega
    subst e
    have b := hb.1
    exact if_pos ⟨rfl, Nat.zero_le _, by omega⟩
  obtain ⟨M1, k, c⟩ := s_11 hb 12 11 0 0 0 0 (s_fl M 0) rfl (by decide) (by decide) hp
  refine ⟨M1, ?_, c⟩
  rw [r_ent (show e_rok 94 [33] = true from decide_eq_true s_is33)]
  show e_tv E_C (E_V 94) e_t94_0 [33, 0, 0, 0, 0, 0] M = _
  unfold e_t94_0
  simp [e_tv, e_ev, e_sv, e_b1, e_b2, x_o1, x_o2, p_579, s_fill, k]
/-- the first of m values that is t -/
def s_fx (v : Int → Int) (t : Int) : Nat → Int → Int
  | 0, x => x
  | m + 1, x => if v x = t then x else s_fx v t m (x + 1)
theorem s_fx_in (v : Int → Int) (t : Int) : ∀ (m : Nat) (x : Int), x ≤ s_fx v t m x ∧ s_fx v t m x ≤ x + m := by
  intro m
  induction m with
  | zero => intro x; unfold s_fx; omega
  | succ m ih =>
    intro x
    unfold s_fx
    have := ih (x + 1)
    split
    · omega
    · omega
/-- what is sold in hour h, with s in the store -/
def s_A (c p : Int → Int) (R h s : Int) : Int := s_fx (fun x => e_w (e_w (x * p h) + s_T c p R (11 - h).toNat (s + c h - x))) (s_T c p R (12 - h).toNat s) (s + c h - p_slo R (s + c h)).toNat (p_slo R (s + c h))
/-- what lies in the store as hour k begins -/
def s_st (c p : Int → Int) (R : Int) : Nat → Int
  | 0 => 0
  | k + 1 => s_st c p R k + c k - s_A c p R k (s_st c p R k)
theorem s_A_in {c p : Int → Int} {R h s : Int} (hR : 0 ≤ R) (hs : 0 ≤ s) (hc : 0 ≤ c h) : p_slo R (s + c h) ≤ s_A c p R h s ∧ s_A c p R h s ≤ s + c h := by
  have h1 := s_fx_in (fun x => e_w (e_w (x * p h) + s_T c p R (11 - h).toNat (s + c h - x))) (s_T c p R (12 - h).toNat s) (s + c h - p_slo R (s + c h)).toNat (p_slo R (s + c h))
  have h2 : p_slo R (s + c h) ≤ s + c h := by unfold p_slo; split <;> omega
  unfold s_A
  omega
theorem s_49 {M0 M : EM} (hb : s_bd M0) (hp : s_pl M0 M (-1) 0) {x1 x2 h hi : Int} (h0 : 0 ≤ h ∧ h ≤ 11) (s0 : 0 ≤ x2 ∧ x2 ≤ M0 33 2) (ehi : hi = x2 + s_c M0 h) (t : Int) : ∀ (m : Nat) (x3 : Int), (hi - x3).toNat = m → x3 ≤ hi → p_slo (M0 33 2) hi ≤ x3 →
    E_V 98 49 [33, x1, x2, x3, h, hi, t] M = E_V 98 7 [33, x1, hi - s_fx (fun x => e_w (e_w (x * s_p M0 h) + s_T (s_c M0) (s_p M0) (M0 33 2) (11 - h).toNat (hi - x))) t m x3, s_fx (fun x => e_w (e_w (x * s_p M0 h) + s_T (s_c M0) (s_p M0) (M0 33 2) (11 - h).toNat (hi - x))) t m x3, h + 1, hi, t] M := by
  obtain ⟨b1, b2, b3⟩ := hb
  have bc := b2 h h0.1 h0.2
  obtain ⟨f1, f2⟩ := hp
  have ep : s_p M h = s_p M0 h := f1 _ _ (by decide)
  have wh : e_w (h + 1) = h + 1 := a_w_id (by omega) (by omega)
  intro m
  induction m with
  | zero =>
    intro x3 hm h3 hl
    have e : x3 = hi := by omega
    subst e
    have w0 : e_w (x3 - x3) = 0 := (a_w_id (by omega) (by omega)).trans (by omega)
    have w00 : e_w 0 = 0 := a_w_id (by omega) (by omega)
    rw [E_V_eq]
    show e_tv E_C (E_V 98) e_t98_49 [33, x1, x2, x3, h, x3, t] M = _
    unfold e_t98_49
    simp [e_tv, e_ev, e_sv, e_b1, e_b2, x_o1, x_o2, wh, w0, w00, s_fx]
  | succ m ih =>
    intro x3 hm h3 hl
    have q : x3 < hi := by omega
    have q_n : ¬ (hi ≤ x3) := by omega
    have hl2 : hi - x3 ≤ M0 33 2 ∧ 0 ≤ x3 := by
      unfold p_slo at hl
      split at hl <;> omega
    have tk := s_taken (h := h) (hi := hi) (x := x3) (M := M) h0 ⟨hl2.2, by omega, by omega⟩ (by omega)
    have eg : s_G M ((h + 1) * 31 + hi - x3) = s_T (s_c M0) (s_p M0) (M0 33 2) (11 - h).toNat (hi - x3) := by
      have := f2 (h + 1) (hi - x3) (by omega) hl2.1 (by omega) (by omega) (Or.inl (by omega))
      rw [show (h + 1) * 31 + (hi - x3) = (h + 1) * 31 + hi - x3 by omega, show (12 - (h + 1)).toNat = (11 - h).toNat by omega] at this
      exact this
    rw [ep, eg] at tk
    have w1 : e_w (x3 + 1) = x3 + 1 := a_w_id (by omega) (by omega)
    have w0 : e_w (hi - x3) = hi - x3 := a_w_id (by omega) (by omega)
    have k := ih (x3 + 1) (by omega) (by omega) (by omega)
    unfold s_fx
    generalize ht : e_w (e_w (x3 * s_p M0 h) + s_T (s_c M0) (s_p M0) (M0 33 2) (11 - h).toNat (hi - x3)) = z at tk ⊢
    by_cases c : z = t
    · rw [if_pos c]
      rw [E_V_eq]
      show e_tv E_C (E_V 98) e_t98_49 [33, x1, x2, x3, h, hi, t] M = _
      unfold e_t98_49
      simp [e_tv, e_ev, e_sv, e_b1, e_b2, x_o1, x_o2, q, q_n, tk, c, wh, w0]
    · rw [if_neg c]
      refine Eq.trans ?_ k
      rw [E_V_eq]
      show e_tv E_C (E_V 98) e_t98_49 [33, x1, x2, x3, h, hi, t] M = _
      unfold e_t98_49
      simp [e_tv, e_ev, e_sv, e_b1, e_b2, x_o1, x_o2, q, q_n, tk, c, w1]
theorem s_st_in {M0 : EM} (hb : s_bd M0) : ∀ (k : Nat), k ≤ 12 → 0 ≤ s_st (s_c M0) (s_p M0) (M0 33 2) k ∧ s_st (s_c M0) (s_p M0) (M0 33 2) k ≤ M0 33 2 := by
  obtain ⟨b1, b2, b3⟩ := hb
  intro k
  induction k with
  | zero => intro _; exact ⟨Int.le_refl _, b1.1⟩
  | succ k ih =>
    intro hk
    have h1 := ih (by omega)
    have h2 := b2 (k : Int) (by omega) (by omega)
    have h3 := s_A_in (c := s_c M0) (p := s_p M0) (R := M0 33 2) (h := (k : Int)) (s := s_st (s_c M0) (s_p M0) (M0 33 2) k) b1.1 h1.1 h2.1
    have e : s_st (s_c M0) (s_p M0) (M0 33 2) (k + 1) = s_st (s_c M0) (s_p M0) (M0 33 2) k + s_c M0 k - s_A (s_c M0) (s_p M0) (M0 33 2) k (s_st (s_c M0) (s_p M0) (M0 33 2) k) := rfl
    have h4 : s_st (s_c M0) (s_p M0) (M0 33 2) k + s_c M0 k - M0 33 2 ≤ p_slo (M0 33 2) (s_st (s_c M0) (s_p M0) (M0 33 2) k + s_c M0 k) := by unfold p_slo; split <;> omega
    omega
theorem s_7 {M0 M : EM} (hb : s_bd M0) (hp : s_pl M0 M (-1) 0) {x1 : Int} (h1 : 0 ≤ x1 ∧ x1 ≤ 11) : ∀ (m k : Nat) (x3 x5 x6 : Int), k + m = x1.toNat + 1 → (k = x1.toNat + 1 → x3 = s_A (s_c M0) (s_p M0) (M0 33 2) x1 (s_st (s_c M0) (s_p M0) (M0 33 2) x1.toNat)) →
    E_V 98 7 [33, x1, s_st (s_c M0) (s_p M0) (M0 33 2) k, x3, (k : Int), x5, x6] M = some (s_A (s_c M0) (s_p M0) (M0 33 2) x1 (s_st (s_c M0) (s_p M0) (M0 33 2) x1.toNat), M) := by
  intro m
  induction m with
  | zero =>
    intro k x3 x5 x6 hm h3
    rw [h3 (by omega)]
    generalize s_st (s_c M0) (s_p M0) (M0 33 2) k = x2
    generalize s_A (s_c M0) (s_p M0) (M0 33 2) x1 (s_st (s_c M0) (s_p M0) (M0 33 2) x1.toNat) = z
    generalize hk : (k : Int) = x4
    have q : x1 < x4 := by omega
    have q_n : ¬ (x4 ≤ x1) := by omega
    rw [E_V_eq]
    show e_tv E_C (E_V 98) e_t98_7 [33, x1, x2, z, x4, x5, x6] M = _
    unfold e_t98_7
    simp [e_tv, e_ev, e_sv, e_b1, e_b2, x_o1, x_o2, q, q_n]
  | succ m ih =>
    intro k x3 x5 x6 hm h3
    have sb := s_st_in hb k (by omega)
    have hk : 0 ≤ (k : Int) ∧ (k : Int) ≤ 11 := by omega
    have k49 := fun t => s_49 (x1 := x1) hb hp hk sb rfl t _ (p_slo (M0 33 2) (s_st (s_c M0) (s_p M0) (M0 33 2) k + s_c M0 k)) rfl (by unfold p_slo; have := hb.2.1 k hk.1 hk.2; have := hb.1; split <;> omega) (Int.le_refl _)
    have bc := hb.2.1 k hk.1 hk.2
    have b1 := hb.1
    obtain ⟨f1, f2⟩ := hp
    have e2 : M 33 2 = M0 33 2 := f1 _ _ (by decide)
    have ec : s_c M k = s_c M0 k := f1 _ _ (by decide)
    have eg := f2 (k : Int) _ sb.1 sb.2 (by omega) hk.1 (Or.inl (by omega))
    have k2 := ih (k + 1) (s_A (s_c M0) (s_p M0) (M0 33 2) k (s_st (s_c M0) (s_p M0) (M0 33 2) k)) (s_st (s_c M0) (s_p M0) (M0 33 2) k + s_c M0 k) (s_T (s_c M0) (s_p M0) (M0 33 2) (12 - (k : Int)).toNat (s_st (s_c M0) (s_p M0) (M0 33 2) k)) (by omega) (fun e => by
      have e1 : k = x1.toNat := by omega
      have e2 : (k : Int) = x1 := by omega
      rw [e2, e1])
    have kk := k49 (s_T (s_c M0) (s_p M0) (M0 33 2) (12 - (k : Int)).toNat (s_st (s_c M0) (s_p M0) (M0 33 2) k))
    have k2' : E_V 98 7 [33, x1, s_st (s_c M0) (s_p M0) (M0 33 2) k + s_c M0 k - s_A (s_c M0) (s_p M0) (M0 33 2) k (s_st (s_c M0) (s_p M0) (M0 33 2) k), s_A (s_c M0) (s_p M0) (M0 33 2) k (s_st (s_c M0) (s_p M0) (M0 33 2) k), (k : Int) + 1, s_st (s_c M0) (s_p M0) (M0 33 2) k + s_c M0 k, s_T (s_c M0) (s_p M0) (M0 33 2) (12 - (k : Int)).toNat (s_st (s_c M0) (s_p M0) (M0 33 2) k)] M = _ := k2
    refine Eq.trans ?_ (kk.trans k2')
    have ls := s_least (x := s_st (s_c M0) (s_p M0) (M0 33 2) k + s_c M0 k) (M := M) (by rw [e2]; omega)
    rw [e2] at ls
    generalize s_T (s_c M0) (s_p M0) (M0 33 2) (12 - (k : Int)).toNat (s_st (s_c M0) (s_p M0) (M0 33 2) k) = t at eg ⊢
    generalize p_slo (M0 33 2) (s_st (s_c M0) (s_p M0) (M0 33 2) k + s_c M0 k) = lo at ls ⊢
    have w1 : e_w (s_st (s_c M0) (s_p M0) (M0 33 2) k + s_c M0 k) = s_st (s_c M0) (s_p M0) (M0 33 2) k + s_c M0 k := a_w_id (by omega) (by omega)
    have w2 : e_w ((k : Int) * 31) = (k : Int) * 31 := a_w_id (by omega) (by omega)
    have w3 : e_w ((k : Int) * 31 + s_st (s_c M0) (s_p M0) (M0 33 2) k) = (k : Int) * 31 + s_st (s_c M0) (s_p M0) (M0 33 2) k := a_w_id (by omega) (by omega)
    have t1 : ∀ M, E_C 146 [34, (k : Int)] M = some (s_c M k, M) := fun M => p_at (a := 34) (i := (k : Int)) (n := 12) (by decide +kernel) ⟨hk.1, by omega⟩ M
    have t2 : E_C 146 [36, (k : Int) * 31 + s_st (s_c M0) (s_p M0) (M0 33 2) k] M = some (t, M) := by
      rw [← eg]
      exact p_at (a := 36) (i := (k : Int) * 31 + s_st (s_c M0) (s_p M0) (M0 33 2) k) (n := 403) (by decide +kernel) ⟨by omega, by omega⟩ M
    have q : (k : Int) ≤ x1 := by omega
    have q_n : ¬ (x1 < (k : Int)) := by omega
    clear k2' k2 kk k49 ih h3 hm
    generalize s_st (s_c M0) (s_p M0) (M0 33 2) k = x2 at *
    generalize (k : Int) = x4 at *
    rw [E_V_eq]
    show e_tv E_C (E_V 98) e_t98_7 [33, x1, x2, x3, x4, x5, x6] M = _
    unfold e_t98_7
    simp [e_tv, e_ev, e_sv, e_b1, e_b2, x_o1, x_o2, p_576, p_579, q, q_n, t1, t2, ec, w1, w2, w3, ls]
/-- what sells answers -/
def s_ans (c p : Int → Int) (R x : Int) : Int := if x < 0 then s_T c p R 12 0 else s_A c p R x (s_st c p R x.toNat)
theorem p_sells {x : Int} {M : EM} (hb : s_bd M) : ∃ M1, E_C 130 [8, x] M = some (if -1 ≤ x ∧ x ≤ 11 then s_ans (s_c M) (s_p M) (M 33 2) x else -1, M1) := by
  have s0 : E_C 130 [8, x] M = e_tv E_C (E_V 130) e_t130_0 [8, x] M := r_ent (u := 130) (as := [8, x]) (M := M) (decide_eq_true c_this)
  rw [s0]
  unfold e_t130_0
  rcases x_le (-1) x with ⟨q, q_n⟩ | ⟨q, q_n⟩
  · rcases x_le 12 x with ⟨q2, q2_n⟩ | ⟨q2, q2_n⟩
    · refine ⟨M, ?_⟩
      rw [if_neg (by omega)]
      simp [e_tv, e_ev, e_sv, e_b1, e_b2, x_o1, x_o2, q, q_n, q2, q2_n]
    · obtain ⟨M1, k, c⟩ := s_plan hb
      refine ⟨M1, ?_⟩
      rw [if_pos (by omega)]
      unfold s_ans
      rcases x_lt x 0 with ⟨q3, q3_n⟩ | ⟨q3, q3_n⟩
      · rw [if_pos q3]
        have eg := c.2 0 0 (Int.le_refl _) hb.1.1 (by decide) (by decide) (Or.inl (by decide))
        have k97 : E_C 97 [33] M1 = some (s_T (s_c M) (s_p M) (M 33 2) 12 0, M1) := by
          have t2 : E_C 146 [36, 0] M1 = some (s_T (s_c M) (s_p M) (M 33 2) 12 0, M1) := by
            have e3 : s_T (s_c M) (s_p M) (M 33 2) 12 0 = s_G M1 0 := eg.symm
            rw [e3]
            exact p_at (a := 36) (i := 0) (n := 403) (by decide +kernel) (by decide) M1
          rw [r_ent (show e_rok 97 [33] = true from decide_eq_true s_is33)]
          show e_tv E_C (E_V 97) e_t97_0 [33] M1 = _
          unfold e_t97_0
          simp [e_tv, e_ev, e_sv, e_b1, e_b2, x_o1, x_o2, p_579, t2]
        simp [e_tv, e_ev, e_sv, e_b1, e_b2, x_o1, x_o2, p_704, p_196, q, q_n, q2, q2_n, q3, q3_n, k, k97]
      · rw [if_neg q3]
        have k98 : E_C 98 [33, x] M1 = some (s_A (s_c M) (s_p M) (M 33 2) x (s_st (s_c M) (s_p M) (M 33 2) x.toNat), M1) := by
          have k7 := s_7 hb c (x1 := x) ⟨by omega, by omega⟩ (x.toNat + 1) 0 0 0 0 (by omega) (fun e => by omega)
          have k7' : E_V 98 7 [33, x, 0, 0, 0, 0, 0] M1 = _ := k7
          rw [r_ent (show e_rok 98 [33, x] = true from decide_eq_true s_is33)]
          show e_tv E_C (E_V 98) e_t98_0 [33, x, 0, 0, 0, 0, 0] M1 = _
          unfold e_t98_0
          simp [e_tv, e_ev, e_sv, e_b1, e_b2, x_o1, x_o2, k7']
        simp [e_tv, e_ev, e_sv, e_b1, e_b2, x_o1, x_o2, p_704, p_196, q, q_n, q2, q2_n, q3, q3_n, k, k98]
  · refine ⟨M, ?_⟩
    rw [if_neg (by omega)]
    simp [e_tv, e_ev, e_sv, e_b1, e_b2, x_o1, x_o2, q, q_n]
