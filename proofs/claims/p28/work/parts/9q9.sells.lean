/-! sells: class and reference answer alike -/
theorem s_T_cg {c p c' p' : Int → Int} {R : Int} (h : ∀ k, 0 ≤ k → k ≤ 11 → c k = c' k ∧ p k = p' k) : ∀ (d : Nat), d ≤ 12 → ∀ s, s_T c p R d s = s_T c' p' R d s := by
  intro d
  induction d with
  | zero => intro _ s; rfl
  | succ d ih =>
    intro hd s
    obtain ⟨e1, e2⟩ := h (11 - d) (by omega) (by omega)
    have i := ih (by omega)
    show s_mx (fun x => e_w (e_w (x * p (11 - d)) + s_T c p R d (s + c (11 - d) - x))) (s + c (11 - d) - p_slo R (s + c (11 - d)) + 1).toNat 0 (p_slo R (s + c (11 - d))) = s_mx (fun x => e_w (e_w (x * p' (11 - d)) + s_T c' p' R d (s + c' (11 - d) - x))) (s + c' (11 - d) - p_slo R (s + c' (11 - d)) + 1).toNat 0 (p_slo R (s + c' (11 - d)))
    simp only [e1, e2, i]
theorem s_A_cg {c p c' p' : Int → Int} {R : Int} (h : ∀ k, 0 ≤ k → k ≤ 11 → c k = c' k ∧ p k = p' k) {x : Int} (hx : 0 ≤ x ∧ x ≤ 11) (s : Int) : s_A c p R x s = s_A c' p' R x s := by
  obtain ⟨e1, e2⟩ := h x hx.1 hx.2
  have i := s_T_cg (R := R) h (11 - x).toNat (by omega)
  have j := s_T_cg (R := R) h (12 - x).toNat (by omega)
  unfold s_A
  simp only [e1, e2, i, j]
theorem s_st_cg {c p c' p' : Int → Int} {R : Int} (h : ∀ k, 0 ≤ k → k ≤ 11 → c k = c' k ∧ p k = p' k) : ∀ (k : Nat), k ≤ 12 → s_st c p R k = s_st c' p' R k := by
  intro k
  induction k with
  | zero => intro _; rfl
  | succ k ih =>
    intro hk
    show s_st c p R k + c k - s_A c p R k (s_st c p R k) = s_st c' p' R k + c' k - s_A c' p' R k (s_st c' p' R k)
    rw [ih (by omega), s_A_cg h ⟨by omega, by omega⟩, (h k (by omega) (by omega)).1]
theorem s_ans_cg {c p c' p' : Int → Int} {R : Int} (h : ∀ k, 0 ≤ k → k ≤ 11 → c k = c' k ∧ p k = p' k) {x : Int} (hx : -1 ≤ x ∧ x ≤ 11) : s_ans c p R x = s_ans c' p' R x := by
  unfold s_ans
  rcases x_lt x 0 with ⟨q, q_n⟩ | ⟨q, q_n⟩
  · rw [if_pos q, if_pos q]
    exact s_T_cg h 12 (Nat.le_refl _) 0
  · rw [if_neg q, if_neg q, s_st_cg h _ (by omega), s_A_cg h ⟨by omega, hx.2⟩]
theorem t_st_in {c p : Int → Int} {R : Int} (hk : s_ok c p R) : ∀ (k : Nat), k ≤ 12 → 0 ≤ s_st c p R k ∧ s_st c p R k ≤ R := by
  obtain ⟨b1, b2, b3⟩ := hk
  intro k
  induction k with
  | zero => intro _; exact ⟨Int.le_refl _, b1.1⟩
  | succ k ih =>
    intro hk
    have h1 := ih (by omega)
    have h2 := b2 (k : Int) (by omega) (by omega)
    have h3 := s_A_in (c := c) (p := p) (R := R) (h := (k : Int)) (s := s_st c p R k) b1.1 h1.1 h2.1
    have e : s_st c p R (k + 1) = s_st c p R k + c k - s_A c p R k (s_st c p R k) := rfl
    have h4 : s_st c p R k + c k - R ≤ p_slo R (s_st c p R k + c k) := by unfold p_slo; split <;> omega
    omega
theorem t_35a {x x2 z : Int} {M : EM} (w1 : e_w (31 * x) = 31 * x) (w2 : e_w (31 * x + x2) = 31 * x + x2) (l1 : e_op 60 [211, 31 * x + x2] M = some z) : E_V 244 35 [192, x, x2, x] M = some (z, M) := by
  rw [E_V_eq]
  show e_tv E_C (E_V 244) e_t244_35 [192, x, x2, x] M = _
  unfold e_t244_35
  simp [e_tv, e_ev, e_sv, e_b1, e_b2, x_o1, x_o2, r_O38, w1, w2, l1]
theorem t_35b {x x2 k z ck x3 k1 : Int} {M : EM} (q : k < x) (w1 : e_w (31 * k) = 31 * k) (w2 : e_w (31 * k + x2) = 31 * k + x2) (w3 : e_w (2 * k) = 2 * k) (w4 : e_w (1174 + 2 * k) = 1174 + 2 * k) (w5 : e_w (k + 1) = k1) (l1 : e_op 60 [211, 31 * k + x2] M = some z) (l2 : e_op 60 [193, 1174 + 2 * k] M = some ck) (w6 : e_w (ck - z) = ck - z) (w7 : e_w (x2 + (ck - z)) = x3) : E_V 244 35 [192, x, x2, k] M = E_V 244 35 [192, x, x3, k1] M := by
  have q_n : ¬ (x ≤ k) := by
    clear w1 w2 w3 w4 w5 w6 w7
    omega
  rw [E_V_eq]
  show e_tv E_C (E_V 244) e_t244_35 [192, x, x2, k] M = _
  unfold e_t244_35
  simp [e_tv, e_ev, e_sv, e_b1, e_b2, x_o1, x_o2, r_O0, r_O38, q, q_n, w1, w2, w3, w4, w5, w6, w7, l1, l2]
theorem t_35w {k x2 ck z : Int} (hk : 0 ≤ k ∧ k ≤ 11) (hx : 0 ≤ x2 ∧ x2 ≤ 30) (hc : 0 ≤ ck ∧ ck ≤ 20) (hz : 0 ≤ z ∧ z ≤ 50) : e_w (31 * k) = 31 * k ∧ e_w (31 * k + x2) = 31 * k + x2 ∧ e_w (2 * k) = 2 * k ∧ e_w (1174 + 2 * k) = 1174 + 2 * k ∧ e_w (k + 1) = k + 1 ∧ e_w (ck - z) = ck - z ∧ e_w (x2 + (ck - z)) = x2 + ck - z := by
  refine ⟨?_, ?_, ?_, ?_, ?_, ?_, ?_⟩
  · exact a_w_id (by omega) (by omega)
  · exact a_w_id (by omega) (by omega)
  · exact a_w_id (by omega) (by omega)
  · exact a_w_id (by omega) (by omega)
  · exact a_w_id (by omega) (by omega)
  · exact a_w_id (by omega) (by omega)
  · exact (a_w_id (by omega) (by omega)).trans (by omega)
theorem t_35 {M0 M : EM} (hk : t_ok M0) (hp : t_rp M0 M (-1) 0) {x : Int} (hx : 0 ≤ x ∧ x ≤ 11) : ∀ (m k : Nat), k + m = x.toNat → E_V 244 35 [192, x, s_st (t_c M0) (t_p M0) (r_G M0 1199) k, (k : Int)] M = some (s_A (t_c M0) (t_p M0) (r_G M0 1199) x (s_st (t_c M0) (t_p M0) (r_G M0 1199) x.toNat), M) := by
  intro m
  induction m with
  | zero =>
    intro k hm
    have e : (k : Int) = x := by omega
    have e2 : k = x.toNat := by omega
    have sb := t_st_in hk k (by omega)
    have b1 := hk.1
    have eg := (hp.2 x _ sb.1 sb.2 (by omega) hx.1 (Or.inl (by omega))).2 hx.2
    rw [e, ← e2]
    generalize s_A (t_c M0) (t_p M0) (r_G M0 1199) x (s_st (t_c M0) (t_p M0) (r_G M0 1199) k) = z at eg ⊢
    generalize s_st (t_c M0) (t_p M0) (r_G M0 1199) k = x2 at sb eg ⊢
    generalize r_G M0 1199 = R at sb b1
    obtain ⟨w1, w2, -⟩ := t_35w (k := x) (x2 := x2) (ck := 0) (z := 0) hx (by omega) (by omega) (by omega)
    have l0 : 0 ≤ 31 * x + x2 ∧ 31 * x + x2 ≤ 402 := by
      clear w1 w2 eg
      omega
    have l1 := r_ld11 (i := 31 * x + x2) (M := M) l0.1 l0.2
    rw [eg] at l1
    exact t_35a w1 w2 l1
  | succ m ih =>
    intro k hm
    have hk0 : 0 ≤ (k : Int) ∧ (k : Int) ≤ 11 := by omega
    have q : (k : Int) < x := by omega
    have sb := t_st_in hk k (by omega)
    have b1 := hk.1
    have bc := hk.2.1 k hk0.1 hk0.2
    have ha := s_A_in (c := t_c M0) (p := t_p M0) (R := r_G M0 1199) (h := (k : Int)) (s := s_st (t_c M0) (t_p M0) (r_G M0 1199) k) b1.1 sb.1 bc.1
    have h4 : 0 ≤ p_slo (r_G M0 1199) (s_st (t_c M0) (t_p M0) (r_G M0 1199) k + t_c M0 k) := by unfold p_slo; split <;> omega
    have eg := (hp.2 (k : Int) _ sb.1 sb.2 (by omega) hk0.1 (Or.inl (by omega))).2 hk0.2
    have k2 := ih (k + 1) (by omega)
    have k2' : E_V 244 35 [192, x, s_st (t_c M0) (t_p M0) (r_G M0 1199) k + t_c M0 k - s_A (t_c M0) (t_p M0) (r_G M0 1199) k (s_st (t_c M0) (t_p M0) (r_G M0 1199) k), (k : Int) + 1] M = _ := k2
    refine Eq.trans ?_ k2'
    have l2 : e_op 60 [193, 1174 + 2 * (k : Int)] M = some (t_c M0 k) := (r_rd (by omega) (by omega)).trans (congrArg some (hp.1 _ _ (by decide) (by decide)))
    clear k2 k2' ih
    generalize s_A (t_c M0) (t_p M0) (r_G M0 1199) k (s_st (t_c M0) (t_p M0) (r_G M0 1199) k) = z at ha eg ⊢
    generalize s_st (t_c M0) (t_p M0) (r_G M0 1199) k = x2 at sb ha h4 eg ⊢
    generalize t_c M0 k = ck at bc ha h4 l2 ⊢
    generalize p_slo (r_G M0 1199) (x2 + ck) = lo at ha h4
    generalize r_G M0 1199 = R at sb b1 ha
    have z50 : 0 ≤ z ∧ z ≤ 50 := by
      clear eg l2
      omega
    have x30 : 0 ≤ x2 ∧ x2 ≤ 30 := by
      clear eg l2
      omega
    obtain ⟨w1, w2, w3, w4, w5, w6, w7⟩ := t_35w (k := (k : Int)) hk0 x30 bc z50
    have l0 : 0 ≤ 31 * (k : Int) + x2 ∧ 31 * (k : Int) + x2 ≤ 402 := by
      clear w1 w2 w3 w4 w5 w6 w7 eg l2
      omega
    have l1 := r_ld11 (i := 31 * (k : Int) + x2) (M := M) l0.1 l0.2
    rw [eg] at l1
    exact t_35b q w1 w2 w3 w4 w5 l1 l2 w6 w7
theorem t_sells {x : Int} {M : EM} (hk : t_ok M) : ∃ M1, E_C 244 [192, x] M = some (if -1 ≤ x ∧ x ≤ 11 then s_ans (t_c M) (t_p M) (r_G M 1199) x else -1, M1) := by
  by_cases q0 : -1 ≤ x ∧ x ≤ 11
  · have i0 := r_in1 (M := M) q0
    obtain ⟨M1, k1, c1⟩ := t_find hk
    refine ⟨M1, ?_⟩
    rw [if_pos q0]
    unfold s_ans
    rcases x_lt x 0 with ⟨q1, q1_n⟩ | ⟨q1, q1_n⟩
    · rw [if_pos q1]
      have eg := (c1.2 0 0 (Int.le_refl _) hk.1.1 (by decide) (by decide) (Or.inl (by decide))).1
      have l1 := r_ld10 (i := 0) (M := M1) (by decide) (by decide)
      have l1' : e_op 60 [210, 0] M1 = some (s_T (t_c M) (t_p M) (r_G M 1199) 12 0) := l1.trans (congrArg some eg)
      rw [r_ent (show e_rok 244 [192, x] = true from decide_eq_true r_ref)]
      show e_tv E_C (E_V 244) e_t244_0 [192, x, 0, 0] M = _
      unfold e_t244_0
      simp [e_tv, e_ev, e_sv, e_b1, e_b2, x_o1, x_o2, r_O37, i0, k1, q1, q1_n, l1']
    · rw [if_neg q1]
      have k := t_35 hk c1 (x := x) ⟨by omega, by omega⟩ x.toNat 0 (by omega)
      have k' : E_V 244 35 [192, x, 0, 0] M1 = _ := k
      rw [r_ent (show e_rok 244 [192, x] = true from decide_eq_true r_ref)]
      show e_tv E_C (E_V 244) e_t244_0 [192, x, 0, 0] M = _
      unfold e_t244_0
      simp [e_tv, e_ev, e_sv, e_b1, e_b2, x_o1, x_o2, i0, k1, q1, q1_n, k']
  · have i0 := r_in0 (M := M) q0
    refine ⟨M, ?_⟩
    rw [if_neg q0]
    rw [r_ent (show e_rok 244 [192, x] = true from decide_eq_true r_ref)]
    show e_tv E_C (E_V 244) e_t244_0 [192, x, 0, 0] M = _
    unfold e_t244_0
    simp [e_tv, e_ev, e_sv, e_b1, e_b2, x_o1, x_o2, i0]
theorem p_trd {M : EM} (hR : p_R M) : (∀ k, 0 ≤ k → k ≤ 11 → s_c M k = t_c M k ∧ s_p M k = t_p M k) ∧ M 33 2 = r_G M 1199 := by
  refine ⟨fun k k0 k1 => ?_, hR.1 _ p_inR⟩
  obtain ⟨j, rfl⟩ : ∃ j : Nat, k = (j : Int) := ⟨k.toNat, by omega⟩
  obtain ⟨-, -, i0, i1⟩ := p_inS j (by omega)
  have e0 : (1174 + 2 * (j : Int)).toNat = 1174 + 2 * j := by omega
  have e1 : (1174 + 2 * (j : Int) + 1).toNat = 1174 + 2 * j + 1 := by omega
  unfold s_c s_p t_c t_p r_G
  rw [e0, e1]
  exact ⟨hR.1 _ i0, hR.1 _ i1⟩
theorem t_ok_J {M : EM} (hJ : r_J M) : t_ok M := by
  obtain ⟨z1, z2, z3, -⟩ := r_Zof hJ
  exact ⟨⟨z1, z2⟩, fun h h0 h1 => ⟨(z3 h h0 (by omega)).1, (z3 h h0 (by omega)).2.1⟩, fun h h0 h1 => (z3 h h0 (by omega)).2.2⟩
/-- the two answers of sells -/
theorem p_sells_R {x : Int} {M M1 M2 : EM} {r1 r2 : Int} (hJ : r_J M) (hR : p_R M) (hG : ∀ i, M1 193 i = M 193 i) (k1 : E_C 130 [8, x] M = some (r1, M1)) (k2 : E_C 244 [192, x] M1 = some (r2, M2)) : r1 = r2 := by
  obtain ⟨g1, g2⟩ := p_trd hR
  have hk := t_ok_J hJ
  have hb : s_bd M := by
    refine ⟨by rw [g2]; exact hk.1, fun h h0 h1 => by rw [(g1 h h0 h1).1]; exact hk.2.1 h h0 h1, fun h h0 h1 => by rw [(g1 h h0 h1).2]; exact hk.2.2 h h0 h1⟩
  have eG : r_G M1 = r_G M := funext fun i => hG _
  have ec : t_c M1 = t_c M := by funext h; unfold t_c; rw [eG]
  have ep : t_p M1 = t_p M := by funext h; unfold t_p; rw [eG]
  have hk1 : t_ok M1 := by
    unfold t_ok
    rw [ec, ep, eG]
    exact hk
  obtain ⟨N1, n1⟩ := p_sells (x := x) hb
  obtain ⟨N2, n2⟩ := t_sells (x := x) hk1
  have a1 := congrArg Prod.fst (Option.some.inj (k1.symm.trans n1))
  have a2 := congrArg Prod.fst (Option.some.inj (k2.symm.trans n2))
  dsimp only at a1 a2
  rw [a1, a2, ec, ep, eG]
  by_cases q : -1 ≤ x ∧ x ≤ 11
  · rw [if_pos q, if_pos q, g2]
    exact s_ans_cg g1 q
  · rw [if_neg q, if_neg q]
theorem p_cG {W : AW} {M M1 : EM} (h4 : a_fr W M M1) (hW : (W.all fun w => decide (8 ≤ w.1) && decide (w.1 < 192)) = true) : ∀ i, M1 193 i = M 193 i := fun i => h4 193 i (fun w hw hc => by
  have h := List.all_eq_true.mp hW w hw
  simp only [Bool.and_eq_true, decide_eq_true_eq] at h
  omega)
