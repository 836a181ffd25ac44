section
/-! PARTS and SHELVES related: what keeps it; the image -/
def h_in (c : Nat × Nat × Nat) (w : Nat × Nat × Nat) : Bool := decide (w.1 ≠ c.1) || decide (w.2.2 < c.2.1) || decide (c.2.2 < w.2.1)
def h_av (K W : AW) : Bool := K.all (fun c => W.all (fun w => h_in c w))
theorem h_av_ok {K W : AW} {M M' : EM} (h : h_av K W = true) (hf : a_fr W M M') : ∀ c ∈ K, ∀ k, c.2.1 ≤ k → k ≤ c.2.2 → M' c.1 k = M c.1 k := fun c hc k k0 k1 => hf _ _ (fun w hw e => by
  have h1 := List.all_eq_true.mp (List.all_eq_true.mp h c hc) w hw
  unfold h_in at h1
  simp only [Bool.or_eq_true, decide_eq_true_eq] at h1
  omega)
def h_KB : AW := [(10, 0, 0), (11, 0, 39), (13, 0, 39), (193, 1198, 1198)] ++ (List.range 40).map (fun q => (193, 28 * q, 28 * q + 1))
def h_KI : AW := [(78, 0, 0), (79, 0, 39), (81, 0, 39), (194, 1198, 1198)] ++ (List.range 40).map (fun q => (194, 28 * q, 28 * q + 1))
def h_KS : AW := [(195, 0, 7), (196, 0, 7), (197, 0, 7), (198, 0, 959)] ++ (List.range 8).flatMap (fun d => [(146 + 2 * d, 0, 1), (146 + 2 * d, 4, 5), (147 + 2 * d, 0, 119)])
theorem h_keepB {M M' : EM} (h : ∀ c ∈ h_KB, ∀ k, c.2.1 ≤ k → k ≤ c.2.2 → M' c.1 k = M c.1 k) (hB : h_B M 0 (r_G M)) : h_B M' 0 (r_G M') := by
  have h40 := hB.2.1.2
  refine h_B_cg hB (h (10, 0, 0) (by decide) 0 (by decide) (by decide)) (h (193, 1198, 1198) (by decide) 1198 (by decide) (by decide)) (fun q hq => ?_)
  have m : (193, 28 * q, 28 * q + 1) ∈ h_KB := List.mem_append.mpr (Or.inr (List.mem_map.mpr ⟨q, List.mem_range.mpr (by omega), rfl⟩))
  refine ⟨h (11, 0, 39) (by decide) q (Nat.zero_le _) (by show q ≤ 39; omega), h (13, 0, 39) (by decide) q (Nat.zero_le _) (by show q ≤ 39; omega), ?_, ?_⟩
  · have e := h _ m (28 * q) (Nat.le_refl _) (Nat.le_succ _)
    unfold r_G
    rw [show (28 * (q : Int)).toNat = 28 * q by omega]
    exact e
  · have e := h _ m (28 * q + 1) (Nat.le_succ _) (Nat.le_refl _)
    unfold r_G
    rw [show (28 * (q : Int) + 1).toNat = 28 * q + 1 by omega]
    exact e
theorem h_keepI {M M' : EM} (h : ∀ c ∈ h_KI, ∀ k, c.2.1 ≤ k → k ≤ c.2.2 → M' c.1 k = M c.1 k) (hB : h_B M 68 (r_Gi M)) : h_B M' 68 (r_Gi M') := by
  have h40 := hB.2.1.2
  refine h_B_cg hB (h (78, 0, 0) (by decide) 0 (by decide) (by decide)) (h (194, 1198, 1198) (by decide) 1198 (by decide) (by decide)) (fun q hq => ?_)
  have m : (194, 28 * q, 28 * q + 1) ∈ h_KI := List.mem_append.mpr (Or.inr (List.mem_map.mpr ⟨q, List.mem_range.mpr (by omega), rfl⟩))
  refine ⟨h (79, 0, 39) (by decide) q (Nat.zero_le _) (by show q ≤ 39; omega), h (81, 0, 39) (by decide) q (Nat.zero_le _) (by show q ≤ 39; omega), ?_, ?_⟩
  · have e := h _ m (28 * q) (Nat.le_refl _) (Nat.le_succ _)
    show M' 194 (28 * (q : Int)).toNat = M 194 (28 * (q : Int)).toNat
    rw [show (28 * (q : Int)).toNat = 28 * q by omega]
    exact e
  · have e := h _ m (28 * q + 1) (Nat.le_succ _) (Nat.le_refl _)
    show M' 194 (28 * (q : Int) + 1).toNat = M 194 (28 * (q : Int) + 1).toNat
    rw [show (28 * (q : Int) + 1).toNat = 28 * q + 1 by omega]
    exact e
theorem h_S_cg {M M' : EM} (hS : h_S M) (e : ∀ d : Nat, d < 8 → M' 195 d = M 195 d ∧ M' 196 d = M 196 d ∧ M' 197 d = M 197 d ∧ M' (146 + 2 * d) 0 = M (146 + 2 * d) 0 ∧ M' (146 + 2 * d) 1 = M (146 + 2 * d) 1 ∧ M' (146 + 2 * d) 4 = M (146 + 2 * d) 4 ∧ M' (146 + 2 * d) 5 = M (146 + 2 * d) 5 ∧ ∀ i, i < 120 → M' (147 + 2 * d) i = M (147 + 2 * d) i ∧ M' 198 (120 * d + i) = M 198 (120 * d + i)) : h_S M' := by
  intro d hd
  obtain ⟨a1, a2, a3, a4, a5, a6, a7, a8⟩ := e d hd
  rw [a1, a2, a3, a4, a5, a6, a7]
  rcases hS d hd with h | h | ⟨b1, b2, b3, b4, b5, b6⟩
  · exact Or.inl h
  · exact Or.inr (Or.inl h)
  · exact Or.inr (Or.inr ⟨b1, b2, b3, b4, b5, fun i hi => by rw [(a8 i hi).1, (a8 i hi).2]; exact b6 i hi⟩)
theorem h_keepS {M M' : EM} (h : ∀ c ∈ h_KS, ∀ k, c.2.1 ≤ k → k ≤ c.2.2 → M' c.1 k = M c.1 k) (hS : h_S M) : h_S M' := by
  refine h_S_cg hS (fun d hd => ?_)
  have m : ∀ c, c ∈ [(146 + 2 * d, 0, 1), (146 + 2 * d, 4, 5), (147 + 2 * d, 0, 119)] → c ∈ h_KS := fun c hc => List.mem_append.mpr (Or.inr (List.mem_flatMap.mpr ⟨d, List.mem_range.mpr hd, hc⟩))
  have m1 := h (146 + 2 * d, 0, 1) (m _ (by simp))
  have m2 := h (146 + 2 * d, 4, 5) (m _ (by simp))
  have m3 := h (147 + 2 * d, 0, 119) (m _ (by simp))
  refine ⟨h (195, 0, 7) (by decide) d (Nat.zero_le _) (by show d ≤ 7; omega), h (196, 0, 7) (by decide) d (Nat.zero_le _) (by show d ≤ 7; omega), h (197, 0, 7) (by decide) d (Nat.zero_le _) (by show d ≤ 7; omega), m1 0 (Nat.zero_le 0) (Nat.zero_le 1), m1 1 (Nat.zero_le 1) (Nat.le_refl 1), m2 4 (Nat.le_refl 4) (Nat.le_succ 4), m2 5 (Nat.le_succ 4) (Nat.le_refl 5), fun i hi => ⟨m3 i (Nat.zero_le _) (by show i ≤ 119; omega), h (198, 0, 959) (by decide) _ (Nat.zero_le _) (by show 120 * d + i ≤ 959; omega)⟩⟩
/-- all that is related -/
def h_R (M : EM) : Prop := p_R M ∧ h_B M 0 (r_G M) ∧ h_B M 68 (r_Gi M) ∧ h_S M ∧ M 165 0 = 0
theorem h_keep {W : AW} {M M' : EM} (h1 : p_av p_k1 W = true) (h2 : p_av p_k2 W = true) (h3 : h_av h_KB W = true) (h4 : h_av h_KI W = true) (h5 : h_av h_KS W = true) (h6 : h_av [(165, 0, 0)] W = true) (hf : a_fr W M M') (hR : h_R M) : h_R M' := by
  obtain ⟨r1, r2, r3, r4, r5⟩ := hR
  refine ⟨p_keep h1 h2 hf r1, h_keepB (h_av_ok h3 hf) r2, h_keepI (h_av_ok h4 hf) r3, h_keepS (h_av_ok h5 hf) r4, ?_⟩
  rw [h_av_ok h6 hf (165, 0, 0) List.mem_cons_self 0 (Nat.le_refl _) (Nat.le_refl _)]
  exact r5
/-- what the image's copies cover -/
theorem h_cov : (∃ w ∈ p_D48, w.1 = 10 ∧ w.2.1 ≤ 0 ∧ 0 ≤ w.2.2) ∧ (∃ w ∈ p_D48, w.1 = 11 ∧ w.2.1 = 0 ∧ 39 ≤ w.2.2) ∧ (∃ w ∈ p_D48, w.1 = 13 ∧ w.2.1 = 0 ∧ 39 ≤ w.2.2) := by decide +kernel
theorem h_cp {so to : Nat} {M M1 : EM} (c : p_C so to p_D48 M M1) : M1 (10 + to) 0 = M (10 + so) 0 ∧ ∀ q, q < 40 → M1 (11 + to) q = M (11 + so) q ∧ M1 (13 + to) q = M (13 + so) q := by
  obtain ⟨⟨w, w1, w2, w3, w4⟩, ⟨v, v1, v2, v3, v4⟩, ⟨u, u1, u2, u3, u4⟩⟩ := h_cov
  refine ⟨?_, fun q hq => ⟨?_, ?_⟩⟩
  · have := c.1 w w1 0 w3 w4
    rw [w2] at this
    exact this
  · have := c.1 v v1 q (by omega) (by omega)
    rw [v2] at this
    exact this
  · have := c.1 u u1 q (by omega) (by omega)
    rw [u2] at this
    exact this
theorem h_image {r1 r2 : Int} {M M1 M2 : EM} (hB : h_B M 0 (r_G M)) (k1 : E_C 136 [8] M = some (r1, M1)) (k2 : E_C 255 [192] M1 = some (r2, M2)) : r1 = r2 ∧ h_B M2 0 (r_G M2) ∧ h_B M2 68 (r_Gi M2) := by
  obtain ⟨N, c1, c2⟩ := p_image M
  have e1 := Prod.mk.inj (Option.some.inj (k1.symm.trans c1))
  obtain ⟨e1, e2⟩ := e1
  subst e1
  subst e2
  have e3 := Prod.mk.inj (Option.some.inj (k2.symm.trans (r_image _)))
  obtain ⟨e3, e4⟩ := e3
  obtain ⟨p0, p1⟩ := h_cp c2
  have far : ∀ id j, id < 78 ∨ 145 < id → N id j = M id j := fun id j h => c2.2.1 _ _ (fun w hw e => by have := c2.2.2 w hw; omega)
  have h40 := hB.2.1.2
  have z : ∀ id j, id ≠ 8 → id ≠ 192 → id ≠ 194 → M2 id j = N id j := fun id j a b c => by
    rw [e4, c_up_n (fun e => b e.1), r_cp_n c, c_up_n (fun e => a e.1)]
  have zi : ∀ j, j < 1330 → M2 194 j = M 193 j := fun j hj => by
    rw [e4, c_up_n (fun e => by omega), r_cp_t hj, c_up_n (fun e => by omega)]
    exact far _ _ (by omega)
  have eG : r_G M2 = r_G M := funext fun i => (z _ _ (by decide) (by decide) (by decide)).trans (far _ _ (by omega))
  refine ⟨?_, ?_, ?_⟩
  · rw [e3]
    exact hB.1.trans ((far 193 1198 (by omega)).symm.trans (c_up_n (fun e => by omega)).symm)
  · rw [eG]
    exact h_B_cg hB ((z _ _ (by decide) (by decide) (by decide)).trans (far _ _ (by omega))) rfl (fun q _ => ⟨(z _ _ (by decide) (by decide) (by decide)).trans (far _ _ (by omega)), (z _ _ (by decide) (by decide) (by decide)).trans (far _ _ (by omega)), rfl, rfl⟩)
  · obtain ⟨b1, b2, b3⟩ := hB
    have eg : ∀ i : Int, 0 ≤ i → i < 1330 → r_Gi M2 i = r_G M i := fun i i0 i1 => zi i.toNat (by omega)
    rw [show h_B M2 68 (r_Gi M2) = h_B M2 68 (r_Gi M2) from rfl]
    refine ⟨?_, ?_, fun q hq => ?_⟩
    · rw [eg _ (by decide) (by decide), ← b1]
      exact (z 78 0 (by decide) (by decide) (by decide)).trans p0
    · rw [eg _ (by decide) (by decide)]; exact b2
    · have e98 := eg 1198 (by decide) (by decide)
      rw [e98] at hq ⊢
      obtain ⟨a1, a2, a3, a4⟩ := b3 q hq
      rw [eg _ (by omega) (by omega), eg _ (by omega) (by omega)]
      exact ⟨(z 79 q (by decide) (by decide) (by decide)).trans ((p1 q (by omega)).1.trans a1), (z 81 q (by decide) (by decide) (by decide)).trans ((p1 q (by omega)).2.trans a2), a3, a4⟩
theorem h_restore {r1 r2 : Int} {M M1 M2 : EM} (hfl : M 8 2 = M 192 9) (hB : h_B M 0 (r_G M)) (hI : h_B M 68 (r_Gi M)) (k1 : E_C 137 [8] M = some (r1, M1)) (k2 : E_C 256 [192] M1 = some (r2, M2)) : r1 = r2 ∧ h_B M2 0 (r_G M2) ∧ h_B M2 68 (r_Gi M2) := by
  by_cases z : M 8 2 = 0
  · have e1 := Prod.mk.inj (Option.some.inj (k1.symm.trans (p_restore0 z)))
    obtain ⟨e1, e2⟩ := e1
    subst e1
    subst e2
    rw [r_restore, if_pos (hfl ▸ z)] at k2
    have e3 := Prod.mk.inj (Option.some.inj k2)
    rw [← e3.1, ← e3.2]
    exact ⟨rfl, hB, hI⟩
  · obtain ⟨N, c1, c2⟩ := p_restore z
    have e1 := Prod.mk.inj (Option.some.inj (k1.symm.trans c1))
    obtain ⟨e1, e2⟩ := e1
    subst e2
    have far : ∀ id j, id < 10 ∨ 76 < id → M1 id j = M id j := fun id j h => c2.2.1 _ _ (fun w hw e => by have := c2.2.2 w hw; omega)
    have z2 : ¬ M1 192 9 = 0 := by rw [far _ _ (by omega), ← hfl]; exact z
    rw [r_restore, if_neg z2] at k2
    have e3 := Prod.mk.inj (Option.some.inj k2)
    obtain ⟨e3, e4⟩ := e3
    obtain ⟨p0, p1⟩ := h_cp c2
    have h40 := hI.2.1.2
    have w1 : ∀ id j, id ≠ 193 → M2 id j = M1 id j := fun id j h => by rw [← e4]; exact r_cp_n h
    have w2 : ∀ j, j < 1330 → M2 193 j = M 194 j := fun j hj => by rw [← e4, r_cp_t hj]; exact far _ _ (by omega)
    have eg : ∀ i : Int, 0 ≤ i → i < 1330 → r_G M2 i = r_Gi M i := fun i i0 i1 => w2 i.toNat (by omega)
    have ei : r_Gi M2 = r_Gi M := funext fun i => (w1 _ _ (by decide)).trans (far _ _ (by omega))
    obtain ⟨b1, b2, b3⟩ := hI
    refine ⟨?_, ⟨?_, ?_, fun q hq => ?_⟩, ?_⟩
    · rw [e1, ← e3]
      have h1 : r_cp M1 194 193 0 193 1198 = M 194 1198 := (r_cp_t (by decide)).trans (far _ _ (by omega))
      rw [h1]
      exact p0.trans b1
    · rw [eg _ (by decide) (by decide), ← b1]
      exact (w1 10 0 (by decide)).trans p0
    · rw [eg _ (by decide) (by decide)]; exact b2
    · have e98 := eg 1198 (by decide) (by decide)
      rw [e98] at hq ⊢
      obtain ⟨a1, a2, a3, a4⟩ := b3 q hq
      rw [eg _ (by omega) (by omega), eg _ (by omega) (by omega)]
      exact ⟨(w1 11 q (by decide)).trans ((p1 q (by omega)).1.trans a1), (w1 13 q (by decide)).trans ((p1 q (by omega)).2.trans a2), a3, a4⟩
    · rw [ei]
      exact h_B_cg ⟨b1, b2, b3⟩ ((w1 _ _ (by decide)).trans (far _ _ (by omega))) rfl (fun q _ => ⟨(w1 _ _ (by decide)).trans (far _ _ (by omega)), (w1 _ _ (by decide)).trans (far _ _ (by omega)), rfl, rfl⟩)
end
section
/-! SHELVES: row, put -/
theorem h_270l {a : Int} (ha : 8 ≤ a ∧ a.toNat < e_N ∧ e_sh a.toNat = (100, 120)) : ∀ (m i : Nat) (M : EM), i + m = 120 → ∃ M', E_V 270 5 [a, 0, (i : Int), 120] M = some (0, M') ∧ (∀ id k, ¬ (id = a.toNat ∧ i ≤ k ∧ k < 120) → M' id k = M id k) ∧ ∀ k, i ≤ k → k < 120 → M' a.toNat k = 0 := by
  intro m
  induction m with
  | zero =>
    intro i M hm
    have e : i = 120 := by omega
    subst e
    refine ⟨M, ?_, fun _ _ _ => rfl, fun k h1 h2 => by omega⟩
    rw [E_V_eq]
    show e_tv E_C (E_V 270) e_t270_5 [a, 0, ((120 : Nat) : Int), 120] M = _
    unfold e_t270_5
    simp [zq_a, zq_b, zq_c, zq_d, zq_e, zq_f, zq_g, zq_h, zq_i, zq_j, zq_k, zq_l, zq_m, zq_n, zq_o, zq_p, zq_q, zq_r, zq_s, zq_t, zq_u, zq_v, zq_w, zq_x, zq_y, zq_z, zq_A, zq_B, zq_C, zq_D, zq_E, zq_F, zq_G, zq_H, zq_I, zq_J, zq_K, zq_L, ↓zq_M, ↓zq_N, ↓zq_O, ↓zq_P, ↓zq_Q, ↓zq_R, zq_S, zq_T, zq_U, zq_V, zq_W, zq_X, zq_Y, zq_Z, zq_0, zq_1, zq_2, zq_3, zq_4, zq_5, ↓zq_6, ↓zq_7, ↓zq_8, ↓zq_9, ↓zq_aa, zq_ab, zq_ac, zq_ad, zq_ae, zq_af, zq_ag, ↓zq_ah, ↓zq_ai, ↓zq_aj, zq_ak, ↓zq_al, ↓zq_am, e_b1, e_b2, x_o1, x_o2]
  | succ m ih =>
    intro i M hm
    have q : (i : Int) < 120 := by omega
    have h0 : (0 : Int) ≤ (i : Int) := by omega
    have st : e_st 100 [a, (i : Int), 0] M = some (e_up M a.toNat i 0) := r_st (n := 120) ha.1 ha.2.1 ha.2.2 h0 q
    obtain ⟨M', k1, c1, c2⟩ := ih (i + 1) (e_up M a.toNat i 0) (by omega)
    have w1 : e_w ((i : Int) + 1) = ((i + 1 : Nat) : Int) := by
      clear st k1 c1 c2
      exact (a_w_id (by omega) (by omega)).trans (by omega)
    refine ⟨M', ?_, fun id k h => ?_, fun k h1 h2 => ?_⟩
    · rw [← k1]
      generalize ((i + 1 : Nat) : Int) = y at w1
      clear k1 c1 c2 ih
      rw [E_V_eq]
      show e_tv E_C (E_V 270) e_t270_5 [a, 0, (i : Int), 120] M = _
      unfold e_t270_5
      simp [zq_a, zq_b, zq_c, zq_d, zq_e, zq_f, zq_g, zq_h, zq_i, zq_j, zq_k, zq_l, zq_m, zq_n, zq_o, zq_p, zq_q, zq_r, zq_s, zq_t, zq_u, zq_v, zq_w, zq_x, zq_y, zq_z, zq_A, zq_B, zq_C, zq_D, zq_E, zq_F, zq_G, zq_H, zq_I, zq_J, zq_K, zq_L, ↓zq_M, ↓zq_N, ↓zq_O, ↓zq_P, ↓zq_Q, ↓zq_R, zq_S, zq_T, zq_U, zq_V, zq_W, zq_X, zq_Y, zq_Z, zq_0, zq_1, zq_2, zq_3, zq_4, zq_5, ↓zq_6, ↓zq_7, ↓zq_8, ↓zq_9, ↓zq_aa, zq_ab, zq_ac, zq_ad, zq_ae, zq_af, zq_ag, ↓zq_ah, ↓zq_ai, ↓zq_aj, zq_ak, ↓zq_al, ↓zq_am, e_b1, e_b2, x_o1, x_o2, q, st, w1]
    · rw [c1 id k (by omega)]
      exact c_up_n (by omega)
    · by_cases e : k = i
      · subst e
        rw [c1 _ _ (by omega)]
        exact c_up_s
      · exact c2 k (by omega) h2
theorem h_270 {a : Int} (ha : 8 ≤ a ∧ a.toNat < e_N ∧ e_sh a.toNat = (100, 120)) (M : EM) : ∃ M', E_C 270 [a, 0] M = some (0, M') ∧ (∀ id k, ¬ (id = a.toNat ∧ k < 120) → M' id k = M id k) ∧ ∀ k, k < 120 → M' a.toNat k = 0 := by
  obtain ⟨M', k1, c1, c2⟩ := h_270l ha 120 0 M (by decide)
  have ln : e_op 63 [a] M = some 120 := p_len (n := 120) ⟨ha.1, ha.2.1, by rw [ha.2.2]; decide, by rw [ha.2.2]⟩ M
  refine ⟨M', ?_, fun id k h => c1 id k (by omega), fun k h => c2 k (Nat.zero_le _) h⟩
  have k1' : E_V 270 5 [a, 0, 0, 120] M = some (0, M') := k1
  rw [r_ent (show e_rok 270 [a, 0] = true from rfl)]
  show e_tv E_C (E_V 270) e_t270_0 [a, 0, 0, 0] M = _
  unfold e_t270_0
  simp [zq_a, zq_b, zq_c, zq_d, zq_e, zq_f, zq_g, zq_h, zq_i, zq_j, zq_k, zq_l, zq_m, zq_n, zq_o, zq_p, zq_q, zq_r, zq_s, zq_t, zq_u, zq_v, zq_w, zq_x, zq_y, zq_z, zq_A, zq_B, zq_C, zq_D, zq_E, zq_F, zq_G, zq_H, zq_I, zq_J, zq_K, zq_L, ↓zq_M, ↓zq_N, ↓zq_O, ↓zq_P, ↓zq_Q, ↓zq_R, zq_S, zq_T, zq_U, zq_V, zq_W, zq_X, zq_Y, zq_Z, zq_0, zq_1, zq_2, zq_3, zq_4, zq_5, ↓zq_6, ↓zq_7, ↓zq_8, ↓zq_9, ↓zq_aa, zq_ab, zq_ac, zq_ad, zq_ae, zq_af, zq_ag, ↓zq_ah, ↓zq_ai, ↓zq_aj, zq_ak, ↓zq_al, ↓zq_am, e_b1, e_b2, x_o1, x_o2, ln, k1']
theorem h_87 {h k n : Int} (hh : h ∈ a_SH) (M : EM) : ∃ M', E_C 87 [h, k, n] M = some (0, M') ∧ M' h.toNat 0 = 0 ∧ M' h.toNat 1 = 1 ∧ M' h.toNat 4 = k ∧ M' h.toNat 5 = n ∧ (∀ i, i < 120 → M' (h + 1).toNat i = 0) ∧ ∀ id j, ¬ (id = h.toNat ∧ (j = 0 ∨ j = 1 ∨ j = 4 ∨ j = 5)) → ¬ (id = (h + 1).toNat ∧ j < 120) → M' id j = M id j := by
  obtain ⟨s1, s2, s3, s4, s5, s6, s7⟩ := w_sh hh
  obtain ⟨M', k1, c1, c2⟩ := h_270 ⟨s2, s3, s4⟩ (e_up (e_up (e_up (e_up M h.toNat 0 0) h.toNat 1 1) h.toNat 4 k) h.toNat 5 n)
  have p0 : ∀ v M, e_pf 512 [h, v] M = some (e_up M h.toNat 0 v) := fun v M => c_pf s1 (by decide +kernel)
  have p1 : ∀ v M, e_pf 513 [h, v] M = some (e_up M h.toNat 1 v) := fun v M => c_pf s1 (by decide +kernel)
  have p4 : ∀ v M, e_pf 516 [h, v] M = some (e_up M h.toNat 4 v) := fun v M => c_pf s1 (by decide +kernel)
  have p5 : ∀ v M, e_pf 517 [h, v] M = some (e_up M h.toNat 5 v) := fun v M => c_pf s1 (by decide +kernel)
  have g6 : ∀ M, e_gf 518 [h] M = some (h + 1) := fun M => (c_gr s1 (by decide +kernel)).trans (congrArg some s5)
  have hne : h.toNat ≠ (h + 1).toNat := by omega
  refine ⟨M', ?_, ?_, ?_, ?_, ?_, c2, fun id j h1 h2 => ?_⟩
  · rw [r_ent (show e_rok 87 [h, k, n] = true from decide_eq_true s1)]
    show e_tv E_C (E_V 87) e_t87_0 [h, k, n] M = _
    unfold e_t87_0
    simp [zq_a, zq_b, zq_c, zq_d, zq_e, zq_f, zq_g, zq_h, zq_i, zq_j, zq_k, zq_l, zq_m, zq_n, zq_o, zq_p, zq_q, zq_r, zq_s, zq_t, zq_u, zq_v, zq_w, zq_x, zq_y, zq_z, zq_A, zq_B, zq_C, zq_D, zq_E, zq_F, zq_G, zq_H, zq_I, zq_J, zq_K, zq_L, ↓zq_M, ↓zq_N, ↓zq_O, ↓zq_P, ↓zq_Q, ↓zq_R, zq_S, zq_T, zq_U, zq_V, zq_W, zq_X, zq_Y, zq_Z, zq_0, zq_1, zq_2, zq_3, zq_4, zq_5, ↓zq_6, ↓zq_7, ↓zq_8, ↓zq_9, ↓zq_aa, zq_ab, zq_ac, zq_ad, zq_ae, zq_af, zq_ag, ↓zq_ah, ↓zq_ai, ↓zq_aj, zq_ak, ↓zq_al, ↓zq_am, e_b1, e_b2, x_o1, x_o2, p0, p1, p4, p5, g6, k1]
  · rw [c1 _ _ (fun e => hne e.1), c_up_n (by omega), c_up_n (by omega), c_up_n (by omega), c_up_s]
  · rw [c1 _ _ (fun e => hne e.1), c_up_n (by omega), c_up_n (by omega), c_up_s]
  · rw [c1 _ _ (fun e => hne e.1), c_up_n (by omega), c_up_s]
  · rw [c1 _ _ (fun e => hne e.1), c_up_s]
  · rw [c1 _ _ h2, c_up_n (by omega), c_up_n (by omega), c_up_n (by omega), c_up_n (by omega)]
/-- the class's row -/
def h_okr (d k n : Int) : Prop := (0 ≤ d ∧ d < 8) ∧ (0 ≤ k ∧ k ≤ 2) ∧ n ≤ 120
theorem h_140y {d k n s r : Int} {M M1 : EM} (hd : E_C 154 [8, d] M = some (s, M)) (hs : s ≠ -1) (k0 : 0 ≤ k) (k2 : k ≤ 2) (n1 : n ≤ 120) (n0 : 0 ≤ n) (h : E_C 87 [s, k, n] M = some (r, M1)) : E_C 140 [8, d, k, n] M = some (0, M1) := by
  have s0 : E_C 140 [8, d, k, n] M = e_tv E_C (E_V 140) e_t140_0 [8, d, k, n, 0] M := r_ent (u := 140) (as := [8, d, k, n]) (M := M) (decide_eq_true c_this)
  have a1 : ¬ k < 0 := by omega
  have a2 : ¬ 2 < k := by omega
  have a3 : ¬ 120 < n := by omega
  have a4 : ¬ n < 0 := by omega
  rw [s0]
  unfold e_t140_0
  simp [zq_a, zq_b, zq_c, zq_d, zq_e, zq_f, zq_g, zq_h, zq_i, zq_j, zq_k, zq_l, zq_m, zq_n, zq_o, zq_p, zq_q, zq_r, zq_s, zq_t, zq_u, zq_v, zq_w, zq_x, zq_y, zq_z, zq_A, zq_B, zq_C, zq_D, zq_E, zq_F, zq_G, zq_H, zq_I, zq_J, zq_K, zq_L, ↓zq_M, ↓zq_N, ↓zq_O, ↓zq_P, ↓zq_Q, ↓zq_R, zq_S, zq_T, zq_U, zq_V, zq_W, zq_X, zq_Y, zq_Z, zq_0, zq_1, zq_2, zq_3, zq_4, zq_5, ↓zq_6, ↓zq_7, ↓zq_8, ↓zq_9, ↓zq_aa, zq_ab, zq_ac, zq_ad, zq_ae, zq_af, zq_ag, ↓zq_ah, ↓zq_ai, ↓zq_aj, zq_ak, ↓zq_al, ↓zq_am, e_b1, e_b2, x_o1, x_o2, hd, hs, k0, k2, n1, n0, a1, a2, a3, a4, h]
theorem h_140n {d k n s z : Int} {M : EM} (hd : E_C 154 [8, d] M = some (s, M)) (h : s = -1 ∨ k < 0 ∨ 2 < k ∨ 120 < n ∨ n < 0) (hz : z = if s = -1 ∨ k < 0 ∨ 2 < k ∨ 120 < n then -1 else -14) : E_C 140 [8, d, k, n] M = some (z, M) := by
  have s0 : E_C 140 [8, d, k, n] M = e_tv E_C (E_V 140) e_t140_0 [8, d, k, n, 0] M := r_ent (u := 140) (as := [8, d, k, n]) (M := M) (decide_eq_true c_this)
  rw [s0]
  unfold e_t140_0
  by_cases q0 : s = -1
  · rw [if_pos (Or.inl q0)] at hz
    subst hz
    simp [zq_a, zq_b, zq_c, zq_d, zq_e, zq_f, zq_g, zq_h, zq_i, zq_j, zq_k, zq_l, zq_m, zq_n, zq_o, zq_p, zq_q, zq_r, zq_s, zq_t, zq_u, zq_v, zq_w, zq_x, zq_y, zq_z, zq_A, zq_B, zq_C, zq_D, zq_E, zq_F, zq_G, zq_H, zq_I, zq_J, zq_K, zq_L, ↓zq_M, ↓zq_N, ↓zq_O, ↓zq_P, ↓zq_Q, ↓zq_R, zq_S, zq_T, zq_U, zq_V, zq_W, zq_X, zq_Y, zq_Z, zq_0, zq_1, zq_2, zq_3, zq_4, zq_5, ↓zq_6, ↓zq_7, ↓zq_8, ↓zq_9, ↓zq_aa, zq_ab, zq_ac, zq_ad, zq_ae, zq_af, zq_ag, ↓zq_ah, ↓zq_ai, ↓zq_aj, zq_ak, ↓zq_al, ↓zq_am, e_b1, e_b2, x_o1, x_o2, hd, q0]
  · rcases x_le 0 k with ⟨q1, q1_n⟩ | ⟨q1, q1_n⟩
    · rcases x_le k 2 with ⟨q2, q2_n⟩ | ⟨q2, q2_n⟩
      · rcases x_le n 120 with ⟨q3, q3_n⟩ | ⟨q3, q3_n⟩
        · have q4 : n < 0 := by omega
          have q5 : ¬ 0 ≤ n := by omega
          rw [if_neg (by omega)] at hz
          subst hz
          simp [zq_a, zq_b, zq_c, zq_d, zq_e, zq_f, zq_g, zq_h, zq_i, zq_j, zq_k, zq_l, zq_m, zq_n, zq_o, zq_p, zq_q, zq_r, zq_s, zq_t, zq_u, zq_v, zq_w, zq_x, zq_y, zq_z, zq_A, zq_B, zq_C, zq_D, zq_E, zq_F, zq_G, zq_H, zq_I, zq_J, zq_K, zq_L, ↓zq_M, ↓zq_N, ↓zq_O, ↓zq_P, ↓zq_Q, ↓zq_R, zq_S, zq_T, zq_U, zq_V, zq_W, zq_X, zq_Y, zq_Z, zq_0, zq_1, zq_2, zq_3, zq_4, zq_5, ↓zq_6, ↓zq_7, ↓zq_8, ↓zq_9, ↓zq_aa, zq_ab, zq_ac, zq_ad, zq_ae, zq_af, zq_ag, ↓zq_ah, ↓zq_ai, ↓zq_aj, zq_ak, ↓zq_al, ↓zq_am, e_b1, e_b2, x_o1, x_o2, hd, q0, q1, q1_n, q2, q2_n, q3, q3_n, q4, q5]
        · rw [if_pos (by omega)] at hz
          subst hz
          simp [zq_a, zq_b, zq_c, zq_d, zq_e, zq_f, zq_g, zq_h, zq_i, zq_j, zq_k, zq_l, zq_m, zq_n, zq_o, zq_p, zq_q, zq_r, zq_s, zq_t, zq_u, zq_v, zq_w, zq_x, zq_y, zq_z, zq_A, zq_B, zq_C, zq_D, zq_E, zq_F, zq_G, zq_H, zq_I, zq_J, zq_K, zq_L, ↓zq_M, ↓zq_N, ↓zq_O, ↓zq_P, ↓zq_Q, ↓zq_R, zq_S, zq_T, zq_U, zq_V, zq_W, zq_X, zq_Y, zq_Z, zq_0, zq_1, zq_2, zq_3, zq_4, zq_5, ↓zq_6, ↓zq_7, ↓zq_8, ↓zq_9, ↓zq_aa, zq_ab, zq_ac, zq_ad, zq_ae, zq_af, zq_ag, ↓zq_ah, ↓zq_ai, ↓zq_aj, zq_ak, ↓zq_al, ↓zq_am, e_b1, e_b2, x_o1, x_o2, hd, q0, q1, q1_n, q2, q2_n, q3, q3_n]
      · rw [if_pos (by omega)] at hz
        subst hz
        simp [zq_a, zq_b, zq_c, zq_d, zq_e, zq_f, zq_g, zq_h, zq_i, zq_j, zq_k, zq_l, zq_m, zq_n, zq_o, zq_p, zq_q, zq_r, zq_s, zq_t, zq_u, zq_v, zq_w, zq_x, zq_y, zq_z, zq_A, zq_B, zq_C, zq_D, zq_E, zq_F, zq_G, zq_H, zq_I, zq_J, zq_K, zq_L, ↓zq_M, ↓zq_N, ↓zq_O, ↓zq_P, ↓zq_Q, ↓zq_R, zq_S, zq_T, zq_U, zq_V, zq_W, zq_X, zq_Y, zq_Z, zq_0, zq_1, zq_2, zq_3, zq_4, zq_5, ↓zq_6, ↓zq_7, ↓zq_8, ↓zq_9, ↓zq_aa, zq_ab, zq_ac, zq_ad, zq_ae, zq_af, zq_ag, ↓zq_ah, ↓zq_ai, ↓zq_aj, zq_ak, ↓zq_al, ↓zq_am, e_b1, e_b2, x_o1, x_o2, hd, q0, q1, q1_n, q2, q2_n]
    · rw [if_pos (by omega)] at hz
      subst hz
      simp [zq_a, zq_b, zq_c, zq_d, zq_e, zq_f, zq_g, zq_h, zq_i, zq_j, zq_k, zq_l, zq_m, zq_n, zq_o, zq_p, zq_q, zq_r, zq_s, zq_t, zq_u, zq_v, zq_w, zq_x, zq_y, zq_z, zq_A, zq_B, zq_C, zq_D, zq_E, zq_F, zq_G, zq_H, zq_I, zq_J, zq_K, zq_L, ↓zq_M, ↓zq_N, ↓zq_O, ↓zq_P, ↓zq_Q, ↓zq_R, zq_S, zq_T, zq_U, zq_V, zq_W, zq_X, zq_Y, zq_Z, zq_0, zq_1, zq_2, zq_3, zq_4, zq_5, ↓zq_6, ↓zq_7, ↓zq_8, ↓zq_9, ↓zq_aa, zq_ab, zq_ac, zq_ad, zq_ae, zq_af, zq_ag, ↓zq_ah, ↓zq_ai, ↓zq_aj, zq_ak, ↓zq_al, ↓zq_am, e_b1, e_b2, x_o1, x_o2, hd, q0, q1, q1_n]
/-- the reference's row -/
theorem h_259s {d k n i y : Int} {na : Nat} {M : EM} (q : i < 120) (w1 : e_w (i + 1) = y) (w2 : e_w (120 * d) = 120 * d) (w3 : e_w (120 * d + i) = 120 * d + i) (st : e_st 100 [198, 120 * d + i, 0] M = some (e_up M 198 na 0)) : E_V 259 58 [192, d, k, n, i] M = E_V 259 58 [192, d, k, n, y] (e_up M 198 na 0) := by
  rw [E_V_eq]
  show e_tv E_C (E_V 259) e_t259_58 [192, d, k, n, i] M = _
  unfold e_t259_58
  simp [zq_a, zq_b, zq_c, zq_d, zq_e, zq_f, zq_g, zq_h, zq_i, zq_j, zq_k, zq_l, zq_m, zq_n, zq_o, zq_p, zq_q, zq_r, zq_s, zq_t, zq_u, zq_v, zq_w, zq_x, zq_y, zq_z, zq_A, zq_B, zq_C, zq_D, zq_E, zq_F, zq_G, zq_H, zq_I, zq_J, zq_K, zq_L, ↓zq_M, ↓zq_N, ↓zq_O, ↓zq_P, ↓zq_Q, ↓zq_R, zq_S, zq_T, zq_U, zq_V, zq_W, zq_X, zq_Y, zq_Z, zq_0, zq_1, zq_2, zq_3, zq_4, zq_5, ↓zq_6, ↓zq_7, ↓zq_8, ↓zq_9, ↓zq_aa, zq_ab, zq_ac, zq_ad, zq_ae, zq_af, zq_ag, ↓zq_ah, ↓zq_ai, ↓zq_aj, zq_ak, ↓zq_al, ↓zq_am, e_b1, e_b2, x_o1, x_o2, r_O5, q, w1, w2, w3, st]
theorem h_259l {d k n : Int} (hd : 0 ≤ d ∧ d < 8) : ∀ (m i : Nat) (M : EM), i + m = 120 → ∃ M', E_V 259 58 [192, d, k, n, (i : Int)] M = some (0, M') ∧ (∀ id j, ¬ (id = 198 ∧ 120 * d.toNat + i ≤ j ∧ j < 120 * d.toNat + 120) → M' id j = M id j) ∧ ∀ j, i ≤ j → j < 120 → M' 198 (120 * d.toNat + j) = 0 := by
  intro m
  induction m with
  | zero =>
    intro i M hm
    have e : i = 120 := by omega
    subst e
    refine ⟨M, ?_, fun _ _ _ => rfl, fun k h1 h2 => by omega⟩
    rw [E_V_eq]
    show e_tv E_C (E_V 259) e_t259_58 [192, d, k, n, ((120 : Nat) : Int)] M = _
    unfold e_t259_58
    simp [zq_a, zq_b, zq_c, zq_d, zq_e, zq_f, zq_g, zq_h, zq_i, zq_j, zq_k, zq_l, zq_m, zq_n, zq_o, zq_p, zq_q, zq_r, zq_s, zq_t, zq_u, zq_v, zq_w, zq_x, zq_y, zq_z, zq_A, zq_B, zq_C, zq_D, zq_E, zq_F, zq_G, zq_H, zq_I, zq_J, zq_K, zq_L, ↓zq_M, ↓zq_N, ↓zq_O, ↓zq_P, ↓zq_Q, ↓zq_R, zq_S, zq_T, zq_U, zq_V, zq_W, zq_X, zq_Y, zq_Z, zq_0, zq_1, zq_2, zq_3, zq_4, zq_5, ↓zq_6, ↓zq_7, ↓zq_8, ↓zq_9, ↓zq_aa, zq_ab, zq_ac, zq_ad, zq_ae, zq_af, zq_ag, ↓zq_ah, ↓zq_ai, ↓zq_aj, zq_ak, ↓zq_al, ↓zq_am, e_b1, e_b2, x_o1, x_o2]
  | succ m ih =>
    intro i M hm
    have q : (i : Int) < 120 := by omega
    have b1 : 0 ≤ 120 * d + (i : Int) ∧ 120 * d + (i : Int) < 960 := by omega
    have e1 : (120 * d + (i : Int)).toNat = 120 * d.toNat + i := by omega
    have st : e_st 100 [198, 120 * d + (i : Int), 0] M = some (e_up M 198 (120 * d.toNat + i) 0) := (r_st (n := 960) (by decide) (by decide +kernel) (by decide +kernel) b1.1 b1.2).trans (by rw [e1]; rfl)
    obtain ⟨M', k1, c1, c2⟩ := ih (i + 1) (e_up M 198 (120 * d.toNat + i) 0) (by omega)
    have w : e_w ((i : Int) + 1) = ((i + 1 : Nat) : Int) ∧ e_w (120 * d) = 120 * d ∧ e_w (120 * d + (i : Int)) = 120 * d + (i : Int) := by
      clear st k1 c1 c2 ih e1
      refine ⟨(a_w_id (by omega) (by omega)).trans (by omega), ?_, ?_⟩ <;> exact a_w_id (by omega) (by omega)
    refine ⟨M', ?_, fun id j h => ?_, fun j h1 h2 => ?_⟩
    · rw [← k1]
      obtain ⟨w1, w2, w3⟩ := w
      exact h_259s q w1 w2 w3 st
    · rw [c1 id j (by omega)]
      exact c_up_n (by omega)
    · by_cases e : j = i
      · subst e
        rw [c1 _ _ (by omega)]
        exact c_up_s
      · exact c2 j (by omega) h2
def h_rz (d k n : Int) : Int := if 0 ≤ d ∧ d < 8 ∧ 0 ≤ k ∧ k ≤ 2 ∧ n ≤ 120 then (if n < 0 then -14 else 0) else -1
theorem h_is {d : Int} (M : EM) : E_C 173 [d] M = some (if 0 ≤ d ∧ d < 8 then 1 else 0, M) := by
  by_cases hd : 0 ≤ d ∧ d < 8
  · rw [if_pos hd]
    have k := r_in1 (M := M) (x := d) (lo := 0) (hi := 7) ⟨hd.1, by omega⟩
    rw [r_ent (show e_rok 173 [d] = true from rfl)]
    show e_tv E_C (E_V 173) e_t173_0 [d] M = _
    unfold e_t173_0
    simp [zq_a, zq_b, zq_c, zq_d, zq_e, zq_f, zq_g, zq_h, zq_i, zq_j, zq_k, zq_l, zq_m, zq_n, zq_o, zq_p, zq_q, zq_r, zq_s, zq_t, zq_u, zq_v, zq_w, zq_x, zq_y, zq_z, zq_A, zq_B, zq_C, zq_D, zq_E, zq_F, zq_G, zq_H, zq_I, zq_J, zq_K, zq_L, ↓zq_M, ↓zq_N, ↓zq_O, ↓zq_P, ↓zq_Q, ↓zq_R, zq_S, zq_T, zq_U, zq_V, zq_W, zq_X, zq_Y, zq_Z, zq_0, zq_1, zq_2, zq_3, zq_4, zq_5, ↓zq_6, ↓zq_7, ↓zq_8, ↓zq_9, ↓zq_aa, zq_ab, zq_ac, zq_ad, zq_ae, zq_af, zq_ag, ↓zq_ah, ↓zq_ai, ↓zq_aj, zq_ak, ↓zq_al, ↓zq_am, e_b1, e_b2, x_o1, x_o2, k]
  · rw [if_neg hd]
    have k := r_in0 (M := M) (x := d) (lo := 0) (hi := 7) (fun e => hd ⟨e.1, by omega⟩)
    rw [r_ent (show e_rok 173 [d] = true from rfl)]
    show e_tv E_C (E_V 173) e_t173_0 [d] M = _
    unfold e_t173_0
    simp [zq_a, zq_b, zq_c, zq_d, zq_e, zq_f, zq_g, zq_h, zq_i, zq_j, zq_k, zq_l, zq_m, zq_n, zq_o, zq_p, zq_q, zq_r, zq_s, zq_t, zq_u, zq_v, zq_w, zq_x, zq_y, zq_z, zq_A, zq_B, zq_C, zq_D, zq_E, zq_F, zq_G, zq_H, zq_I, zq_J, zq_K, zq_L, ↓zq_M, ↓zq_N, ↓zq_O, ↓zq_P, ↓zq_Q, ↓zq_R, zq_S, zq_T, zq_U, zq_V, zq_W, zq_X, zq_Y, zq_Z, zq_0, zq_1, zq_2, zq_3, zq_4, zq_5, ↓zq_6, ↓zq_7, ↓zq_8, ↓zq_9, ↓zq_aa, zq_ab, zq_ac, zq_ad, zq_ae, zq_af, zq_ag, ↓zq_ah, ↓zq_ai, ↓zq_aj, zq_ak, ↓zq_al, ↓zq_am, e_b1, e_b2, x_o1, x_o2, k]
theorem h_259n {d k n : Int} {M : EM} (h : ¬ (0 ≤ d ∧ d < 8 ∧ 0 ≤ k ∧ k ≤ 2 ∧ n ≤ 120 ∧ 0 ≤ n)) : E_C 259 [192, d, k, n] M = some (h_rz d k n, M) := by
  have i0 := h_is (d := d) M
  unfold h_rz
  by_cases hd : 0 ≤ d ∧ d < 8
  · rw [if_pos hd] at i0
    by_cases hk : 0 ≤ k ∧ k ≤ 2
    · have i1 := r_in1 (M := M) (x := k) (lo := 0) (hi := 2) hk
      rcases x_le n 120 with ⟨q3, q3_n⟩ | ⟨q3, q3_n⟩
      · have q4 : n < 0 := by omega
        have q5 : ¬ 0 ≤ n := by omega
        rw [if_pos ⟨hd.1, hd.2, hk.1, hk.2, q3⟩, if_pos q4]
        rw [r_ent (show e_rok 259 [192, d, k, n] = true from decide_eq_true r_ref)]
        show e_tv E_C (E_V 259) e_t259_0 [192, d, k, n, 0] M = _
        unfold e_t259_0
        simp [zq_a, zq_b, zq_c, zq_d, zq_e, zq_f, zq_g, zq_h, zq_i, zq_j, zq_k, zq_l, zq_m, zq_n, zq_o, zq_p, zq_q, zq_r, zq_s, zq_t, zq_u, zq_v, zq_w, zq_x, zq_y, zq_z, zq_A, zq_B, zq_C, zq_D, zq_E, zq_F, zq_G, zq_H, zq_I, zq_J, zq_K, zq_L, ↓zq_M, ↓zq_N, ↓zq_O, ↓zq_P, ↓zq_Q, ↓zq_R, zq_S, zq_T, zq_U, zq_V, zq_W, zq_X, zq_Y, zq_Z, zq_0, zq_1, zq_2, zq_3, zq_4, zq_5, ↓zq_6, ↓zq_7, ↓zq_8, ↓zq_9, ↓zq_aa, zq_ab, zq_ac, zq_ad, zq_ae, zq_af, zq_ag, ↓zq_ah, ↓zq_ai, ↓zq_aj, zq_ak, ↓zq_al, ↓zq_am, e_b1, e_b2, x_o1, x_o2, i0, i1, q3, q3_n, q4, q5]
      · rw [if_neg (fun e => q3 e.2.2.2.2)]
        rw [r_ent (show e_rok 259 [192, d, k, n] = true from decide_eq_true r_ref)]
        show e_tv E_C (E_V 259) e_t259_0 [192, d, k, n, 0] M = _
        unfold e_t259_0
        simp [zq_a, zq_b, zq_c, zq_d, zq_e, zq_f, zq_g, zq_h, zq_i, zq_j, zq_k, zq_l, zq_m, zq_n, zq_o, zq_p, zq_q, zq_r, zq_s, zq_t, zq_u, zq_v, zq_w, zq_x, zq_y, zq_z, zq_A, zq_B, zq_C, zq_D, zq_E, zq_F, zq_G, zq_H, zq_I, zq_J, zq_K, zq_L, ↓zq_M, ↓zq_N, ↓zq_O, ↓zq_P, ↓zq_Q, ↓zq_R, zq_S, zq_T, zq_U, zq_V, zq_W, zq_X, zq_Y, zq_Z, zq_0, zq_1, zq_2, zq_3, zq_4, zq_5, ↓zq_6, ↓zq_7, ↓zq_8, ↓zq_9, ↓zq_aa, zq_ab, zq_ac, zq_ad, zq_ae, zq_af, zq_ag, ↓zq_ah, ↓zq_ai, ↓zq_aj, zq_ak, ↓zq_al, ↓zq_am, e_b1, e_b2, x_o1, x_o2, i0, i1, q3, q3_n]
    · have i1 := r_in0 (M := M) (x := k) (lo := 0) (hi := 2) hk
      rw [if_neg (fun e => hk ⟨e.2.2.1, e.2.2.2.1⟩)]
      rw [r_ent (show e_rok 259 [192, d, k, n] = true from decide_eq_true r_ref)]
      show e_tv E_C (E_V 259) e_t259_0 [192, d, k, n, 0] M = _
      unfold e_t259_0
      simp [zq_a, zq_b, zq_c, zq_d, zq_e, zq_f, zq_g, zq_h, zq_i, zq_j, zq_k, zq_l, zq_m, zq_n, zq_o, zq_p, zq_q, zq_r, zq_s, zq_t, zq_u, zq_v, zq_w, zq_x, zq_y, zq_z, zq_A, zq_B, zq_C, zq_D, zq_E, zq_F, zq_G, zq_H, zq_I, zq_J, zq_K, zq_L, ↓zq_M, ↓zq_N, ↓zq_O, ↓zq_P, ↓zq_Q, ↓zq_R, zq_S, zq_T, zq_U, zq_V, zq_W, zq_X, zq_Y, zq_Z, zq_0, zq_1, zq_2, zq_3, zq_4, zq_5, ↓zq_6, ↓zq_7, ↓zq_8, ↓zq_9, ↓zq_aa, zq_ab, zq_ac, zq_ad, zq_ae, zq_af, zq_ag, ↓zq_ah, ↓zq_ai, ↓zq_aj, zq_ak, ↓zq_al, ↓zq_am, e_b1, e_b2, x_o1, x_o2, i0, i1]
  · rw [if_neg hd] at i0
    rw [if_neg (fun e => hd ⟨e.1, e.2.1⟩)]
    rw [r_ent (show e_rok 259 [192, d, k, n] = true from decide_eq_true r_ref)]
    show e_tv E_C (E_V 259) e_t259_0 [192, d, k, n, 0] M = _
    unfold e_t259_0
    simp [zq_a, zq_b, zq_c, zq_d, zq_e, zq_f, zq_g, zq_h, zq_i, zq_j, zq_k, zq_l, zq_m, zq_n, zq_o, zq_p, zq_q, zq_r, zq_s, zq_t, zq_u, zq_v, zq_w, zq_x, zq_y, zq_z, zq_A, zq_B, zq_C, zq_D, zq_E, zq_F, zq_G, zq_H, zq_I, zq_J, zq_K, zq_L, ↓zq_M, ↓zq_N, ↓zq_O, ↓zq_P, ↓zq_Q, ↓zq_R, zq_S, zq_T, zq_U, zq_V, zq_W, zq_X, zq_Y, zq_Z, zq_0, zq_1, zq_2, zq_3, zq_4, zq_5, ↓zq_6, ↓zq_7, ↓zq_8, ↓zq_9, ↓zq_aa, zq_ab, zq_ac, zq_ad, zq_ae, zq_af, zq_ag, ↓zq_ah, ↓zq_ai, ↓zq_aj, zq_ak, ↓zq_al, ↓zq_am, e_b1, e_b2, x_o1, x_o2, i0]
theorem h_259y {d k n : Int} {m : Nat} {M : EM} {o : EO} (hm : d = m) (hd : m < 8) (hk : 0 ≤ k ∧ k ≤ 2) (n1 : n ≤ 120) (n0 : 0 ≤ n) (h : E_V 259 58 [192, d, k, n, 0] (e_up (e_up (e_up M 195 m 2) 196 m k) 197 m n) = o) : E_C 259 [192, d, k, n] M = o := by
  have i0 := h_is (d := d) M
  rw [if_pos (by omega)] at i0
  have i1 := r_in1 (M := M) (x := k) (lo := 0) (hi := 2) hk
  have a3 : ¬ 120 < n := by omega
  have a4 : ¬ n < 0 := by omega
  have b : 0 ≤ d ∧ d < 8 := by omega
  have e : d.toNat = m := by omega
  have s1 : ∀ v M, e_st 100 [195, d, v] M = some (e_up M 195 m v) := fun v M => (r_st (n := 8) (by decide) (by decide +kernel) (by decide +kernel) b.1 b.2).trans (by rw [e]; rfl)
  have s2 : ∀ v M, e_st 100 [196, d, v] M = some (e_up M 196 m v) := fun v M => (r_st (n := 8) (by decide) (by decide +kernel) (by decide +kernel) b.1 b.2).trans (by rw [e]; rfl)
  have s3 : ∀ v M, e_st 100 [197, d, v] M = some (e_up M 197 m v) := fun v M => (r_st (n := 8) (by decide) (by decide +kernel) (by decide +kernel) b.1 b.2).trans (by rw [e]; rfl)
  rw [r_ent (show e_rok 259 [192, d, k, n] = true from decide_eq_true r_ref)]
  show e_tv E_C (E_V 259) e_t259_0 [192, d, k, n, 0] M = _
  unfold e_t259_0
  simp [zq_a, zq_b, zq_c, zq_d, zq_e, zq_f, zq_g, zq_h, zq_i, zq_j, zq_k, zq_l, zq_m, zq_n, zq_o, zq_p, zq_q, zq_r, zq_s, zq_t, zq_u, zq_v, zq_w, zq_x, zq_y, zq_z, zq_A, zq_B, zq_C, zq_D, zq_E, zq_F, zq_G, zq_H, zq_I, zq_J, zq_K, zq_L, ↓zq_M, ↓zq_N, ↓zq_O, ↓zq_P, ↓zq_Q, ↓zq_R, zq_S, zq_T, zq_U, zq_V, zq_W, zq_X, zq_Y, zq_Z, zq_0, zq_1, zq_2, zq_3, zq_4, zq_5, ↓zq_6, ↓zq_7, ↓zq_8, ↓zq_9, ↓zq_aa, zq_ab, zq_ac, zq_ad, zq_ae, zq_af, zq_ag, ↓zq_ah, ↓zq_ai, ↓zq_aj, zq_ak, ↓zq_al, ↓zq_am, e_b1, e_b2, x_o1, x_o2, r_O2, r_O3, r_O4, i0, i1, n1, n0, a3, a4, s1, s2, s3, h]
/-- one SHELF is new -/
theorem h_S_set {M M' : EM} (hS : h_S M) {m : Nat} (new : (M' 195 m = 0 ∧ M' (146 + 2 * m) 0 = 0 ∧ M' (146 + 2 * m) 1 = 0) ∨ (M' 195 m = 1 ∧ M' (146 + 2 * m) 0 = 1 ∧ M' (146 + 2 * m) 1 = 0) ∨ (M' 195 m = 2 ∧ M' (146 + 2 * m) 0 = 0 ∧ M' (146 + 2 * m) 1 = 1 ∧ M' (146 + 2 * m) 4 = M' 196 m ∧ M' (146 + 2 * m) 5 = M' 197 m ∧ ∀ i, i < 120 → M' (147 + 2 * m) i = M' 198 (120 * m + i))) (old : ∀ d : Nat, d < 8 → d ≠ m → M' 195 d = M 195 d ∧ M' 196 d = M 196 d ∧ M' 197 d = M 197 d ∧ M' (146 + 2 * d) 0 = M (146 + 2 * d) 0 ∧ M' (146 + 2 * d) 1 = M (146 + 2 * d) 1 ∧ M' (146 + 2 * d) 4 = M (146 + 2 * d) 4 ∧ M' (146 + 2 * d) 5 = M (146 + 2 * d) 5 ∧ ∀ i, i < 120 → M' (147 + 2 * d) i = M (147 + 2 * d) i ∧ M' 198 (120 * d + i) = M 198 (120 * d + i)) : h_S M' := by
  intro d hd
  by_cases e : d = m
  · subst e
    exact new
  · obtain ⟨a1, a2, a3, a4, a5, a6, a7, a8⟩ := old d hd e
    rw [a1, a2, a3, a4, a5, a6, a7]
    rcases hS d hd with h | h | ⟨b1, b2, b3, b4, b5, b6⟩
    · exact Or.inl h
    · exact Or.inr (Or.inl h)
    · exact Or.inr (Or.inr ⟨b1, b2, b3, b4, b5, fun i hi => by rw [(a8 i hi).1, (a8 i hi).2]; exact b6 i hi⟩)
theorem h_row {d k n r1 r2 : Int} {M M1 M2 : EM} (hS : h_S M) (k1 : E_C 140 [8, d, k, n] M = some (r1, M1)) (k2 : E_C 259 [192, d, k, n] M1 = some (r2, M2)) : r1 = r2 ∧ h_S M2 := by
  by_cases hd : 0 ≤ d ∧ d < 8
  · obtain ⟨m, hm⟩ : ∃ m : Nat, d = m := ⟨d.toNat, by omega⟩
    have m8 : m < 8 := by omega
    have hh := (h_gr145 m8).2
    have c0 : E_C 154 [8, d] M = some (((146 + 2 * m : Nat) : Int), M) := by
      rw [hm]
      exact h_154a (by omega) (by omega) (h_rd145 m8 M)
    have hs : ((146 + 2 * m : Nat) : Int) ≠ -1 := by omega
    by_cases q : (0 ≤ k ∧ k ≤ 2) ∧ n ≤ 120 ∧ 0 ≤ n
    · obtain ⟨q1, q2, q3⟩ := q
      obtain ⟨N, n1, n2, n3, n4, n5, n6, n7⟩ := h_87 (k := k) (n := n) hh M
      rw [Int.toNat_natCast] at n2 n3 n4 n5 n7
      rw [show (((146 + 2 * m : Nat) : Int) + 1).toNat = 147 + 2 * m by omega] at n6 n7
      have e1 := Prod.mk.inj (Option.some.inj (k1.symm.trans (h_140y c0 hs q1.1 q1.2 q2 q3 n1)))
      obtain ⟨e1, e2⟩ := e1
      subst e2
      obtain ⟨M', g1, g2, g3⟩ := h_259l (d := d) (k := k) (n := n) hd 120 0 (e_up (e_up (e_up M1 195 m 2) 196 m k) 197 m n) (by decide)
      have g1' : E_V 259 58 [192, d, k, n, 0] (e_up (e_up (e_up M1 195 m 2) 196 m k) 197 m n) = some (0, M') := g1
      have e3 := Prod.mk.inj (Option.some.inj (k2.symm.trans (h_259y hm m8 q1 q2 q3 g1')))
      obtain ⟨e3, e4⟩ := e3
      subst e4
      rw [show d.toNat = m by omega] at g2 g3
      have z : ∀ id j, id ≠ 195 → id ≠ 196 → id ≠ 197 → id ≠ 198 → M2 id j = M1 id j := fun id j a b c e => by
        rw [g2 id j (fun h => e h.1), c_up_n (fun h => c h.1), c_up_n (fun h => b h.1), c_up_n (fun h => a h.1)]
      have z5 : ∀ j, j ≠ m → M2 195 j = M1 195 j ∧ M2 196 j = M1 196 j ∧ M2 197 j = M1 197 j := fun j hj => by
        refine ⟨?_, ?_, ?_⟩
        · rw [g2 _ _ (by omega), c_up_n (by omega), c_up_n (by omega), c_up_n (by omega)]
        · rw [g2 _ _ (by omega), c_up_n (by omega), c_up_n (by omega), c_up_n (by omega)]
        · rw [g2 _ _ (by omega), c_up_n (by omega), c_up_n (by omega), c_up_n (by omega)]
      refine ⟨e1.trans e3.symm, h_S_set (m := m) hS (Or.inr (Or.inr ⟨?_, ?_, ?_, ?_, ?_, fun i hi => ?_⟩)) (fun d' hd' hne => ?_)⟩
      · rw [g2 _ _ (by omega), c_up_n (by omega), c_up_n (by omega), c_up_s]
      · rw [z _ _ (by omega) (by omega) (by omega) (by omega)]; exact n2
      · rw [z _ _ (by omega) (by omega) (by omega) (by omega)]; exact n3
      · rw [z _ _ (by omega) (by omega) (by omega) (by omega), n4, g2 _ _ (by omega), c_up_n (by omega), c_up_s]
      · rw [z _ _ (by omega) (by omega) (by omega) (by omega), n5, g2 _ _ (by omega), c_up_s]
      · rw [z _ _ (by omega) (by omega) (by omega) (by omega), n6 i hi, g3 i (Nat.zero_le _) hi]
      · have f : ∀ id j, (id = 146 + 2 * d' ∨ id = 147 + 2 * d') → M2 id j = M id j := fun id j h => by
          rw [z _ _ (by omega) (by omega) (by omega) (by omega)]
          exact n7 _ _ (by omega) (by omega)
        have f2 : ∀ id j, 195 ≤ id → M1 id j = M id j := fun id j h => n7 _ _ (by omega) (by omega)
        obtain ⟨y1, y2, y3⟩ := z5 d' hne
        refine ⟨y1.trans (f2 _ _ (by decide)), y2.trans (f2 _ _ (by decide)), y3.trans (f2 _ _ (by decide)), f _ _ (Or.inl rfl), f _ _ (Or.inl rfl), f _ _ (Or.inl rfl), f _ _ (Or.inl rfl), fun i hi => ⟨f _ _ (Or.inr rfl), ?_⟩⟩
        rw [g2 _ _ (by omega), c_up_n (by omega), c_up_n (by omega), c_up_n (by omega)]
        exact f2 _ _ (by decide)
    · have e1 := Prod.mk.inj (Option.some.inj (k1.symm.trans (h_140n c0 (by omega) rfl)))
      obtain ⟨e1, e2⟩ := e1
      subst e2
      have e3 := Prod.mk.inj (Option.some.inj (k2.symm.trans (h_259n (by omega))))
      refine ⟨?_, by rw [e3.2]; exact hS⟩
      rw [e1, e3.1]
      unfold h_rz
      by_cases c : 0 ≤ d ∧ d < 8 ∧ 0 ≤ k ∧ k ≤ 2 ∧ n ≤ 120
      · have c2 : ¬ (((146 + 2 * m : Nat) : Int) = -1 ∨ k < 0 ∨ 2 < k ∨ 120 < n) := by omega
        have c3 : n < 0 := by omega
        rw [if_neg c2, if_pos c, if_pos c3]
      · have c2 : ((146 + 2 * m : Nat) : Int) = -1 ∨ k < 0 ∨ 2 < k ∨ 120 < n := by omega
        rw [if_pos c2, if_neg c]
  · have c0 : E_C 154 [8, d] M = some (-1, M) := h_154n hd
    have e1 := Prod.mk.inj (Option.some.inj (k1.symm.trans (h_140n c0 (Or.inl rfl) rfl)))
    obtain ⟨e1, e2⟩ := e1
    subst e2
    have e3 := Prod.mk.inj (Option.some.inj (k2.symm.trans (h_259n (fun e => hd ⟨e.1, e.2.1⟩))))
    refine ⟨?_, by rw [e3.2]; exact hS⟩
    rw [e1, e3.1, if_pos (Or.inl rfl)]
    unfold h_rz
    rw [if_neg (fun e => hd ⟨e.1, e.2.1⟩)]
end
