/-! PARTS and SHELVES related: what keeps it; the image -/
def h_in (c : Nat × Nat × Nat) (w : Nat × Nat × Nat) : Bool := decide (w.1 ≠ c.1) || decide (w.2.2 < c.2.1) || decide (c.2.2 < w.2.1)
def h_av (K W : AW) : Bool := K.all (fun c => W.all (fun w => h_in c w))
theorem h_av_ok {K W : AW} {M M' : EM} (h : h_av K W = true) (hf : a_fr W M M') : ∀ c ∈ K, ∀ k, c.2.1 ≤ k → k ≤ c.2.2 → M' c.1 k = M c.1 k := fun c hc k k0 k1 => hf _ _ (fun w hw e => by
  have h1 := List.all_eq_true.mp (List.all_eq_true.mp h c hc) w hw
  unfold h_in at h1
  simp only [Bool.or_eq_true, decide_eq_true_eq] at h1
  omega)
def h_KB : AW := [(10, 0, 0), (11, 0, 39), (13, 0, 39), (193, 1198, 1198)] ++ (List.range 40).map (fun q => (193, 28 * q, 28 * q + 1))
def h_KI : AW := [(78, 0, 0), (79, 0, 39), (81, 0, 39), (194, 1198, 1198)] ++ (List.range 40).map (fun q => (194, 28 * q, 28 * q + 1))
def h_KS : AW := [(195, 0, 7), (196, 0, 7), (197, 0, 7), (198, 0, 959)] ++ (List.range 8).flatMap (fun d => [(146 + 2 * d, 0, 1), (146 + 2 * d, 4, 5), (147 + 2 * d, 0, 119)])
theorem h_keepB {M M' : EM} (h : ∀ c ∈ h_KB, ∀ k, c.2.1 ≤ k → k ≤ c.2.2 → M' c.1 k = M c.1 k) (hB : h_B M 0 (r_G M)) : h_B M' 0 (r_G M') := by
  have h40 := hB.2.1.2
  refine h_B_cg hB (h (10, 0, 0) (by decide) 0 (by decide) (by decide)) (h (193, 1198, 1198) (by decide) 1198 (by decide) (by decide)) (fun q hq => ?_)
  have m : (193, 28 * q, 28 * q + 1) ∈ h_KB := List.mem_append.mpr (Or.inr (List.mem_map.mpr ⟨q, List.mem_range.mpr (by omega), rfl⟩))
  refine ⟨h (11, 0, 39) (by decide) q (Nat.zero_le _) (by show q ≤ 39; omega), h (13, 0, 39) (by decide) q (Nat.zero_le _) (by show q ≤ 39; omega), ?_, ?_⟩
  · have e := h _ m (28 * q) (Nat.le_refl _) (Nat.le_succ _)
    unfold r_G
    rw [show (28 * (q : Int)).toNat = 28 * q by omega]
    exact e
  · have e := h _ m (28 * q + 1) (Nat.le_succ _) (Nat.le_refl _)
    unfold r_G
    rw [show (28 * (q : Int) + 1).toNat = 28 * q + 1 by omega]
    exact e
theorem h_keepI {M M' : EM} (h : ∀ c ∈ h_KI, ∀ k, c.2.1 ≤ k → k ≤ c.2.2 → M' c.1 k = M c.1 k) (hB : h_B M 68 (r_Gi M)) : h_B M' 68 (r_Gi M') := by
  have h40 := hB.2.1.2
  refine h_B_cg hB (h (78, 0, 0) (by decide) 0 (by decide) (by decide)) (h (194, 1198, 1198) (by decide) 1198 (by decide) (by decide)) (fun q hq => ?_)
  have m : (194, 28 * q, 28 * q + 1) ∈ h_KI := List.mem_append.mpr (Or.inr (List.mem_map.mpr ⟨q, List.mem_range.mpr (by omega), rfl⟩))
  refine ⟨h (79, 0, 39) (by decide) q (Nat.zero_le _) (by show q ≤ 39; omega), h (81, 0, 39) (by decide) q (Nat.zero_le _) (by show q ≤ 39; omega), ?_, ?_⟩
  · have e := h _ m (28 * q) (Nat.le_refl _) (Nat.le_succ _)
    show M' 194 (28 * (q : Int)).toNat = M 194 (28 * (q : Int)).toNat
    rw [show (28 * (q : Int)).toNat = 28 * q by omega]
    exact e
  · have e := h _ m (28 * q + 1) (Nat.le_succ _) (Nat.le_refl _)
    show M' 194 (28 * (q : Int) + 1).toNat = M 194 (28 * (q : Int) + 1).toNat
    rw [show (28 * (q : Int) + 1).toNat = 28 * q + 1 by omega]
    exact e
theorem h_S_cg {M M' : EM} (hS : h_S M) (e : ∀ d : Nat, d < 8 → M' 195 d = M 195 d ∧ M' 196 d = M 196 d ∧ M' 197 d = M 197 d ∧ M' (146 + 2 * d) 0 = M (146 + 2 * d) 0 ∧ M' (146 + 2 * d) 1 = M (146 + 2 * d) 1 ∧ M' (146 + 2 * d) 4 = M (146 + 2 * d) 4 ∧ M' (146 + 2 * d) 5 = M (146 + 2 * d) 5 ∧ ∀ i, i < 120 → M' (147 + 2 * d) i = M (147 + 2 * d) i ∧ M' 198 (120 * d + i) = M 198 (120 * d + i)) : h_S M' := by
  intro d hd
  obtain ⟨a1, a2, a3, a4, a5, a6, a7, a8⟩ := e d hd
  rw [a1, a2, a3, a4, a5, a6, a7]
  rcases hS d hd with h | h | ⟨b1, b2, b3, b4, b5, b6⟩
  · exact Or.inl h
  · exact Or.inr (Or.inl h)
  · exact Or.inr (Or.inr ⟨b1, b2, b3, b4, b5, fun i hi => by rw [(a8 i hi).1, (a8 i hi).2]; exact b6 i hi⟩)
theorem h_keepS {M M' : EM} (h : ∀ c ∈ h_KS, ∀ k, c.2.1 ≤ k → k ≤ c.2.2 → M' c.1 k = M c.1 k) (hS : h_S M) : h_S M' := by
  refine h_S_cg hS (fun d hd => ?_)
  have m : ∀ c, c ∈ [(146 + 2 * d, 0, 1), (146 + 2 * d, 4, 5), (147 + 2 * d, 0, 119)] → c ∈ h_KS := fun c hc => List.mem_append.mpr (Or.inr (List.mem_flatMap.mpr ⟨d, List.mem_range.mpr hd, hc⟩))
  have m1 := h (146 + 2 * d, 0, 1) (m _ (by simp))
  have m2 := h (146 + 2 * d, 4, 5) (m _ (by simp))
  have m3 := h (147 + 2 * d, 0, 119) (m _ (by simp))
  refine ⟨h (195, 0, 7) (by decide) d (Nat.zero_le _) (by show d ≤ 7; omega), h (196, 0, 7) (by decide) d (Nat.zero_le _) (by show d ≤ 7; omega), h (197, 0, 7) (by decide) d (Nat.zero_le _) (by show d ≤ 7; omega), m1 0 (Nat.zero_le 0) (Nat.zero_le 1), m1 1 (Nat.zero_le 1) (Nat.le_refl 1), m2 4 (Nat.le_refl 4) (Nat.le_succ 4), m2 5 (Nat.le_succ 4) (Nat.le_refl 5), fun i hi => ⟨m3 i (Nat.zero_le _) (by show i ≤ 119; omega), h (198, 0, 959) (by decide) _ (Nat.zero_le _) (by show 120 * d + i ≤ 959; omega)⟩⟩
/-- all that is related -/
def h_R (M : EM) : Prop := p_R M ∧ h_B M 0 (r_G M) ∧ h_B M 68 (r_Gi M) ∧ h_S M ∧ M 165 0 = 0
theorem h_keep {W : AW} {M M' : EM} (h1 : p_av p_k1 W = true) (h2 : p_av p_k2 W = true) (h3 : h_av h_KB W = true) (h4 : h_av h_KI W = true) (h5 : h_av h_KS W = true) (h6 : h_av [(165, 0, 0)] W = true) (hf : a_fr W M M') (hR : h_R M) : h_R M' := by
  obtain ⟨r1, r2, r3, r4, r5⟩ := hR
  refine ⟨p_keep h1 h2 hf r1, h_keepB (h_av_ok h3 hf) r2, h_keepI (h_av_ok h4 hf) r3, h_keepS (h_av_ok h5 hf) r4, ?_⟩
  rw [h_av_ok h6 hf (165, 0, 0) List.mem_cons_self 0 (Nat.le_refl _) (Nat.le_refl _)]
  exact r5
/-- what the image's copies cover -/
theorem h_cov : (∃ w ∈ p_D48, w.1 = 10 ∧ w.2.1 ≤ 0 ∧ 0 ≤ w.2.2) ∧ (∃ w ∈ p_D48, w.1 = 11 ∧ w.2.1 = 0 ∧ 39 ≤ w.2.2) ∧ (∃ w ∈ p_D48, w.1 = 13 ∧ w.2.1 = 0 ∧ 39 ≤ w.2.2) := by decide +kernel
theorem h_cp {so to : Nat} {M M1 : EM} (c : p_C so to p_D48 M M1) : M1 (10 + to) 0 = M (10 + so) 0 ∧ ∀ q, q < 40 → M1 (11 + to) q = M (11 + so) q ∧ M1 (13 + to) q = M (13 + so) q := by
  obtain ⟨⟨w, w1, w2, w3, w4⟩, ⟨v, v1, v2, v3, v4⟩, ⟨u, u1, u2, u3, u4⟩⟩ := h_cov
  refine ⟨?_, fun q hq => ⟨?_, ?_⟩⟩
  · have := c.1 w w1 0 w3 w4
    rw [w2] at this
    exact this
  · have := c.1 v v1 q (by omega) (by omega)
    rw [v2] at this
    exact this
  · have := c.1 u u1 q (by omega) (by omega)
    rw [u2] at this
    exact this
theorem h_image {r1 r2 : Int} {M M1 M2 : EM} (hB : h_B M 0 (r_G M)) (k1 : E_C 136 [8] M = some (r1, M1)) (k2 : E_C 255 [192] M1 = some (r2, M2)) : r1 = r2 ∧ h_B M2 0 (r_G M2) ∧ h_B M2 68 (r_Gi M2) := by
  obtain ⟨N, c1, c2⟩ := p_image M
  have e1 := Prod.mk.inj (Option.some.inj (k1.symm.trans c1))
  obtain ⟨e1, e2⟩ := e1
  subst e1
  subst e2
  have e3 := Prod.mk.inj (Option.some.inj (k2.symm.trans (r_image _)))
  obtain ⟨e3, e4⟩ := e3
  obtain ⟨p0, p1⟩ := h_cp c2
  have far : ∀ id j, id < 78 ∨ 145 < id → N id j = M id j := fun id j h => c2.2.1 _ _ (fun w hw e => by have := c2.2.2 w hw; omega)
  have h40 := hB.2.1.2
  have z : ∀ id j, id ≠ 8 → id ≠ 192 → id ≠ 194 → M2 id j = N id j := fun id j a b c => by
    rw [e4, c_up_n (fun e => b e.1), r_cp_n c, c_up_n (fun e => a e.1)]
  have zi : ∀ j, j < 1330 → M2 194 j = M 193 j := fun j hj => by
    rw [e4, c_up_n (fun e => by omega), r_cp_t hj, c_up_n (fun e => by omega)]
    exact far _ _ (by omega)
  have eG : r_G M2 = r_G M := funext fun i => (z _ _ (by decide) (by decide) (by decide)).trans (far _ _ (by omega))
  refine ⟨?_, ?_, ?_⟩
  · rw [e3]
    exact hB.1.trans ((far 193 1198 (by omega)).symm.trans (c_up_n (fun e => by omega)).symm)
  · rw [eG]
    exact h_B_cg hB ((z _ _ (by decide) (by decide) (by decide)).trans (far _ _ (by omega))) rfl (fun q _ => ⟨(z _ _ (by decide) (by decide) (by decide)).trans (far _ _ (by omega)), (z _ _ (by decide) (by decide) (by decide)).trans (far _ _ (by omega)), rfl, rfl⟩)
  · obtain ⟨b1, b2, b3⟩ := hB
    have eg : ∀ i : Int, 0 ≤ i → i < 1330 → r_Gi M2 i = r_G M i := fun i i0 i1 => zi i.toNat (by omega)
    rw [show h_B M2 68 (r_Gi M2) = h_B M2 68 (r_Gi M2) from rfl]
    refine ⟨?_, ?_, fun q hq => ?_⟩
    · rw [eg _ (by decide) (by decide), ← b1]
      exact (z 78 0 (by decide) (by decide) (by decide)).trans p0
    · rw [eg _ (by decide) (by decide)]; exact b2
    · have e98 := eg 1198 (by decide) (by decide)
      rw [e98] at hq ⊢
      obtain ⟨a1, a2, a3, a4⟩ := b3 q hq
      rw [eg _ (by omega) (by omega), eg _ (by omega) (by omega)]
      exact ⟨(z 79 q (by decide) (by decide) (by decide)).trans ((p1 q (by omega)).1.trans a1), (z 81 q (by decide) (by decide) (by decide)).trans ((p1 q (by omega)).2.trans a2), a3, a4⟩
theorem h_restore {r1 r2 : Int} {M M1 M2 : EM} (hfl : M 8 2 = M 192 9) (hB : h_B M 0 (r_G M)) (hI : h_B M 68 (r_Gi M)) (k1 : E_C 137 [8] M = some (r1, M1)) (k2 : E_C 256 [192] M1 = some (r2, M2)) : r1 = r2 ∧ h_B M2 0 (r_G M2) ∧ h_B M2 68 (r_Gi M2) := by
  by_cases z : M 8 2 = 0
  · have e1 := Prod.mk.inj (Option.some.inj (k1.symm.trans (p_restore0 z)))
    obtain ⟨e1, e2⟩ := e1
    subst e1
    subst e2
    rw [r_restore, if_pos (hfl ▸ z)] at k2
    have e3 := Prod.mk.inj (Option.some.inj k2)
    rw [← e3.1, ← e3.2]
    exact ⟨rfl, hB, hI⟩
  · obtain ⟨N, c1, c2⟩ := p_restore z
    have e1 := Prod.mk.inj (Option.some.inj (k1.symm.trans c1))
    obtain ⟨e1, e2⟩ := e1
    subst e2
    have far : ∀ id j, id < 10 ∨ 76 < id → M1 id j = M id j := fun id j h => c2.2.1 _ _ (fun w hw e => by have := c2.2.2 w hw; omega)
    have z2 : ¬ M1 192 9 = 0 := by rw [far _ _ (by omega), ← hfl]; exact z
    rw [r_restore, if_neg z2] at k2
    have e3 := Prod.mk.inj (Option.some.inj k2)
    obtain ⟨e3, e4⟩ := e3
    obtain ⟨p0, p1⟩ := h_cp c2
    have h40 := hI.2.1.2
    have w1 : ∀ id j, id ≠ 193 → M2 id j = M1 id j := fun id j h => by rw [← e4]; exact r_cp_n h
    have w2 : ∀ j, j < 1330 → M2 193 j = M 194 j := fun j hj => by rw [← e4, r_cp_t hj]; exact far _ _ (by omega)
    have eg : ∀ i : Int, 0 ≤ i → i < 1330 → r_G M2 i = r_Gi M i := fun i i0 i1 => w2 i.toNat (by omega)
    have ei : r_Gi M2 = r_Gi M := funext fun i => (w1 _ _ (by decide)).trans (far _ _ (by omega))
    obtain ⟨b1, b2, b3⟩ := hI
    refine ⟨?_, ⟨?_, ?_, fun q hq => ?_⟩, ?_⟩
    · rw [e1, ← e3]
      have h1 : r_cp M1 194 193 0 193 1198 = M 194 1198 := (r_cp_t (by decide)).trans (far _ _ (by omega))
      rw [h1]
      exact p0.trans b1
    · rw [eg _ (by decide) (by decide), ← b1]
      exact (w1 10 0 (by decide)).trans p0
    · rw [eg _ (by decide) (by decide)]; exact b2
    · have e98 := eg 1198 (by decide) (by decide)
      rw [e98] at hq ⊢
      obtain ⟨a1, a2, a3, a4⟩ := b3 q hq
      rw [eg _ (by omega) (by omega), eg _ (by omega) (by omega)]
      exact ⟨(w1 11 q (by decide)).trans ((p1 q (by omega)).1.trans a1), (w1 13 q (by decide)).trans ((p1 q (by omega)).2.trans a2), a3, a4⟩
    · rw [ei]
      exact h_B_cg ⟨b1, b2, b3⟩ ((w1 _ _ (by decide)).trans (far _ _ (by omega))) rfl (fun q _ => ⟨(w1 _ _ (by decide)).trans (far _ _ (by omega)), (w1 _ _ (by decide)).trans (far _ _ (by omega)), rfl, rfl⟩)
