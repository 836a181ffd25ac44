/-! PARTS and SHELVES related: what keeps it; the image -/
def h_in (c : Nat × Nat × Nat) (w : Nat × Nat × Nat) : Bool := decide (w.1 ≠ c.1) || decide (w.2.2 < c.2.1) || decide (c.2.2 < w.2.1)
def h_av (K W : AW) : Bool := K.all (fun c => W.all (fun w => h_in c w))
theorem h_av_ok {K W : AW} {M M' : EM} (h : h_av K W = true) (hf : a_fr W M M') : ∀ c ∈ K, ∀ k, c.2.1 ≤ k → k ≤ c.2.2 → M' c.1 k = M c.1 k := fun c hc k k0 k1 => hf _ _ (fun w hw e => by
  have h1 := List.all_eq_true.mp (List.all_eq_true.mp h c hc) w hw
  unfold h_in at h1
  simp only [Bool.or_eq_true, decide_eq_true_eq] at h1
  omega)
def h_KB : AW := [(10, 0, 0), (11, 0, 39), (13, 0, 39), (193, 1198, 1198)] ++ (List.range 40).map (fun q => (193, 28 * q, 28 * q + 1))
def h_KI : AW := [(78, 0, 0), (79, 0, 39), (81, 0, 39), (194, 1198, 1198)] ++ (List.range 40).map (fun q => (194, 28 * q, 28 * q + 1))
def h_KS : AW := [(195, 0, 7), (196, 0, 7), (197, 0, 7), (198, 0, 959)] ++ (List.range 8).flatMap (fun d => [(146 + 2 * d, 0, 1), (146 + 2 * d, 4, 5), (147 + 2 * d, 0, 119)])
theorem h_keepB {M M' : EM} (h : ∀ c ∈ h_KB, ∀ k, c.2.1 ≤ k → k ≤ c.2.2 → M' c.1 k = M c.1 k) (hB : h_B M 0 (r_G M)) : h_B M' 0 (r_G M') := by
  have h40 := hB.2.1.2
  refine h_B_cg hB (h (10, 0, 0) (by decide) 0 (by decide) (by decide)) (h (193, 1198, 1198) (by decide) 1198 (by decide) (by decide)) (fun q hq => ?_)
  have m : (193, 28 * q, 28 * q + 1) ∈ h_KB := List.mem_append.mpr (Or.inr (List.mem_map.mpr ⟨q, List.mem_range.mpr (by omega), rfl⟩))
  refine ⟨h (11, 0, 39) (by decide) q (Nat.zero_le _) (by show q ≤ 39; omega), h (13, 0, 39) (by decide) q (Nat.zero_le _) (by show q ≤ 39; omega), ?_, ?_⟩
  · have e := h _ m (28 * q) (Nat.le_refl _) (Nat.le_succ _)
    unfold r_G
    rw [show (28 * (q : Int)).toNat = 28 * q by omega]
    exact e
  · have e := h _ m (28 * q + 1) (Nat.le_succ _) (Nat.le_refl _)
    unfold r_G
    rw [show (28 * (q : Int) + 1).toNat = 28 * q + 1 by omega]
    exact e
theorem h_keepI {M M' : EM} (h : ∀ c ∈ h_KI, ∀ k, c.2.1 ≤ k → k ≤ c.2.2 → M' c.1 k = M c.1 k) (hB : h_B M 68 (r_Gi M)) : h_B M' 68 (r_Gi M') := by
  have h40 := hB.2.1.2
  refine h_B_cg hB (h (78, 0, 0) (by decide) 0 (by decide) (by decide)) (h (194, 1198, 1198) (by decide) 1198 (by decide) (by decide)) (fun q hq => ?_)
  have m : (194, 28 * q, 28 * q + 1) ∈ h_KI := List.mem_append.mpr (Or.inr (List.mem_map.mpr ⟨q, List.mem_range.mpr (by omega), rfl⟩))
  refine ⟨h (79, 0, 39) (by decide) q (Nat.zero_le _) (by show q ≤ 39; omega), h (81, 0, 39) (by decide) q (Nat.zero_le _) (by show q ≤ 39; omega), ?_, ?_⟩
  · have e := h _ m (28 * q) (Nat.le_refl _) (Nat.le_succ _)
    show M' 194 (28 * (q : Int)).toNat = M 194 (28 * (q : Int)).toNat
    rw [show (28 * (q : Int)).toNat = 28 * q by omega]
    exact e
  · have e := h _ m (28 * q + 1) (Nat.le_succ _) (Nat.le_refl _)
    show M' 194 (28 * (q : Int) + 1).toNat = M 194 (28 * (q : Int) + 1).toNat
    rw [show (28 * (q : Int) + 1).toNat = 28 * q + 1 by omega]
    exact e
theorem h_S_cg {M M' : EM} (hS : h_S M) (e : ∀ d : Nat, d < 8 → M' 195 d = M 195 d ∧ M' 196 d = M 196 d ∧ M' 197 d = M 197 d ∧ M' (146 + 2 * d) 0 = M (146 + 2 * d) 0 ∧ M' (146 + 2 * d) 1 = M (146 + 2 * d) 1 ∧ M' (146 + 2 * d) 4 = M (146 + 2 * d) 4 ∧ M' (146 + 2 * d) 5 = M (146 + 2 * d) 5 ∧ ∀ i, i < 120 → M' (147 + 2 * d) i = M (147 + 2 * d) i ∧ M' 198 (120 * d + i) = M 198 (120 * d + i)) : h_S M' := by
  intro d hd
  obtain ⟨a1, a2, a3, a4, a5, a6, a7, a8⟩ := e d hd
  rw [a1, a2, a3, a4, a5, a6, a7]
  rcases hS d hd with h | h | ⟨b1, b2, b3, b4, b5, b6⟩
  · exact Or.inl h
  · exact Or.inr (Or.inl h)
  · exact Or.inr (Or.inr ⟨b1, b2, b3, b4, b5, fun i hi => by rw [(a8 i hi).1, (a8 i hi).2]; exact b6 i hi⟩)
theorem h_keepS {M M' : EM} (h : ∀ c ∈ h_KS, ∀ k, c.2.1 ≤ k → k ≤ c.2.2 → M' c.1 k = M c.1 k) (hS : h_S M) : h_S M' := by
  refine h_S_cg hS (fun d hd => ?_)
  have m : ∀ c, c ∈ [(146 + 2 * d, 0, 1), (146 + 2 * d, 4, 5), (147 + 2 * d, 0, 119)] → c ∈ h_KS := fun c hc => List.mem_append.mpr (Or.inr (List.mem_flatMap.mpr ⟨d, List.mem_range.mpr hd, hc⟩))
  have m1 := h (146 + 2 * d, 0, 1) (m _ (by simp))
  have m2 := h (146 + 2 * d, 4, 5) (m _ (by simp))
  have m3 := h (147 + 2 * d, 0, 119) (m _ (by simp))
  refine ⟨h (195, 0, 7) (by decide) d (Nat.zero_le _) (by show d ≤ 7; omega), h (196, 0, 7) (by decide) d (Nat.zero_le _) (by show d ≤ 7; omega), h (197, 0, 7) (by decide) d (Nat.zero_le _) (by show d ≤ 7; omega), m1 0 (Nat.zero_le 0) (Nat.zero_le 1), m1 1 (Nat.zero_le 1) (Nat.le_refl 1), m2 4 (Nat.le_refl 4) (Nat.le_succ 4), m2 5 (Nat.le_succ 4) (Nat.le_refl 5), fun i hi => ⟨m3 i (Nat.zero_le _) (by show i ≤ 119; omega), h (198, 0, 959) (by decide) _ (Nat.zero_le _) (by show 120 * d + i ≤ 959; omega)⟩⟩
/-- all that is related -/
def h_R (M : EM) : Prop := p_R M ∧ h_B M 0 (r_G M) ∧ h_B M 68 (r_Gi M) ∧ h_S M ∧ M 165 0 = 0
theorem h_keep {W : AW} {M M' : EM} (h1 : p_av p_k1 W = true) (h2 : p_av p_k2 W = true) (h3 : h_av h_KB W = true) (h4 : h_av h_KI W = true) (h5 : h_av h_KS W = true) (h6 : h_av [(165, 0, 0)] W = true) (hf : a_fr W M M') (hR : h_R M) : h_R M' := by
  obtain ⟨r1, r2, r3, r4, r5⟩ := hR
  refine ⟨p_keep h1 h2 hf r1, h_keepB (h_av_ok h3 hf) r2, h_keepI (h_av_ok h4 hf) r3, h_keepS (h_av_ok h5 hf) r4, ?_⟩
  rw [h_av_ok h6 hf (165, 0, 0) List.mem_cons_self 0 (Nat.le_refl _) (Nat.le_refl _)]
  exact r5
/-- what the image's copies cover -/
theorem h_cov : (∃ w ∈ p_D48, w.1 = 10 ∧ w.2.1 ≤ 0 ∧ 0 ≤ w.2.2) ∧ (∃ w ∈ p_D48, w.1 = 11 ∧ w.2.1 = 0 ∧ 39 ≤ w.2.2) ∧ (∃ w ∈ p_D48, w.1 = 13 ∧ w.2.1 = 0 ∧ 39 ≤ w.2.2) := by decide +kernel
theorem h_cp {so to : Nat} {M M1 : EM} (c : p_C so to p_D48 M M1) : M1 (10 + to) 0 = M (10 + so) 0 ∧ ∀ q, q < 40 → M1 (11 + to) q = M (11 + so) q ∧ M1 (13 + to) q = M (13 + so) q := by
  obtain ⟨⟨w, w1, w2, w3, w4⟩, ⟨v, v1, v2, v3, v4⟩, ⟨u, u1, u2, u3, u4⟩⟩ := h_cov
  refine ⟨?_, fun q hq => ⟨?_, ?_⟩⟩
  · have := c.1 w w1 0 w3 w4
    rw [w2] at this
    exact this
  · have := c.1 v v1 q (by omega) (by omega)
    rw [v2] at this
    exact this
  · have := c.1 u u1 q (by omega) (by omega)
    rw [u2] at this
    exact this
