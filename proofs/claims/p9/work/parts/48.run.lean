theorem e_find_key {f : Nat → Bool} {j : Nat} : ∀ {G : List (Nat × Nat)} {t : Nat}, q_find (G.filter (fun q => f q.1)) j = some t → q_find G j = some t ∧ f j = true
  | [], t, h => by simp [q_find] at h
  | (k, u) :: G, t, h => by
    rw [List.filter_cons] at h
    split at h
    · rename_i hf
      unfold q_find at h ⊢
      cases hb : Nat.beq k j with
      | true =>
        rw [hb] at h
        have := Nat.eq_of_beq_eq_true hb
        subst this
        exact ⟨h, hf⟩
      | false =>
        rw [hb] at h
        exact e_find_key h
    · rename_i hf
      have h2 := e_find_key h
      refine ⟨?_, h2.2⟩
      unfold q_find
      cases hb : Nat.beq k j with
      | true =>
        have := Nat.eq_of_beq_eq_true hb
        subst this
        exact absurd h2.2 hf
      | false => exact h2.1
theorem e_get_fil {p : Nat × MV → Bool} {j : Nat} {v : MV} : ∀ {ML1 : ML}, m_get ML1 j = some v → p (j, v) = true → m_get (ML1.filter p) j = some v
  | [], h, _ => by simp [m_get] at h
  | (k, u) :: t, h, hp => by
    unfold m_get at h
    rw [List.filter_cons]
    by_cases hk : k = j
    · rw [if_pos hk] at h
      cases h
      subst hk
      rw [if_pos hp]
      unfold m_get
      rw [if_pos rfl]
    · rw [if_neg hk] at h
      have h2 := e_get_fil h hp
      split
      · unfold m_get
        rw [if_neg hk]; exact h2
      · exact h2
theorem e_kp_ok {G : List (Nat × Nat)} {i t j : Nat} (h : e_kp G i t j = true) : j ≠ i ∧ (j + 1 = i → q_find G j ≠ some 1) ∧ (t = 1 → j ≠ i + 1) := by
  unfold e_kp at h
  simp only [Bool.and_eq_true, Bool.not_eq_true', Bool.and_eq_false_iff, beq_eq_false_iff_ne] at h
  obtain ⟨h1, h2, h3⟩ := h
  refine ⟨fun e => by subst e; simp at h1, fun e => ?_, fun e1 e2 => ?_⟩
  · rcases h2 with h2 | h2
    · subst e; simp at h2
    · exact h2
  · subst e1 e2
    rcases h3 with h3 | h3 <;> simp at h3
theorem e_find_hd {i t : Nat} {G : List (Nat × Nat)} : q_find ((i, t) :: G) i = some t := by
  unfold q_find; simp
theorem e_find_tl {i j t : Nat} {G : List (Nat × Nat)} (h : j ≠ i) : q_find ((i, t) :: G) j = q_find G j := by
  conv => lhs; unfold q_find
  have : Nat.beq i j = false := by
    cases hb : Nat.beq i j with
    | false => rfl
    | true => exact absurd (Nat.eq_of_beq_eq_true hb).symm h
  rw [this]; rfl
section ERUN
variable {ro : MRo} {d mid hv v : Nat} {K J : Nat → List Int → EM → EO} {G : List (Nat × Nat)} {L : List Int} {ML1 : ML}
theorem e_lr_st {nl i t : Nat} {x : Int} {mv : MV} {F : List (Nat × MV)} (hL : e_lr nl G L ML1) (hv : e_v t x mv) (hi : i < nl) (hF : ∀ j u, j ≠ i → (j + 1 = i → m_isL u = false) → (t = 1 → j ≠ i + 1) → m_get ML1 j = some u → m_get F j = some u) : e_lr nl (e_gs G i t) (L.set i x) ((i, mv) :: F) := by
  refine ⟨by rw [List.length_set]; exact hL.1, fun j t' hj => ?_⟩
  by_cases hji : j = i
  · subst hji
    unfold e_gs at hj
    rw [e_find_hd] at hj
    cases hj
    refine ⟨mv, by unfold m_get; rw [if_pos rfl], ?_⟩
    rw [List.getD_eq_getElem?_getD, List.getElem?_set_self (by rw [hL.1]; exact hi)]
    exact hv
  · unfold e_gs at hj
    rw [e_find_tl hji] at hj
    obtain ⟨h1, h2⟩ := e_find_key hj
    obtain ⟨k1, k2, k3⟩ := e_kp_ok h2
    obtain ⟨u, u1, u2⟩ := hL.2 j t' h1
    refine ⟨u, ?_, ?_⟩
    · unfold m_get
      rw [if_neg (Ne.symm hji)]
      refine hF j u hji (fun e => ?_) k3 u1
      rw [e_v_L u2]
      exact decide_eq_false (fun e2 => k2 e (by rw [h1, e2]))
    · rw [List.getD_eq_getElem?_getD, List.getElem?_set_ne (Ne.symm hji), ← List.getD_eq_getElem?_getD]
      exact u2
theorem e_lr_s1 {nl i t : Nat} {x : Int} {mv : MV} (hL : e_lr nl G L ML1) (hv : e_v t x mv) (hi : i < nl) : e_lr nl (e_gs G i t) (L.set i x) (m_store ML1 i mv) := by
  refine e_lr_st hL hv hi (fun j u h1 h2 _ h4 => e_get_fil h4 ?_)
  simp only [Bool.and_eq_true, Bool.not_eq_true', Bool.and_eq_false_iff, beq_eq_false_iff_ne]
  refine ⟨h1, ?_⟩
  by_cases hj : j + 1 = i
  · exact Or.inr (h2 hj)
  · exact Or.inl hj
theorem e_lr_s2 {nl i : Nat} {x : Int} {mv : MV} (hL : e_lr nl G L ML1) (hv : e_v 1 x mv) (hi : i < nl) : e_lr nl (e_gs G i 1) (L.set i x) (m_store2 ML1 i mv) := by
  refine e_lr_st hL hv hi (fun j u h1 h2 h3 h4 => e_get_fil h4 ?_)
  simp only [Bool.and_eq_true, Bool.not_eq_true', Bool.and_eq_false_iff, beq_eq_false_iff_ne]
  refine ⟨h1, h3 rfl, ?_⟩
  by_cases hj : j + 1 = i
  · exact Or.inr (h2 hj)
  · exact Or.inl hj
theorem e_lr_gd {nl i : Nat} (hL : e_lr nl G L ML1) : e_lr nl (e_gd G i) L (m_drop ML1 i) := by
  refine ⟨hL.1, fun j t hj => ?_⟩
  obtain ⟨h1, h2⟩ := e_find_key hj
  obtain ⟨k1, k2, -⟩ := e_kp_ok h2
  obtain ⟨u, u1, u2⟩ := hL.2 j t h1
  refine ⟨u, e_get_fil u1 ?_, u2⟩
  simp only [Bool.and_eq_true, Bool.not_eq_true', Bool.and_eq_false_iff, beq_eq_false_iff_ne]
  refine ⟨k1, ?_⟩
  by_cases hj : j + 1 = i
  · refine Or.inr ?_
    rw [e_v_L u2]
    exact decide_eq_false (fun e2 => k2 hj (by rw [h1, e2]))
  · exact Or.inl hj
theorem e_lr_sub {nl : Nat} {A : List (Nat × Nat)} (hL : e_lr nl G L ML1) (h : e_gsub A G = true) : e_lr nl A L ML1 := by
  refine ⟨hL.1, fun j t hj => ?_⟩
  have h1 := List.all_eq_true.mp h _ (q_find_mem hj)
  dsimp only at h1
  split at h1
  · rename_i t2 ht
    simp only [Bool.or_eq_true, Bool.and_eq_true, decide_eq_true_eq] at h1
    obtain ⟨u, u1, u2⟩ := hL.2 j t2 ht
    exact ⟨u, u1, e_v_sub h1 u2⟩
  · cases h1
/-! stores into the world -/
theorem e_wr_up {M : EM} {w : MWd} {a k : Nat} {x : Int} {mv : MV} (hW : e_wr ro M w) (h8 : 8 ≤ a) (hv : e_v (e_ty a k) x mv) (ht : e_ty a k ≠ 2) : e_wr ro (e_up M a k x) (m_wr w a k mv) := by
  obtain ⟨w1, w2, w3, w4, w5, w6, w7⟩ := hW
  have hlo : ∀ b j, b < 8 → e_up M a k x b j = M b j := fun b j hb => by
    unfold e_up; rw [if_neg (by omega)]
  refine ⟨w1, w2, fun b j hb hn hj => ?_, ?_, ?_, ?_, fun b hb hk => ?_⟩
  · by_cases hba : b = a
    · subst hba
      by_cases hjk : j = k
      · subst hjk
        rw [if_neg ht]
        have e1 : e_up M b j x b j = x := by unfold e_up; simp
        have e2 : mmm (m_wr w b j mv) b j = mv := by show m_up _ _ _ _ _ _ = _; unfold m_up; simp
        rw [e1, e2]; exact hv
      · have e1 : e_up M b k x b j = M b j := by unfold e_up; simp [hjk]
        have e2 : mmm (m_wr w b k mv) b j = mmm w b j := by show m_up _ _ _ _ _ _ = _; unfold m_up; simp [hjk]
        rw [e1, e2]; exact w3 b j hb hn hj
    · have e1 : e_up M a k x b j = M b j := by unfold e_up; simp [hba]
      have e2 : mmm (m_wr w a k mv) b j = mmm w b j := by show m_up _ _ _ _ _ _ = _; unfold m_up; simp [hba]
      rw [e1, e2]; exact w3 b j hb hn hj
  · rw [hlo 5 0 (by decide)]; exact w4
  · rw [hlo 5 0 (by decide)]; exact w5
  · rw [hlo 5 0 (by decide)]; exact w6
  · obtain ⟨n, f, k1, k2, k3, k4⟩ := w7 b hb hk
    refine ⟨n, f, k1, ?_, k3, fun j hj => by rw [hlo b j hb]; exact k4 j hj⟩
    unfold e_sz at k2 ⊢
    rw [hlo 5 1 (by decide)]; exact k2
theorem e_re_ias {M M' : EM} {p : Nat} {t u s : Nat} {x y z : Int} {v1 v2 v3 : MV} {st : List MV} {w : MWd} (hi : e_in mid p = some .iastore) (hW : e_wr ro M w) (ht : t = 2) (hu : e_kt u = 0) (hs : e_kt s = 0) (h1 : e_v t x v1) (h2 : e_v u y v2) (h3 : e_v s z v3) (he : e_st 100 [x, y, z] M = some M') :
    ∃ w', e_wr ro M' w' ∧ e_re ro d mid p ML1 (v3 :: v2 :: v1 :: st) w (p + 1) ML1 st w' := by
  subst ht
  obtain ⟨b, rfl, rfl⟩ := e_v_int hu h2
  obtain ⟨q, rfl, rfl⟩ := e_v_int hs h3
  simp only [e_st] at he
  split at he
  · rename_i hc
    obtain ⟨c0, c1, c2, c3, c4, c5⟩ := hc
    cases he
    have hv3 := e_v2 h1 c1
    subst hv3
    obtain ⟨g1, g2⟩ := e_clamp c4
    have h8 : 8 ≤ x.toNat := by omega
    have hsz : e_sz M x.toNat = (e_sh x.toNat).2 := if_neg (by omega)
    rw [hsz] at c5
    have hty : e_ty x.toNat b.toInt.toNat = 0 := by
      unfold e_ty
      rw [if_neg (by omega), if_pos c3]
    refine ⟨m_wr w x.toNat b.toInt.toNat (.inl q), e_wr_up hW h8 (by rw [hty]; exact ⟨_, rfl, rfl⟩) (by rw [hty]; decide), ?_⟩
    obtain ⟨w1, w2, -⟩ := hW
    refine e_re_h (r := (st, m_wr w x.toNat b.toInt.toNat (.inl q))) hi rfl ?_
    simp only [m_heap]
    rw [if_pos ⟨h8, by rw [w1]; exact c2, by rw [w2 _ h8 c2]; exact c3, g1, by rw [w2 _ h8 c2, g2]; exact c5⟩, g2]
  · cases he
theorem e_re_las {M M' : EM} {p : Nat} {t u : Nat} {x y z : Int} {v1 v2 v3 : MV} {st : List MV} {w : MWd} (hi : e_in mid p = some .lastore) (hW : e_wr ro M w) (ht : t = 2) (hu : e_kt u = 0) (h1 : e_v t x v1) (h2 : e_v u y v2) (h3 : e_v 1 z v3) (he : e_st 101 [x, y, z] M = some M') :
    ∃ w', e_wr ro M' w' ∧ e_re ro d mid p ML1 (v3 :: v2 :: v1 :: st) w (p + 1) ML1 st w' := by
  subst ht
  obtain ⟨b, rfl, rfl⟩ := e_v_int hu h2
  obtain ⟨q, rfl, rfl⟩ := h3
  simp only [e_st] at he
  split at he
  · rename_i hc
    obtain ⟨c0, c1, c2, c3, c4, c5⟩ := hc
    cases he
    have hv3 := e_v2 h1 c1
    subst hv3
    obtain ⟨g1, g2⟩ := e_clamp c4
    have h8 : 8 ≤ x.toNat := by omega
    have hsz : e_sz M x.toNat = (e_sh x.toNat).2 := if_neg (by omega)
    rw [hsz] at c5
    have hty : e_ty x.toNat b.toInt.toNat = 1 := by
      unfold e_ty
      rw [if_neg (by omega), if_neg (by omega), if_pos c3]
    refine ⟨m_wr w x.toNat b.toInt.toNat (.inr (.inl q)), e_wr_up hW h8 (by rw [hty]; exact ⟨_, rfl, rfl⟩) (by rw [hty]; decide), ?_⟩
    obtain ⟨w1, w2, -⟩ := hW
    refine e_re_h (r := (st, m_wr w x.toNat b.toInt.toNat (.inr (.inl q)))) hi rfl ?_
    simp only [m_heap]
    rw [if_pos ⟨h8, by rw [w1]; exact c2, by rw [w2 _ h8 c2]; exact c3, g1, by rw [w2 _ h8 c2, g2]; exact c5⟩, g2]
  · cases he
theorem e_fit_m {ci k t : Nat} {x : Int} {mv : MV} (ht : e_ft2 ci k = t) (h2 : t ≠ 2) (hv : e_v t x mv) : m_fit (q_ty ci k) mv = true := by
  unfold e_ft2 at ht
  unfold m_fit
  split at ht
  · rename_i h; rw [h]; subst ht; obtain ⟨y, rfl, -⟩ := hv; rfl
  · rename_i h; rw [h]; subst ht
    obtain ⟨h0, y, rfl, h1⟩ := hv
    simp only [m_isI, m_int, Bool.true_and, Bool.or_eq_true, beq_iff_eq]
    rcases h0 with rfl | rfl
    · exact Or.inl (e_zero.mpr h1)
    · exact Or.inr (by rw [← Int32.toInt_inj, h1]; rfl)
  · rename_i h; rw [h]; subst ht; obtain ⟨y, rfl, -⟩ := hv; rfl
  · exact absurd ht.symm h2
theorem e_re_put {M M' : EM} {p idx key : Nat} {x z : Int} {v1 v3 : MV} {st : List MV} {w : MWd} (hi : e_in mid p = some (.putfield idx)) (hq : q_f mid idx = some (key / 64, key % 64)) (hpf : q_pf mid idx = true) (hW : e_wr ro M w) (h1 : e_v 2 x v1) (h3 : e_v (e_fty key) z v3) (he : e_pf key [x, z] M = some M') :
    ∃ w', e_wr ro M' w' ∧ e_re ro d mid p ML1 (v3 :: v1 :: st) w (p + 3) ML1 st w' := by
  simp only [e_pf] at he
  split at he
  · rename_i hc
    obtain ⟨⟨c1, c2, c3⟩, c4⟩ := hc
    cases he
    have hv3 := e_v2 h1 (by omega)
    subst hv3
    obtain ⟨f1, f2⟩ := e_q_f hq
    have h8 : 8 ≤ x.toNat := by omega
    have hs := e_sh_ok h8 c2
    rw [if_pos (by omega)] at hs
    have hty : e_ty x.toNat (key % 64) = e_fty key := by
      unfold e_ty
      rw [if_pos (by omega), c3]
      rfl
    refine ⟨m_wr w x.toNat (key % 64) v3, e_wr_up hW h8 (by rw [hty]; exact h3) (by rw [hty]; exact c4), ?_⟩
    obtain ⟨w1, w2, -⟩ := hW
    refine e_re_h (r := (st, m_wr w x.toNat (key % 64) v3)) hi rfl ?_
    simp only [m_heap, hq]
    rw [if_pos ⟨h8, by rw [w1]; exact c2, by rw [w2 _ h8 c2, ← c3, ← hs], hpf, e_fit_m (t := e_fty key) rfl c4 h3⟩]
  · cases he
theorem e_re_cp {M M' : EM} {p idx : Nat} {z : Nat} {t1 t2 t3 t4 t5 : Nat} {x1 x2 x3 x4 x5 : Int} {v1 v2 v3 v4 v5 : MV} {st : List MV} {w : MWd} (hi : e_in mid p = some (.invokestatic idx)) (hq : q_m mid idx = some (z, 9)) (h0 : 0 < d) (hst : m_cats st ≤ 8) (hW : e_wr ro M w) (h1 : e_v 2 x1 v1) (h2 : e_v t2 x2 v2) (h3 : e_v 2 x3 v3) (h4 : e_v t4 x4 v4) (h5 : e_v t5 x5 v5) (k2 : e_kt t2 = 0) (k4 : e_kt t4 = 0) (k5 : e_kt t5 = 0) (he : e_cp [x1, x2, x3, x4, x5] M = some M') :
    ∃ w', e_wr ro M' w' ∧ e_re ro d mid p ML1 (v5 :: v4 :: v3 :: v2 :: v1 :: st) w (p + 3) ML1 st w' := by
  obtain ⟨sp, rfl, rfl⟩ := e_v_int k2 h2
  obtain ⟨dp, rfl, rfl⟩ := e_v_int k4 h4
  obtain ⟨n, rfl, rfl⟩ := e_v_int k5 h5
  simp only [e_cp] at he
  split at he
  · rename_i hc
    obtain ⟨⟨a1, a2, a3⟩, ⟨b1, b2, b3⟩, c1, c2, c3, c4, c5⟩ := hc
    cases he
    have hv1 := e_v2 h1 (by omega)
    have hv3 := e_v2 h3 (by omega)
    subst hv1 hv3
    have h8 : 8 ≤ x3.toNat := by omega
    have h8' : 8 ≤ x1.toNat := by omega
    obtain ⟨g1, g2⟩ := e_clamp c1
    obtain ⟨g3, g4⟩ := e_clamp c2
    obtain ⟨g5, g6⟩ := e_clamp c3
    refine ⟨m_cp w x1.toNat x3.toNat sp.toInt.toNat dp.toInt.toNat n.toInt.toNat, ?_, ?_⟩
    · obtain ⟨w1, w2, w3, w4, w5, w6, w7⟩ := hW
      have hn3 : ∀ b j, b ≠ x3.toNat → e_cpm M x1.toNat sp.toInt.toNat x3.toNat dp.toInt.toNat n.toInt.toNat b j = M b j := fun b j hb => if_neg (fun q => hb q.1)
      have hlo : ∀ b j, b < 8 → e_cpm M x1.toNat sp.toInt.toNat x3.toNat dp.toInt.toNat n.toInt.toNat b j = M b j := fun b j hb => hn3 b j (by omega)
      refine ⟨w1, w2, fun b j hb hn hj => ?_, ?_, ?_, ?_, fun b hb hk => ?_⟩
      · by_cases hba : b = x3.toNat
        · subst hba
          have hty : ∀ j, e_ty x3.toNat j = 0 := fun j => by
            unfold e_ty
            rw [if_neg (by omega), if_pos a3]
          have hty1 : ∀ j, e_ty x1.toNat j = 0 := fun j => by
            unfold e_ty
            rw [if_neg (by omega), if_pos b3]
          rw [hty, if_neg (by decide)]
          have e2 : mmm (m_cp w x1.toNat x3.toNat sp.toInt.toNat dp.toInt.toNat n.toInt.toNat) x3.toNat j = (if dp.toInt.toNat ≤ j ∧ j < dp.toInt.toNat + n.toInt.toNat then .inl (m_int (mmm w x1.toNat (sp.toInt.toNat + (j - dp.toInt.toNat)))) else mmm w x3.toNat j) := by
            unfold m_cp mmm
            dsimp only
            rw [if_pos rfl]
          rw [e2]
          by_cases hin : dp.toInt.toNat ≤ j ∧ j < dp.toInt.toNat + n.toInt.toNat
          · have h9 := w3 x1.toNat (sp.toInt.toNat + (j - dp.toInt.toNat)) h8' b2 (by omega)
            rw [hty1, if_neg (by decide)] at h9
            obtain ⟨q, q1, q2⟩ := h9
            rw [if_pos hin, q1]
            refine ⟨q, rfl, ?_⟩
            rw [q2]
            exact (if_pos ⟨rfl, hin⟩).symm
          · have h9 := w3 x3.toNat j hb hn hj
            rw [hty, if_neg (by decide)] at h9
            rw [if_neg hin, show e_cpm M x1.toNat sp.toInt.toNat x3.toNat dp.toInt.toNat n.toInt.toNat x3.toNat j = M x3.toNat j from if_neg (fun q => hin q.2)]
            exact h9
        · have e2 : mmm (m_cp w x1.toNat x3.toNat sp.toInt.toNat dp.toInt.toNat n.toInt.toNat) b j = mmm w b j := by
            unfold m_cp mmm
            dsimp only
            rw [if_neg hba]
          rw [e2, hn3 b j hba]; exact w3 b j hb hn hj
      · rw [hlo 5 0 (by decide)]; exact w4
      · rw [hlo 5 0 (by decide)]; exact w5
      · rw [hlo 5 0 (by decide)]; exact w6
      · obtain ⟨n9, f, k1, k2, k3, k4⟩ := w7 b hb hk
        refine ⟨n9, f, k1, ?_, k3, fun j hj => by rw [hlo b j hb]; exact k4 j hj⟩
        unfold e_sz at k2 ⊢
        rw [hlo 5 1 (by decide)]; exact k2
    · obtain ⟨w1, w2, -⟩ := hW
      have hc : m_cpy mid (.invokestatic idx) (.inl n :: .inl dp :: .inr (.inr (some x3.toNat)) :: .inl sp :: .inr (.inr (some x1.toNat)) :: st) w = some (st, m_cp w x1.toNat x3.toNat sp.toInt.toNat dp.toInt.toNat n.toInt.toNat) := by
        simp only [m_cpy, hq]
        rw [if_pos ⟨h8, by rw [w1]; exact a2, by rw [w2 _ h8 a2]; exact a3, h8', by rw [w1]; exact b2, by rw [w2 _ h8' b2]; exact b3, g1, g3, g5, by rw [w2 _ h8' b2, g2, g6]; omega, by rw [w2 _ h8 a2, g4, g6]; omega, hst⟩, g2, g4, g6]
      refine e_re_stp (r := (p + 3, ML1, st, m_cp w x1.toNat x3.toNat sp.toInt.toNat dp.toInt.toNat n.toInt.toNat)) hi (m_stp_y rfl rfl (e_no_new (fun _ q => by cases q) (fun _ q => by cases q) (fun _ q => by cases q)) rfl ?_ rfl hc (by omega))
      simp only [m_obj, hq]
  · cases he
end ERUN
