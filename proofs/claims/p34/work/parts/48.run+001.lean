section ERUN
variable {ro : MRo} {d mid hv v : Nat} {K J : Nat → List Int → EM → EO} {G : List (Nat × Nat)} {L : List Int} {ML1 : ML}
theorem e_lr_st {nl i t : Nat} {x : Int} {mv : MV} {F : List (Nat × MV)} (hL : e_lr nl G L ML1) (hv : e_v t x mv) (hi : i < nl) (hF : ∀ j u, j ≠ i → (j + 1 = i → m_isL u = false) → (t = 1 → j ≠ i + 1) → m_get ML1 j = some u → m_get F j = some u) : e_lr nl (e_gs G i t) (L.set i x) ((i, mv) :: F) := by
  refine ⟨by rw [List.length_set]; exact hL.1, fun j t' hj => ?_⟩
  by_cases hji : j = i
  · subst hji
    unfold e_gs at hj
    rw [e_find_hd] at hj
    cases hj
    refine ⟨mv, by unfold m_get; rw [if_pos rfl], ?_⟩
    rw [List.getD_eq_getElem?_getD, List.getElem?_set_self (by rw [hL.1]; exact hi)]
    exact hv
  · unfold e_gs at hj
    rw [e_find_tl hji] at hj
    obtain ⟨h1, h2⟩ := e_find_key hj
    obtain ⟨k1, k2, k3⟩ := e_kp_ok h2
    obtain ⟨u, u1, u2⟩ := hL.2 j t' h1
    refine ⟨u, ?_, ?_⟩
    · unfold m_get
      rw [if_neg (Ne.symm hji)]
      refine hF j u hji (fun e => ?_) k3 u1
      rw [e_v_L u2]
      exact decide_eq_false (fun e2 => k2 e (by rw [h1, e2]))
    · rw [List.getD_eq_getElem?_getD, List.getElem?_set_ne (Ne.symm hji), ← List.getD_eq_getElem?_getD]
      exact u2
theorem e_lr_s1 {nl i t : Nat} {x : Int} {mv : MV} (hL : e_lr nl G L ML1) (hv : e_v t x mv) (hi : i < nl) : e_lr nl (e_gs G i t) (L.set i x) (m_store ML1 i mv) := by
  refine e_lr_st hL hv hi (fun j u h1 h2 _ h4 => e_get_fil h4 ?_)
  simp only [Bool.and_eq_true, Bool.not_eq_true', Bool.and_eq_false_iff, beq_eq_false_iff_ne]
  refine ⟨h1, ?_⟩
  by_cases hj : j + 1 = i
  · exact Or.inr (h2 hj)
  · exact Or.inl hj
theorem e_lr_s2 {nl i : Nat} {x : Int} {mv : MV} (hL : e_lr nl G L ML1) (hv : e_v 1 x mv) (hi : i < nl) : e_lr nl (e_gs G i 1) (L.set i x) (m_store2 ML1 i mv) := by
  refine e_lr_st hL hv hi (fun j u h1 h2 h3 h4 => e_get_fil h4 ?_)
  simp only [Bool.and_eq_true, Bool.not_eq_true', Bool.and_eq_false_iff, beq_eq_false_iff_ne]
  refine ⟨h1, h3 rfl, ?_⟩
  by_cases hj : j + 1 = i
  · exact Or.inr (h2 hj)
  · exact Or.inl hj
theorem e_lr_gd {nl i : Nat} (hL : e_lr nl G L ML1) : e_lr nl (e_gd G i) L (m_drop ML1 i) := by
  refine ⟨hL.1, fun j t hj => ?_⟩
  obtain ⟨h1, h2⟩ := e_find_key hj
  obtain ⟨k1, k2, -⟩ := e_kp_ok h2
  obtain ⟨u, u1, u2⟩ := hL.2 j t h1
  refine ⟨u, e_get_fil u1 ?_, u2⟩
  simp only [Bool.and_eq_true, Bool.not_eq_true', Bool.and_eq_false_iff, beq_eq_false_iff_ne]
  refine ⟨k1, ?_⟩
  by_cases hj : j + 1 = i
  · refine Or.inr ?_
    rw [e_v_L u2]
    exact decide_eq_false (fun e2 => k2 hj (by rw [h1, e2]))
  · exact Or.inl hj
theorem e_lr_sub {nl : Nat} {A : List (Nat × Nat)} (hL : e_lr nl G L ML1) (h : e_gsub A G = true) : e_lr nl A L ML1 := by
  refine ⟨hL.1, fun j t hj => ?_⟩
  have h1 := List.all_eq_true.mp h _ (q_find_mem hj)
  dsimp only at h1
  split at h1
  · rename_i t2 ht
    simp only [Bool.or_eq_true, Bool.and_eq_true, decide_eq_true_eq] at h1
    obtain ⟨u, u1, u2⟩ := hL.2 j t2 ht
    exact ⟨u, u1, e_v_sub h1 u2⟩
  · cases h1
/-! stores into the world -/
theorem e_wr_up {M : EM} {w : MWd} {a k : Nat} {x : Int} {mv : MV} (hW : e_wr ro M w) (h8 : 8 ≤ a) (hv : e_v (e_ty a k) x mv) (ht : e_ty a k ≠ 2) : e_wr ro (e_up M a k x) (m_wr w a k mv) := by
  obtain ⟨w1, w2, w3, w4, w5, w6, w7⟩ := hW
  have hlo : ∀ b j, b < 8 → e_up M a k x b j = M b j := fun b j hb => by
    unfold e_up; rw [if_neg (by omega)]
  refine ⟨w1, w2, fun b j hb hn hj => ?_, ?_, ?_, ?_, fun b hb hk => ?_⟩
  · by_cases hba : b = a
    · subst hba
      by_cases hjk : j = k
      · subst hjk
        rw [if_neg ht]
        have e1 : e_up M b j x b j = x := by unfold e_up; simp
        have e2 : mmm (m_wr w b j mv) b j = mv := by show m_up _ _ _ _ _ _ = _; unfold m_up; simp
        rw [e1, e2]; exact hv
      · have e1 : e_up M b k x b j = M b j := by unfold e_up; simp [hjk]
        have e2 : mmm (m_wr w b k mv) b j = mmm w b j := by show m_up _ _ _ _ _ _ = _; unfold m_up; simp [hjk]
        rw [e1, e2]; exact w3 b j hb hn hj
    · have e1 : e_up M a k x b j = M b j := by unfold e_up; simp [hba]
      have e2 : mmm (m_wr w a k mv) b j = mmm w b j := by show m_up _ _ _ _ _ _ = _; unfold m_up; simp [hba]
      rw [e1, e2]; exact w3 b j hb hn hj
  · rw [hlo 5 0 (by decide)]; exact w4
  · rw [hlo 5 0 (by decide)]; exact w5
  · rw [hlo 5 0 (by decide)]; exact w6
  · obtain ⟨n, f, k1, k2, k3, k4⟩ := w7 b hb hk
    refine ⟨n, f, k1, ?_, k3, fun j hj => by rw [hlo b j hb]; exact k4 j hj⟩
    unfold e_sz at k2 ⊢
    rw [hlo 5 1 (by decide)]; exact k2
theorem e_re_ias {M M' : EM} {p : Nat} {t u s : Nat} {x y z : Int} {v1 v2 v3 : MV} {st : List MV} {w : MWd} (hi : e_in mid p = some .iastore) (hW : e_wr ro M w) (ht : t = 2) (hu : e_kt u = 0) (hs : e_kt s = 0) (h1 : e_v t x v1) (h2 : e_v u y v2) (h3 : e_v s z v3) (he : e_st 100 [x, y, z] M = some M') :
    ∃ w', e_wr ro M' w' ∧ e_re ro d mid p ML1 (v3 :: v2 :: v1 :: st) w (p + 1) ML1 st w' := by
  subst ht
  obtain ⟨b, rfl, rfl⟩ := e_v_int hu h2
  obtain ⟨q, rfl, rfl⟩ := e_v_int hs h3
  simp only [e_st] at he
  split at he
  · rename_i hc
    obtain ⟨c0, c1, c2, c3, c4, c5⟩ := hc
    cases he
    have hv3 := e_v2 h1 c1
    subst hv3
    obtain ⟨g1, g2⟩ := e_clamp c4
    have h8 : 8 ≤ x.toNat := by omega
    have hsz : e_sz M x.toNat = (e_sh x.toNat).2 := if_neg (by omega)
    rw [hsz] at c5
    have hty : e_ty x.toNat b.toInt.toNat = 0 := by
      unfold e_ty
      rw [if_neg (by omega), if_pos c3]
    refine ⟨m_wr w x.toNat b.toInt.toNat (.inl q), e_wr_up hW h8 (by rw [hty]; exact ⟨_, rfl, rfl⟩) (by rw [hty]; decide), ?_⟩
    obtain ⟨w1, w2, -⟩ := hW
    refine e_re_h (r := (st, m_wr w x.toNat b.toInt.toNat (.inl q))) hi rfl ?_
    simp only [m_heap]
    rw [if_pos ⟨h8, by rw [w1]; exact c2, by rw [w2 _ h8 c2]; exact c3, g1, by rw [w2 _ h8 c2, g2]; exact c5⟩, g2]
  · cases he
theorem e_re_las {M M' : EM} {p : Nat} {t u : Nat} {x y z : Int} {v1 v2 v3 : MV} {st : List MV} {w : MWd} (hi : e_in mid p = some .lastore) (hW : e_wr ro M w) (ht : t = 2) (hu : e_kt u = 0) (h1 : e_v t x v1) (h2 : e_v u y v2) (h3 : e_v 1 z v3) (he : e_st 101 [x, y, z] M = some M') :
    ∃ w', e_wr ro M' w' ∧ e_re ro d mid p ML1 (v3 :: v2 :: v1 :: st) w (p + 1) ML1 st w' := by
  subst ht
  obtain ⟨b, rfl, rfl⟩ := e_v_int hu h2
  obtain ⟨q, rfl, rfl⟩ := h3
  simp only [e_st] at he
  split at he
  · rename_i hc
    obtain ⟨c0, c1, c2, c3, c4, c5⟩ := hc
    cases he
    have hv3 := e_v2 h1 c1
    subst hv3
    obtain ⟨g1, g2⟩ := e_clamp c4
    have h8 : 8 ≤ x.toNat := by omega
    have hsz : e_sz M x.toNat = (e_sh x.toNat).2 := if_neg (by omega)
    rw [hsz] at c5
    have hty : e_ty x.toNat b.toInt.toNat = 1 := by
      unfold e_ty
      rw [if_neg (by omega), if_neg (by omega), if_pos c3]
    refine ⟨m_wr w x.toNat b.toInt.toNat (.inr (.inl q)), e_wr_up hW h8 (by rw [hty]; exact ⟨_, rfl, rfl⟩) (by rw [hty]; decide), ?_⟩
    obtain ⟨w1, w2, -⟩ := hW
    refine e_re_h (r := (st, m_wr w x.toNat b.toInt.toNat (.inr (.inl q)))) hi rfl ?_
    simp only [m_heap]
    rw [if_pos ⟨h8, by rw [w1]; exact c2, by rw [w2 _ h8 c2]; exact c3, g1, by rw [w2 _ h8 c2, g2]; exact c5⟩, g2]
  · cases he
end ERUN
