section ERUN
variable {ro : MRo} {d mid hv v : Nat} {K J : Nat → List Int → EM → EO} {G : List (Nat × Nat)} {L : List Int} {ML1 : ML}
theorem e_fit_m {ci k t : Nat} {x : Int} {mv : MV} (ht : e_ft2 ci k = t) (h2 : t ≠ 2) (hv : e_v t x mv) : m_fit (q_ty ci k) mv = true := by
  unfold e_ft2 at ht
  unfold m_fit
  split at ht
  · rename_i h; rw [h]; subst ht; obtain ⟨y, rfl, -⟩ := hv; rfl
  · rename_i h; rw [h]; subst ht
    obtain ⟨h0, y, rfl, h1⟩ := hv
    simp only [m_isI, m_int, Bool.true_and, Bool.or_eq_true, beq_iff_eq]
    rcases h0 with rfl | rfl
    · exact Or.inl (e_zero.mpr h1)
    · exact Or.inr (by rw [← Int32.toInt_inj, h1]; rfl)
  · rename_i h; rw [h]; subst ht; obtain ⟨y, rfl, -⟩ := hv; rfl
  · exact absurd ht.symm h2
theorem e_re_put {M M' : EM} {p idx key : Nat} {x z : Int} {v1 v3 : MV} {st : List MV} {w : MWd} (hi : e_in mid p = some (.putfield idx)) (hq : q_f mid idx = some (key / 64, key % 64)) (hpf : q_pf mid idx = true) (hW : e_wr ro M w) (h1 : e_v 2 x v1) (h3 : e_v (e_fty key) z v3) (he : e_pf key [x, z] M = some M') :
    ∃ w', e_wr ro M' w' ∧ e_re ro d mid p ML1 (v3 :: v1 :: st) w (p + 3) ML1 st w' := by
  simp only [e_pf] at he
  split at he
  · rename_i hc
    obtain ⟨⟨c1, c2, c3⟩, c4⟩ := hc
    cases he
    have hv3 := e_v2 h1 (by omega)
    subst hv3
    obtain ⟨f1, f2⟩ := e_q_f hq
    have h8 : 8 ≤ x.toNat := by omega
    have hs := e_sh_ok h8 c2
    rw [if_pos (by omega)] at hs
    have hty : e_ty x.toNat (key % 64) = e_fty key := by
      unfold e_ty
      rw [if_pos (by omega), c3]
      rfl
    refine ⟨m_wr w x.toNat (key % 64) v3, e_wr_up hW h8 (by rw [hty]; exact h3) (by rw [hty]; exact c4), ?_⟩
    obtain ⟨w1, w2, -⟩ := hW
    refine e_re_h (r := (st, m_wr w x.toNat (key % 64) v3)) hi rfl ?_
    simp only [m_heap, hq]
    rw [if_pos ⟨h8, by rw [w1]; exact c2, by rw [w2 _ h8 c2, ← c3, ← hs], hpf, e_fit_m (t := e_fty key) rfl c4 h3⟩]
  · cases he
theorem e_re_cp {M M' : EM} {p idx : Nat} {z : Nat} {t1 t2 t3 t4 t5 : Nat} {x1 x2 x3 x4 x5 : Int} {v1 v2 v3 v4 v5 : MV} {st : List MV} {w : MWd} (hi : e_in mid p = some (.invokestatic idx)) (hq : q_m mid idx = some (z, 9)) (h0 : 0 < d) (hst : m_cats st ≤ 8) (hW : e_wr ro M w) (h1 : e_v 2 x1 v1) (h2 : e_v t2 x2 v2) (h3 : e_v 2 x3 v3) (h4 : e_v t4 x4 v4) (h5 : e_v t5 x5 v5) (k2 : e_kt t2 = 0) (k4 : e_kt t4 = 0) (k5 : e_kt t5 = 0) (he : e_cp [x1, x2, x3, x4, x5] M = some M') :
    ∃ w', e_wr ro M' w' ∧ e_re ro d mid p ML1 (v5 :: v4 :: v3 :: v2 :: v1 :: st) w (p + 3) ML1 st w' := by
  obtain ⟨sp, rfl, rfl⟩ := e_v_int k2 h2
  obtain ⟨dp, rfl, rfl⟩ := e_v_int k4 h4
  obtain ⟨n, rfl, rfl⟩ := e_v_int k5 h5
  simp only [e_cp] at he
  split at he
  · rename_i hc
    obtain ⟨⟨a1, a2, a3⟩, ⟨b1, b2, b3⟩, c1, c2, c3, c4, c5⟩ := hc
    cases he
    have hv1 := e_v2 h1 (by omega)
    have hv3 := e_v2 h3 (by omega)
    subst hv1 hv3
    have h8 : 8 ≤ x3.toNat := by omega
    have h8' : 8 ≤ x1.toNat := by omega
    obtain ⟨g1, g2⟩ := e_clamp c1
    obtain ⟨g3, g4⟩ := e_clamp c2
    obtain ⟨g5, g6⟩ := e_clamp c3
    refine ⟨m_cp w x1.toNat x3.toNat sp.toInt.toNat dp.toInt.toNat n.toInt.toNat, ?_, ?_⟩
    · obtain ⟨w1, w2, w3, w4, w5, w6, w7⟩ := hW
      have hn3 : ∀ b j, b ≠ x3.toNat → e_cpm M x1.toNat sp.toInt.toNat x3.toNat dp.toInt.toNat n.toInt.toNat b j = M b j := fun b j hb => if_neg (fun q => hb q.1)
      have hlo : ∀ b j, b < 8 → e_cpm M x1.toNat sp.toInt.toNat x3.toNat dp.toInt.toNat n.toInt.toNat b j = M b j := fun b j hb => hn3 b j (by omega)
      refine ⟨w1, w2, fun b j hb hn hj => ?_, ?_, ?_, ?_, fun b hb hk => ?_⟩
      · by_cases hba : b = x3.toNat
        · subst hba
          have hty : ∀ j, e_ty x3.toNat j = 0 := fun j => by
            unfold e_ty
            rw [if_neg (by omega), if_pos a3]
          have hty1 : ∀ j, e_ty x1.toNat j = 0 := fun j => by
            unfold e_ty
            rw [if_neg (by omega), if_pos b3]
          rw [hty, if_neg (by decide)]
          have e2 : mmm (m_cp w x1.toNat x3.toNat sp.toInt.toNat dp.toInt.toNat n.toInt.toNat) x3.toNat j = (if dp.toInt.toNat ≤ j ∧ j < dp.toInt.toNat + n.toInt.toNat then .inl (m_int (mmm w x1.toNat (sp.toInt.toNat + (j - dp.toInt.toNat)))) else mmm w x3.toNat j) := by
            unfold m_cp mmm
            dsimp only
            rw [if_pos rfl]
          rw [e2]
          by_cases hin : dp.toInt.toNat ≤ j ∧ j < dp.toInt.toNat + n.toInt.toNat
          · have h9 := w3 x1.toNat (sp.toInt.toNat + (j - dp.toInt.toNat)) h8' b2 (by omega)
            rw [hty1, if_neg (by decide)] at h9
            obtain ⟨q, q1, q2⟩ := h9
            rw [if_pos hin, q1]
            refine ⟨q, rfl, ?_⟩
            rw [q2]
            exact (if_pos ⟨rfl, hin⟩).symm
          · have h9 := w3 x3.toNat j hb hn hj
            rw [hty, if_neg (by decide)] at h9
            rw [if_neg hin, show e_cpm M x1.toNat sp.toInt.toNat x3.toNat dp.toInt.toNat n.toInt.toNat x3.toNat j = M x3.toNat j from if_neg (fun q => hin q.2)]
            exact h9
        · have e2 : mmm (m_cp w x1.toNat x3.toNat sp.toInt.toNat dp.toInt.toNat n.toInt.toNat) b j = mmm w b j := by
            unfold m_cp mmm
            dsimp only
            rw [if_neg hba]
          rw [e2, hn3 b j hba]; exact w3 b j hb hn hj
      · rw [hlo 5 0 (by decide)]; exact w4
      · rw [hlo 5 0 (by decide)]; exact w5
      · rw [hlo 5 0 (by decide)]; exact w6
      · obtain ⟨n9, f, k1, k2, k3, k4⟩ := w7 b hb hk
        refine ⟨n9, f, k1, ?_, k3, fun j hj => by rw [hlo b j hb]; exact k4 j hj⟩
        unfold e_sz at k2 ⊢
        rw [hlo 5 1 (by decide)]; exact k2
    · obtain ⟨w1, w2, -⟩ := hW
      have hc : m_cpy mid (.invokestatic idx) (.inl n :: .inl dp :: .inr (.inr (some x3.toNat)) :: .inl sp :: .inr (.inr (some x1.toNat)) :: st) w = some (st, m_cp w x1.toNat x3.toNat sp.toInt.toNat dp.toInt.toNat n.toInt.toNat) := by
        simp only [m_cpy, hq]
        rw [if_pos ⟨h8, by rw [w1]; exact a2, by rw [w2 _ h8 a2]; exact a3, h8', by rw [w1]; exact b2, by rw [w2 _ h8' b2]; exact b3, g1, g3, g5, by rw [w2 _ h8' b2, g2, g6]; omega, by rw [w2 _ h8 a2, g4, g6]; omega, hst⟩, g2, g4, g6]
      refine e_re_stp (r := (p + 3, ML1, st, m_cp w x1.toNat x3.toNat sp.toInt.toNat dp.toInt.toNat n.toInt.toNat)) hi (m_stp_y rfl rfl (e_no_new (fun _ q => by cases q) (fun _ q => by cases q) (fun _ q => by cases q)) rfl ?_ rfl hc (by omega))
      simp only [m_obj, hq]
  · cases he
end ERUN
