theorem r_ad_152_176 {g : Int → Int} {p : Int} (hp : 0 ≤ p ∧ p < 40) (hn : g (28 * p + 2) ≤ 6) (hm0 : ∀ k, 0 ≤ k → k < g (28 * p + 2) → r_cl g 40 (g (28 * p + 3 + k)) ∨ r_rw g 40 (g (28 * p + 3 + k))) : ∀ (m : Nat) (x2 : Int) (M : EM), r_J M → r_G M = g → r_cd (8 * x2) (8 * x2) M → (6 - x2).toNat ≤ m → 0 ≤ x2 → x2 ≤ 6 → r_AD g 48 48 M (E_V 176 152 [192, p, x2] M) := by
  have hend : ∀ x2 M, r_J M → r_G M = g → r_cd (8 * x2) (8 * x2) M → ¬ (x2 < g (28 * p + 2)) → x2 ≤ 6 → r_AD g 48 48 M (E_V 176 152 [192, p, x2] M) := by
    intro x2 M hJ hg hc q h8
    have km : E_C 171 [192, p] M = some (g (28 * p + 2), M) := by rw [← hg]; exact r_many hp
    refine ⟨M, ?_, hJ, a_fr_rf, ⟨hc.1.1, by have := hc.1.2; omega⟩, hc.2.1, by have := hc.2.2; omega⟩
    rw [E_V_eq]
    show e_tv E_C (E_V 176) e_t176_152 [192, p, x2] M = _
    unfold e_t176_152
    simp [e_tv, e_ev, e_sv, e_b1, e_b2, x_o1, x_o2, km, q]
  intro m
  induction m with
  | zero => intro x2 M hJ hg hc hm h0 h8; exact hend x2 M hJ hg hc (by omega) h8
  | succ m ih =>
    intro x2 M hJ hg hc hm h0 h8
    rcases x_lt x2 (g (28 * p + 2)) with ⟨q, q_n⟩ | ⟨q, q_n⟩
    · have km : E_C 171 [192, p] M = some (g (28 * p + 2), M) := by rw [← hg]; exact r_many hp
      have ko : E_C 172 [192, p, x2] M = some (g (28 * p + 3 + x2), M) := by rw [← hg]; exact r_of hp ⟨h0, by omega⟩
      have w5 : e_w (x2 + 1) = x2 + 1 := a_w_id (by omega) (by omega)
      obtain ⟨M1, k1, u1, u2, u3⟩ := r_ad_lo_304 (a := 8 * x2) (b := 8 * x2) (hm0 x2 h0 q) ⟨by omega, by omega⟩ ⟨by omega, by omega⟩ hJ hg hc
      obtain ⟨M', k, t1, t2, t3⟩ := ih (x2 + 1) M1 u1 ((r_q_G u2).trans hg) (by rw [show 8 * (x2 + 1) = 8 * x2 + 8 by omega]; exact u3) (by omega) (by omega) (by omega)
      refine ⟨M', ?_, t1, a_fr_tr u2 t2, t3⟩
      rw [E_V_eq]
      show e_tv E_C (E_V 176) e_t176_152 [192, p, x2] M = _
      unfold e_t176_152
      simp [e_tv, e_ev, e_sv, e_b1, e_b2, x_o1, x_o2, km, ko, k1, w5, q, q_n, k]
    · exact hend x2 M hJ hg hc q h8
theorem r_ad_fd_176 {g : Int → Int} {p : Int} {M : EM} (hr : r_fd g 40 p) (hJ : r_J M) (hg : r_G M = g) (hc : r_cd 0 0 M) : r_AD g 48 48 M (E_C 176 [192, p] M) := by
  obtain ⟨a1, a2, a3, a4, a5, a6⟩ := hr
  have kk : E_C 170 [192, p] M = some (g (28 * p), M) := by rw [← hg]; exact r_kind ⟨a1, a2⟩
  obtain ⟨M', k, t⟩ := r_ad_152_176 ⟨a1, a2⟩ a5 (fun k k0 k1 => (a6 k k0 k1).imp (fun h => r_cl_up h (by omega)) (fun h => ⟨h.1, by have := h.2.1; omega, h.2.2⟩)) 6 0 M hJ hg hc (by decide) (by decide) (by decide)
  refine ⟨M', ?_, t⟩
  rw [r_ent (show e_rok 176 [192, p] = true from decide_eq_true r_ref)]
  show e_tv E_C (E_V 176) e_t176_0 [192, p, 0] M = _
  unfold e_t176_0
  simp [e_tv, e_ev, e_sv, e_b1, e_b2, x_o1, x_o2, kk, a3, k]
theorem r_cd_up {M : EM} {a b : Int} (h : r_cd a b M) (ha : a ≤ 48) (hb : b ≤ 48) : r_cd 48 48 M := ⟨⟨h.1.1, by have := h.1.2; omega⟩, h.2.1, by have := h.2.2; omega⟩
theorem r_AD_up {g : Int → Int} {a b : Int} {M : EM} {o : EO} (h : r_AD g a b M o) (ha : a ≤ 48) (hb : b ≤ 48) : r_AD g 48 48 M o := by
  obtain ⟨M', k, t1, t2, t3⟩ := h
  exact ⟨M', k, t1, t2, r_cd_up t3 ha hb⟩
theorem r_adds {p : Int} {M : EM} (hJ : r_J M) (hp : r_pt (r_G M) 40 p) (hc : r_cd 0 0 M) : r_AD (r_G M) 48 48 M (E_C 176 [192, p] M) := by
  rcases hp with hp | hp | hp | hp
  · exact r_AD_up (r_ad_lo_176 (a := 0) (b := 0) (Or.inl hp) (by decide) (by decide) hJ rfl hc) (by decide) (by decide)
  · exact r_AD_up (r_ad_lo_176 (a := 0) (b := 0) (Or.inr hp) (by decide) (by decide) hJ rfl hc) (by decide) (by decide)
  · exact r_ad_fd_176 hp hJ rfl hc
  · obtain ⟨a1, a2, a3, a4, a5⟩ := hp
    have kk : E_C 170 [192, p] M = some (r_G M (28 * p), M) := r_kind ⟨a1, a2⟩
    have km : E_C 171 [192, p] M = some (1, M) := by
      have h := r_many (M := M) (p := p) ⟨a1, a2⟩
      rw [show M 193 (28 * p + 2).toNat = 1 from a4.1] at h
      exact h
    have ko : E_C 172 [192, p, 0] M = some (r_G M (28 * p + 3), M) := by
      have h := r_of (M := M) (p := p) (k := 0) ⟨a1, a2⟩ ⟨by decide, by decide⟩
      rw [Int.add_zero] at h
      exact h
    have h3 : r_AD (r_G M) 48 48 M (E_C 304 [192, r_G M (28 * p + 3)] M) := by
      rcases a5 with h | h | h
      · exact r_AD_up (r_ad_lo_304 (a := 0) (b := 0) (Or.inl (r_cl_up h (by omega))) (by decide) (by decide) hJ rfl hc) (by decide) (by decide)
      · exact r_AD_up (r_ad_lo_304 (a := 0) (b := 0) (Or.inr ⟨h.1, by have := h.2.1; omega, h.2.2⟩) (by decide) (by decide) hJ rfl hc) (by decide) (by decide)
      · exact r_ad_fd_304 ⟨h.1, by have := h.2.1; omega, h.2.2⟩ hJ rfl hc
    obtain ⟨M', k, t1, t2, t3⟩ := h3
    have w1 : e_w (0 + 1) = 1 := a_w_id (by decide) (by decide)
    have k2 : E_V 176 152 [192, p, 1] M' = some (0, M') := by
      have km' : E_C 171 [192, p] M' = some (1, M') := by
        have h := r_many (M := M') (p := p) ⟨a1, a2⟩
        rw [show M' 193 (28 * p + 2).toNat = 1 from (congrFun (r_q_G t2) _).trans a4.1] at h
        exact h
      rw [E_V_eq]
      show e_tv E_C (E_V 176) e_t176_152 [192, p, 1] M' = _
      unfold e_t176_152
      simp [e_tv, e_ev, e_sv, e_b1, e_b2, x_o1, x_o2, km']
    have k3 : E_V 176 152 [192, p, 0] M = some (0, M') := by
      rw [E_V_eq]
      show e_tv E_C (E_V 176) e_t176_152 [192, p, 0] M = _
      unfold e_t176_152
      simp [e_tv, e_ev, e_sv, e_b1, e_b2, x_o1, x_o2, km, ko, k]
      exact k2
    refine ⟨M', ?_, t1, t2, t3⟩
    rw [r_ent (show e_rok 176 [192, p] = true from decide_eq_true r_ref)]
    show e_tv E_C (E_V 176) e_t176_0 [192, p, 0] M = _
    unfold e_t176_0
    simp [e_tv, e_ev, e_sv, e_b1, e_b2, x_o1, x_o2, kk, a3, k3]
theorem r_gathers {p : Int} {M : EM} (hJ : r_J M) (hp : 0 ≤ p ∧ p < r_G M 1198) : ∃ M', E_C 175 [192, p] M = some (0, M') ∧ r_J M' ∧ a_fr r_wq M M' ∧ r_cd 48 48 M' := by
  have hW := (r_J_E hJ).2.1
  obtain ⟨a1, a2⟩ := r_qfld (k := 13) (v := 0) (by decide) (by decide) (by decide) hJ
  obtain ⟨b1, b2⟩ := r_qfld (k := 14) (v := 0) (by decide) (by decide) (by decide) a1
  have hg : r_G (e_up (e_up M 192 13 0) 192 14 0) = r_G M := r_q_G (a_fr_tr a2 b2)
  have h13 : (e_up (e_up M 192 13 0) 192 14 0) 192 13 = 0 := (c_up_n (fun hc => absurd hc.2 (by decide))).trans c_up_s
  have h14 : (e_up (e_up M 192 13 0) 192 14 0) 192 14 = 0 := c_up_s
  obtain ⟨M', k, t1, t2, t3⟩ := r_adds b1 (by rw [hg]; exact r_pt_up (r_pt_of hW hp) hW.2.1) ⟨by rw [h13]; decide, by rw [h14]; decide⟩
  refine ⟨M', ?_, t1, a_fr_tr a2 (a_fr_tr b2 t2), t3⟩
  rw [r_ent (show e_rok 175 [192, p] = true from decide_eq_true r_ref)]
  show e_tv E_C (E_V 175) e_t175_0 [192, p] M = _
  unfold e_t175_0
  simp [e_tv, e_ev, e_sv, e_b1, e_b2, x_o1, x_o2, r_P13, r_P14, k]
