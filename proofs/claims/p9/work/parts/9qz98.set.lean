/-! set: the reference; the pair -/
theorem h_196a {p w v i : Int} {M : EM} (ip : E_C 169 [192, p] M = some (i, M)) (h : i = 0 ∨ ¬ h_Sq w v) : E_C 196 [192, p, w, v] M = some (-1, M) := by
  rw [r_ent (show e_rok 196 [192, p, w, v] = true from decide_eq_true r_ref)]
  show e_tv E_C (E_V 196) e_t196_0 [192, p, w, v, 0] M = _
  unfold e_t196_0
  by_cases c : i = 0
  · simp [e_tv, e_ev, e_sv, e_b1, e_b2, x_o1, x_o2, ip, c]
  · have h := h.resolve_left c
    by_cases q1 : 0 ≤ w ∧ w ≤ 3
    · have i1 := r_in1 (M := M) q1
      have q2 : ¬ (0 ≤ v ∧ v ≤ h_z w) := fun e => h ⟨⟨q1.1, by omega⟩, e⟩
      unfold h_z at q2
      have i2 := r_in0 (M := M) q2
      by_cases c0 : w = 0
      · subst c0
        rw [if_pos rfl] at i2
        simp [e_tv, e_ev, e_sv, e_b1, e_b2, x_o1, x_o2, r_O0, ip, c, i1, i2]
      · by_cases c3 : w = 3
        · subst c3
          rw [if_neg (by decide), if_pos rfl] at i2
          simp [e_tv, e_ev, e_sv, e_b1, e_b2, x_o1, x_o2, r_O0, ip, c, i1, i2]
        · rw [if_neg c0, if_neg c3] at i2
          simp [e_tv, e_ev, e_sv, e_b1, e_b2, x_o1, x_o2, r_O0, ip, c, i1, i2, c0, c3]
    · have i1 := r_in0 (M := M) q1
      simp [e_tv, e_ev, e_sv, e_b1, e_b2, x_o1, x_o2, ip, c, i1]
theorem h_196b {p w v k : Int} {M : EM} (ip : E_C 169 [192, p] M = some (1, M)) (kk : E_C 170 [192, p] M = some (k, M)) (hk : k ≠ 0) (h : h_Sq w v) : E_C 196 [192, p, w, v] M = some (-3, M) := by
  obtain ⟨⟨c1, c2⟩, q2⟩ := h
  have i1 := r_in1 (M := M) (show 0 ≤ w ∧ w ≤ 3 by omega)
  unfold h_z at q2
  have i2 := r_in1 (M := M) q2
  rw [r_ent (show e_rok 196 [192, p, w, v] = true from decide_eq_true r_ref)]
  show e_tv E_C (E_V 196) e_t196_0 [192, p, w, v, 0] M = _
  unfold e_t196_0
  by_cases c0 : w = 0
  · subst c0
    rw [if_pos rfl] at i2
    simp [e_tv, e_ev, e_sv, e_b1, e_b2, x_o1, x_o2, r_O0, ip, kk, hk, i1, i2]
  · by_cases c3 : w = 3
    · subst c3
      rw [if_neg (by decide), if_pos rfl] at i2
      simp [e_tv, e_ev, e_sv, e_b1, e_b2, x_o1, x_o2, r_O0, ip, kk, hk, i1, i2]
    · rw [if_neg c0, if_neg c3] at i2
      simp [e_tv, e_ev, e_sv, e_b1, e_b2, x_o1, x_o2, r_O0, ip, kk, hk, i1, i2, c0, c3]
theorem h_196c {p w v : Int} {M : EM} (hp : 0 ≤ p ∧ p < 40) (ip : E_C 169 [192, p] M = some (1, M)) (kk : E_C 170 [192, p] M = some (0, M)) (h : h_Sq w v) : E_C 196 [192, p, w, v] M = some (r_G M (28 * p + 15 + w), e_up M 193 (28 * p + 15 + w).toNat v) := by
  obtain ⟨⟨c1, c2⟩, q2⟩ := h
  have i1 := r_in1 (M := M) (show 0 ≤ w ∧ w ≤ 3 by omega)
  unfold h_z at q2
  have i2 := r_in1 (M := M) q2
  have l1 : e_op 60 [193, 28 * p + 15 + w] M = some (r_G M (28 * p + 15 + w)) := r_rd (by omega) (by omega)
  have st := r_stw (i := 28 * p + 15 + w) (v := v) (M := M) (by omega) (by omega)
  have w1 : e_w (28 * p) = 28 * p := a_w_id (by omega) (by omega)
  have w2 : e_w (28 * p + 15) = 28 * p + 15 := a_w_id (by omega) (by omega)
  have w3 : e_w (28 * p + 15 + w) = 28 * p + 15 + w := a_w_id (by omega) (by omega)
  rw [r_ent (show e_rok 196 [192, p, w, v] = true from decide_eq_true r_ref)]
  show e_tv E_C (E_V 196) e_t196_0 [192, p, w, v, 0] M = _
  unfold e_t196_0
  by_cases c0 : w = 0
  · subst c0
    rw [if_pos rfl] at i2
    simp only [Int.add_zero] at w3 l1 st ⊢
    simp [e_tv, e_ev, e_sv, e_b1, e_b2, x_o1, x_o2, r_O0, ip, kk, i1, i2, w1, w2, w3, l1, st]
  · by_cases c3 : w = 3
    · subst c3
      rw [if_neg (by decide), if_pos rfl] at i2
      simp [e_tv, e_ev, e_sv, e_b1, e_b2, x_o1, x_o2, r_O0, ip, kk, i1, i2, w1, w2, w3, l1, st]
    · rw [if_neg c0, if_neg c3] at i2
      simp [e_tv, e_ev, e_sv, e_b1, e_b2, x_o1, x_o2, r_O0, ip, kk, i1, i2, w1, w2, w3, l1, st, c0, c3]
theorem h_sets {p w v r1 r2 : Int} {M M1 M2 : EM} (ht : h_t1 M) (J1 : r_J M1) (hB : h_B M 0 (r_G M)) (hC : h_C M 0 (r_G M)) (hfr : ∀ i, M1 193 i = M 193 i) (k1 : E_C 107 [8, p, w, v] M = some (r1, M1)) (k2 : E_C 196 [192, p, w, v] M1 = some (r2, M2)) : r1 = r2 ∧ h_C M2 0 (r_G M2) := by
  have eG1 : r_G M1 = r_G M := funext fun i => hfr _
  have hW1 := (r_J_E J1).2.1
  have h10 := hB.1
  by_cases c : 0 ≤ p ∧ p < M 10 0
  · have cg : 0 ≤ p ∧ p < r_G M1 1198 := by rw [eG1, ← h10]; exact c
    have i : E_C 149 [8, p] M = some (1, M) := h_149.trans (congrArg some (congrArg (·, M) (if_pos c)))
    have ip := r_ip1 hW1 cg
    by_cases hL : h_Sq w v
    · have h40 := r_40 hW1 cg
      obtain ⟨q, hq⟩ : ∃ q : Nat, p = q := ⟨p.toNat, by omega⟩
      subst hq
      have hqn : (q : Int) < r_G M 1198 := by rw [← h10]; exact c.2
      have b := hB.2.2 q hqn
      have cq := hC q hqn
      have kk : E_C 170 [192, (q : Int)] M1 = some (r_G M1 (28 * (q : Int)), M1) := r_kind h40
      rw [eG1] at kk
      have kq : M 11 (q : Int).toNat = r_G M (28 * (q : Int)) := b.1
      by_cases k0 : r_G M (28 * (q : Int)) = 0
      · have j : E_C 150 [8, (q : Int), 0] M = some (1, M) := (h_150 h40).trans (congrArg some (congrArg (·, M) (if_pos (kq.trans k0))))
        obtain ⟨e1, e2⟩ := Prod.mk.inj (Option.some.inj (k1.symm.trans (h_107c ht h40 i j hL)))
        obtain ⟨d1, d2, d4⟩ := cq k0
        rw [k0] at kk
        obtain ⟨f1, f2⟩ := Prod.mk.inj (Option.some.inj (k2.symm.trans (h_196c h40 ip kk hL)))
        have hz := h_zb w
        obtain ⟨⟨s1, s2⟩, s3, s4⟩ := hL
        obtain ⟨a, ha⟩ : ∃ a : Nat, w = a := ⟨w.toNat, by omega⟩
        subst ha
        have ha4 : a < 4 := by omega
        have tn : (4 * (q : Int) + (a : Int)).toNat = 4 * q + a := by omega
        rw [tn] at e1 e2
        have g2 : ∀ x, 0 ≤ x → x ≠ 28 * (q : Int) + 15 + (a : Int) → r_G M2 x = r_G M x := fun x x0 hx => by
          rw [f2]
          show e_up M1 193 _ v 193 x.toNat = _
          rw [c_up_n (by omega)]
          exact hfr _
        have m2 : ∀ id k, id ≠ 193 → ¬ (id = 21 ∧ k = 4 * q + a) → M2 id k = M id k := fun id k h1 h2 => by
          rw [f2, c_up_n (by omega), e2]
          exact c_up_n h2
        refine ⟨?_, ?_⟩
        · rw [e1, f1]
          exact (d1 a ha4).1.trans (congrFun eG1 _).symm
        · intro z hz'
          rw [g2 1198 (by decide) (by omega)] at hz'
          by_cases ct : z = q
          · subst ct
            intro _
            have gt : r_G M2 (28 * (z : Int) + 15 + (a : Int)) = v := by rw [f2]; exact c_up_s
            have mt : M2 21 (4 * z + a) = v := by rw [f2, c_up_n (by omega), e2]; exact c_up_s
            refine ⟨fun b hb => ?_, ?_, ?_⟩
            · by_cases cb : b = a
              · subst cb
                rw [gt, mt]
                exact ⟨rfl, s3, by omega⟩
              · rw [g2 _ (by omega) (by omega), m2 _ _ (by decide) (by omega)]
                exact d1 b hb
            · rw [g2 _ (by omega) (by omega), m2 (22 + 0) _ (by decide) (by omega)]
              exact d2
            · rw [g2 (28 * (z : Int) + 20) (by omega) (by omega), g2 (28 * (z : Int) + 21) (by omega) (by omega), g2 (28 * (z : Int) + 22) (by omega) (by omega), g2 (28 * (z : Int) + 23) (by omega) (by omega), g2 (28 * (z : Int) + 24) (by omega) (by omega), m2 (23 + 0) _ (by decide) (by omega), m2 (24 + 0) _ (by decide) (by omega)]
              exact d4
          · exact h_Cq_cg (hC z hz') (g2 _ (by omega) (by omega)) (fun d d0 d1 => g2 _ (by omega) (by omega)) (fun b _ => m2 _ _ (by decide) (by omega)) (m2 _ _ (by decide) (by omega)) (m2 _ _ (by decide) (by omega)) (m2 _ _ (by decide) (by omega))
      · have j : E_C 150 [8, (q : Int), 0] M = some (0, M) := (h_150 h40).trans (congrArg some (congrArg (·, M) (if_neg (fun e => k0 (kq.symm.trans e)))))
        obtain ⟨e1, e2⟩ := Prod.mk.inj (Option.some.inj (k1.symm.trans (h_107b ht i j hL)))
        obtain ⟨f1, f2⟩ := Prod.mk.inj (Option.some.inj (k2.symm.trans (h_196b ip kk k0 hL)))
        refine ⟨e1.trans f1.symm, ?_⟩
        rw [f2, e2]
        exact hC
    · obtain ⟨e1, e2⟩ := Prod.mk.inj (Option.some.inj (k1.symm.trans (h_107a ht i (Or.inr hL))))
      obtain ⟨f1, f2⟩ := Prod.mk.inj (Option.some.inj (k2.symm.trans (h_196a ip (Or.inr hL))))
      refine ⟨e1.trans f1.symm, ?_⟩
      rw [f2, e2]
      exact hC
  · have i : E_C 149 [8, p] M = some (0, M) := h_149.trans (congrArg some (congrArg (·, M) (if_neg c)))
    have cg : ¬ (0 ≤ p ∧ p < r_G M1 1198) := by rw [eG1, ← h10]; exact c
    obtain ⟨e1, e2⟩ := Prod.mk.inj (Option.some.inj (k1.symm.trans (h_107a ht i (Or.inl rfl))))
    obtain ⟨f1, f2⟩ := Prod.mk.inj (Option.some.inj (k2.symm.trans (h_196a (r_ip0 hW1 cg) (Or.inl rfl))))
    refine ⟨e1.trans f1.symm, ?_⟩
    rw [f2, e2]
    exact hC
