section
/-! text: class and reference side by side -/
theorem h_190n {d z : Int} {M : EM} (k : E_C 189 [192, d, 0] M = some (z, M)) (hz : z ≠ 0) : E_C 190 [192, d] M = some (z, M) := by
  rw [r_ent (show e_rok 190 [192, d] = true from decide_eq_true r_ref)]
  show e_tv E_C (E_V 190) e_t190_0 [192, d, 0, 0, 0] M = _
  unfold e_t190_0
  simp [zq_a, zq_b, zq_c, zq_d, zq_e, zq_f, zq_g, zq_h, zq_i, zq_j, zq_k, zq_l, zq_m, zq_n, zq_o, zq_p, zq_q, zq_r, zq_s, zq_t, zq_u, zq_v, zq_w, zq_x, zq_y, zq_z, zq_A, zq_B, zq_C, zq_D, zq_E, zq_F, zq_G, zq_H, zq_I, zq_J, zq_K, zq_L, ↓zq_M, ↓zq_N, ↓zq_O, ↓zq_P, ↓zq_Q, ↓zq_R, zq_S, zq_T, zq_U, zq_V, zq_W, zq_X, zq_Y, zq_Z, zq_0, zq_1, zq_2, zq_3, zq_4, zq_5, ↓zq_6, ↓zq_7, ↓zq_8, ↓zq_9, ↓zq_aa, zq_ab, zq_ac, zq_ad, zq_ae, zq_af, zq_ag, ↓zq_ah, ↓zq_ai, ↓zq_aj, zq_ak, ↓zq_al, ↓zq_am, e_b1, e_b2, x_o1, x_o2, k, hz]
theorem h_190y {d b n : Int} {M R0 : EM} {o : EO} (k : E_C 189 [192, d, 0] M = some (0, M)) (w : e_w (120 * d) = b) (l : e_op 60 [197, d] (e_up M 192 16 b) = some n) (hR : e_up (e_up (e_up M 192 16 b) 192 17 n) 192 15 0 = R0) (g : E_V 190 36 [192, d, 0, 0, 0] R0 = o) : E_C 190 [192, d] M = o := by
  rw [r_ent (show e_rok 190 [192, d] = true from decide_eq_true r_ref)]
  show e_tv E_C (E_V 190) e_t190_0 [192, d, 0, 0, 0] M = _
  unfold e_t190_0
  simp [zq_a, zq_b, zq_c, zq_d, zq_e, zq_f, zq_g, zq_h, zq_i, zq_j, zq_k, zq_l, zq_m, zq_n, zq_o, zq_p, zq_q, zq_r, zq_s, zq_t, zq_u, zq_v, zq_w, zq_x, zq_y, zq_z, zq_A, zq_B, zq_C, zq_D, zq_E, zq_F, zq_G, zq_H, zq_I, zq_J, zq_K, zq_L, ↓zq_M, ↓zq_N, ↓zq_O, ↓zq_P, ↓zq_Q, ↓zq_R, zq_S, zq_T, zq_U, zq_V, zq_W, zq_X, zq_Y, zq_Z, zq_0, zq_1, zq_2, zq_3, zq_4, zq_5, ↓zq_6, ↓zq_7, ↓zq_8, ↓zq_9, ↓zq_aa, zq_ab, zq_ac, zq_ad, zq_ae, zq_af, zq_ag, ↓zq_ah, ↓zq_ai, ↓zq_aj, zq_ak, ↓zq_al, ↓zq_am, e_b1, e_b2, x_o1, x_o2, r_O4, r_P15, r_P16, r_P17, k, w, l, hR, g]
theorem h_B_cg {M M' : EM} {dc : Nat} {g g' : Int → Int} (h : h_B M dc g) (e0 : M' (10 + dc) 0 = M (10 + dc) 0) (eg : g' 1198 = g 1198) (e : ∀ q : Nat, (q : Int) < g 1198 → M' (11 + dc) q = M (11 + dc) q ∧ M' (13 + dc) q = M (13 + dc) q ∧ g' (28 * (q : Int)) = g (28 * (q : Int)) ∧ g' (28 * (q : Int) + 1) = g (28 * (q : Int) + 1)) : h_B M' dc g' := by
  obtain ⟨h1, h2, h3⟩ := h
  refine ⟨by rw [e0, eg]; exact h1, by rw [eg]; exact h2, fun q hq => ?_⟩
  rw [eg] at hq
  obtain ⟨a, b, c, d⟩ := e q hq
  rw [a, b, c, d, eg]
  exact h3 q hq
theorem h_text {d r1 r2 : Int} {M M1 M2 : EM} (hJ : r_J M) (hB : h_B M 0 (r_G M)) (hS : h_S M) (h0 : M 165 0 = 0) (k1 : E_C 104 [8, d] M = some (r1, M1)) (J1 : r_J M1) (hfr : ∀ id i, 192 ≤ id → M1 id i = M id i) (k2 : E_C 190 [192, d] M1 = some (r2, M2)) : r1 = r2 ∧ h_B M2 0 (r_G M2) ∧ M2 165 0 = 0 := by
  obtain ⟨r, M1', c1, tx⟩ := h_class (d := d) hJ hB hS h0
  have e1 := Prod.mk.inj (Option.some.inj (k1.symm.trans c1))
  obtain ⟨e1, e2⟩ := e1
  subst e1
  subst e2
  have eno : h_no M1 d 0 = h_no M d 0 := by
    unfold h_no
    rw [hfr 195 _ (by decide), hfr 196 _ (by decide)]
  have k3 := h_189 (d := d) (w := 0) (M := M1) (by decide)
  rw [eno] at k3
  have eG1 : r_G M1 = r_G M := funext fun i => hfr _ _ (by decide)
  rcases tx with ⟨q, q1, q2⟩ | ⟨q, b, n, p, N0, hb, hn, n120, hp, f1, f2, hx⟩
  · have k4 := h_190n k3 q
    have e3 := Prod.mk.inj (Option.some.inj (k2.symm.trans k4))
    refine ⟨by rw [q1, e3.1], ?_, ?_⟩
    · rw [e3.2, q2]; exact hB
    · rw [e3.2, q2]; exact h0
  · rw [q] at k3
    have hd : 0 ≤ d ∧ d < 8 := by
      by_cases c : 0 ≤ d ∧ d < 8
      · exact c
      · unfold h_no at q
        rw [if_neg c] at q
        exact absurd q (by decide)
    obtain ⟨m, rfl⟩ : ∃ m : Nat, d = m := ⟨d.toNat, by omega⟩
    rw [Int.toNat_natCast] at hb hn
    have m8 : m < 8 := by omega
    have kept : M 195 m = 2 := by
      unfold h_no at q
      rw [if_pos hd, Int.toNat_natCast] at q
      by_cases c : M 195 m = 0
      · rw [if_pos c] at q; exact absurd q (by decide)
      · rw [if_neg c] at q
        by_cases c2 : M 195 m = 2 ∧ ((0 : Int) = -1 ∨ 0 = M 196 m)
        · exact c2.1
        · rw [if_neg c2] at q; exact absurd q (by decide)
    have hrow : M (146 + 2 * m) 5 = M 197 m ∧ ∀ i, i < 120 → M (147 + 2 * m) i = M 198 (120 * m + i) := by
      rcases hS m m8 with ⟨a, -⟩ | ⟨a, -⟩ | ⟨a, -, -, -, e5, e6⟩
      · omega
      · omega
      · exact ⟨e5, e6⟩
    have w1 : e_w (120 * (m : Int)) = 120 * (m : Int) := by
      clear k1 k2 k3 c1 hx hB hS hJ J1 hfr f1 f2 hb hn hrow q
      exact a_w_id (by omega) (by omega)
    have e97 : (e_up M1 192 16 (120 * (m : Int))) 197 m = (n : Int) := (c_up_n (fun hc => absurd hc.1 (by decide))).trans ((hfr 197 m (by decide)).trans (hrow.1.symm.trans hn.symm))
    have ls : e_op 60 [197, (m : Int)] (e_up M1 192 16 (120 * (m : Int))) = some (n : Int) := ((r_isD (m : Int) _ (by omega)).2.2.1).trans (congrArg some e97)
    obtain ⟨R0, hR0⟩ : ∃ R0, e_up (e_up (e_up M1 192 16 (120 * (m : Int))) 192 17 (n : Int)) 192 15 0 = R0 := ⟨_, rfl⟩
    have fR : ∀ id i, ¬ (id = 192 ∧ (15 ≤ i ∧ i ≤ 18)) → R0 id i = M1 id i := fun id i h => by
      rw [← hR0]
      exact (c_up_n (fun hc => h ⟨hc.1, by omega⟩)).trans ((c_up_n (fun hc => h ⟨hc.1, by omega⟩)).trans (c_up_n (fun hc => h ⟨hc.1, by omega⟩)))
    have p15 : R0 192 15 = 0 := by rw [← hR0]; exact c_up_s
    have p16 : R0 192 16 = 120 * (m : Int) := by rw [← hR0]; exact (r_ff (by decide)).trans ((r_ff (by decide)).trans c_up_s)
    have p17 : R0 192 17 = (n : Int) := by rw [← hR0]; exact (r_ff (by decide)).trans c_up_s
    have aR : a_M R0 := by
      rw [← hR0]
      exact r_up (by decide) (by decide +kernel) (by decide +kernel) ⟨by omega, by omega⟩ (r_up (by decide) (by decide +kernel) (by decide +kernel) ⟨by omega, by omega⟩ (r_up (by decide) (by decide +kernel) (by decide +kernel) ⟨by omega, by omega⟩ J1.1))
    have yB : y_B b n 0 R0 := ⟨aR, p15, Nat.zero_le _, p17, n120, by omega, by omega, fun i hi => by
      rw [fR _ _ (by omega), p16, hfr _ _ (by decide), show (120 * (m : Int)).toNat = 120 * m by omega, hb]
      exact (hrow.2 i (by omega)).symm⟩
    have T0 : ∀ j, w_T b 0 j = 0 := fun _ => rfl
    obtain ⟨M', tt, res⟩ := y_36 (d := (m : Int)) (x3 := 0) (x4 := 0) n 0 R0 (by omega) yB (fun j hj => absurd hj (Nat.not_lt_zero _)) (T0 2) (fun e => by
      subst e
      rw [T0]
      decide)
    have fM' : ∀ id i, ¬ (id = 192 ∧ (15 ≤ i ∧ i ≤ 18)) → M' id i = M1 id i := fun id i h => (tt.2.1 id i (by omega)).trans (fR id i h)
    have keep : (∀ id i, id ≠ 192 → M2 id i = M1 id i) → M1 = N0 → h_B M2 0 (r_G M2) ∧ M2 165 0 = 0 := fun hM2 e => by
      have eG2 : r_G M2 = r_G M := (funext fun i => hM2 _ _ (by decide)).trans eG1
      have ec : ∀ id i, id < 162 → M2 id i = M id i := fun id i hi => (hM2 id i (by omega)).trans (by rw [e]; exact f1 id i (Or.inl hi))
      refine ⟨?_, (hM2 _ _ (by decide)).trans f2⟩
      rw [eG2]
      exact h_B_cg hB (ec _ _ (by decide)) rfl (fun q _ => ⟨ec _ _ (by decide), ec _ _ (by decide), rfl, rfl⟩)
    rcases res with ⟨k', w_f, g1⟩ | ⟨wA, wz, w7, yE, g1⟩
    · have e3 := Prod.mk.inj (Option.some.inj (k2.symm.trans (h_190y k3 w1 ls hR0 g1)))
      rcases hx with ⟨k, x1, x2, x3⟩ | ⟨x1, x2, x3, -⟩
      · have ek : k = k' := w_F_u x1 w_f
        subst ek
        refine ⟨by rw [x2, e3.1], keep (fun id i hi => ?_) x3⟩
        rw [e3.2]
        exact fM' id i (fun h => hi h.1)
      · exact absurd (w_F_n w_f x1 ⟨x2, x3⟩) id
    · rcases hx with ⟨k, x1, x2, x3⟩ | ⟨x1, x2, x3, x4, dd, Mx, x5, x6⟩
      · exact absurd (w_F_n x1 wA ⟨wz, w7⟩) id
      · have g2 := r_tx_65 (d := (m : Int)) (x4 := 0) 1330 0 M' (by decide) (by decide)
        have g2' : E_V 190 65 [192, (m : Int), 0, 0, 0] M' = E_V 190 95 [192, (m : Int), 0, 1330, 0] (e_up (r_cp M' 193 204 0) 192 15 0) := g2
        rw [g2'] at g1
        obtain ⟨R, hR⟩ : ∃ R, e_up (r_cp M' 193 204 0) 192 15 0 = R := ⟨_, rfl⟩
        rw [hR] at g1
        have c0 : ∀ id i, id ≠ 204 → ¬ (id = 192 ∧ i = 15) → R id i = M' id i := fun id i h2 h3 => by
          rw [← hR]
          exact (c_up_n h3).trans (r_cp_n h2)
        have c4 : ∀ j, j < 1330 → R 204 j = M' 193 j := fun j hj => by
          rw [← hR]
          exact (c_up_n (fun hc => absurd hc.1 (by decide))).trans (r_cp_t hj)
        have c15 : R 192 15 = 0 := by rw [← hR]; exact c_up_s
        have aR2 : a_M R := by
          rw [← hR]
          exact r_up (by decide) (by decide +kernel) (by decide +kernel) (by decide) (r_cp_M ⟨by decide, by decide +kernel⟩ ⟨by decide, by decide +kernel, by decide +kernel⟩ yE.1)
        obtain ⟨-, -, -, y17, -, y16a, y16b, y8⟩ := yE
        have yR : y_B b n 0 R := ⟨aR2, c15, Nat.zero_le _, by rw [c0 _ _ (by decide) (by omega)]; exact y17, n120, by rw [c0 _ _ (by decide) (by omega)]; exact y16a, by rw [c0 _ _ (by decide) (by omega)]; exact y16b, fun i hi => by
          rw [c0 192 16 (by decide) (by omega), c0 _ _ (by decide) (by omega)]
          exact y8 i hi⟩
        have eGR : r_G R = r_G M := (funext fun i => (c0 _ _ (by decide) (by omega)).trans (fM' _ _ (by omega))).trans eG1
        have hp98 : r_G M 1198 = p := hB.1.symm.trans hp
        have hBN : h_B N0 0 (r_G R) := by
          rw [eGR]
          exact h_B_cg hB (f1 _ _ (by omega)) rfl (fun q _ => ⟨f1 _ _ (by omega), f1 _ _ (by omega), rfl, rfl⟩)
        have hb98 : R 204 1198 = p := (c4 1198 (by decide)).trans ((fM' 193 1198 (by omega)).trans ((hfr _ _ (by decide)).trans hp98))
        obtain ⟨R', v1, v2, v3⟩ := h_run wA wz n120 x4 dd 0 N0 Mx R 0 (m : Int) 1330 0 r1 x5 (fun _ _ _ _ => rfl) hBN (by rw [eGR, hp98]; rfl) hb98 yR (T0 2) (T0 7) (by
          rcases x6 with ⟨z1, -, z3⟩ | ⟨z1, z2, z3, -⟩
          · exact Or.inl ⟨z1, z3⟩
          · exact Or.inr ⟨z1, z2, z3⟩)
        have e3 := Prod.mk.inj (Option.some.inj (k2.symm.trans (h_190y k3 w1 ls hR0 (g1.trans v1))))
        refine ⟨e3.1.symm, ?_⟩
        rw [e3.2]
        have cc : ∀ id i, id < 192 → R id i = M1 id i := fun id i h => (c0 id i (by omega) (by omega)).trans (fM' id i (by omega))
        rcases x6 with ⟨z1, z2, z3⟩ | ⟨z1, z2, z3, z4⟩
        · obtain ⟨hx1, hx2⟩ := v2 z1
          have ec : ∀ id i, id < 192 → R' id i = Mx id i := fun id i h => (hx2 id i (by omega) (by omega)).trans ((cc id i h).trans (by rw [z2]))
          exact ⟨h_B_cg hx1 (ec _ _ (by decide)) rfl (fun q _ => ⟨ec _ _ (by decide), ec _ _ (by decide), rfl, rfl⟩), (ec _ _ (by decide)).trans (by rw [← z2]; exact f2)⟩
        · obtain ⟨hy1, hy2⟩ := v3 z1
          have ec : ∀ id i, id < 192 → R' id i = M1 id i := fun id i h => (hy2 id i (by omega) (by omega)).trans (cc id i h)
          have er : ∀ i : Int, 0 ≤ i → i < 1330 → r_G R' i = r_G M i := fun i i0 i1 => (hy1 i.toNat (by omega)).trans ((c4 i.toNat (by omega)).trans ((fM' _ _ (by omega)).trans (hfr _ _ (by decide))))
          have hg40 := hB.2.1.2
          refine ⟨h_B_cg hB ?_ (er 1198 (by decide) (by decide)) (fun q hq => ⟨?_, ?_, er _ (by omega) (by omega), er _ (by omega) (by omega)⟩), (ec _ _ (by decide)).trans f2⟩
          · exact (ec _ _ (by decide)).trans ((z4.2.2.2.2 _ _ (by omega) (by omega) (by omega)).trans (f1 _ _ (by omega)))
          · exact (ec _ _ (by decide)).trans ((z4.1 q (by omega)).1.trans (f1 _ _ (by omega)))
          · exact (ec _ _ (by decide)).trans ((z4.1 q (by omega)).2.2.1.trans (f1 _ _ (by omega)))
end
section
/-! text with what is told of CELLS -/
theorem h_text2 {d r1 r2 : Int} {M M1 M2 : EM} (hJ : r_J M) (hB : h_B M 0 (r_G M)) (hC : h_C M 0 (r_G M)) (hS : h_S M) (h0 : M 165 0 = 0) (k1 : E_C 104 [8, d] M = some (r1, M1)) (J1 : r_J M1) (hfr : ∀ id i, 192 ≤ id → M1 id i = M id i) (k2 : E_C 190 [192, d] M1 = some (r2, M2)) : r1 = r2 ∧ h_B M2 0 (r_G M2) ∧ h_C M2 0 (r_G M2) ∧ M2 165 0 = 0 := by
  obtain ⟨r, M1', c1, tx⟩ := h_class (d := d) hJ hB hS h0
  have e1 := Prod.mk.inj (Option.some.inj (k1.symm.trans c1))
  obtain ⟨e1, e2⟩ := e1
  subst e1
  subst e2
  have eno : h_no M1 d 0 = h_no M d 0 := by
    unfold h_no
    rw [hfr 195 _ (by decide), hfr 196 _ (by decide)]
  have k3 := h_189 (d := d) (w := 0) (M := M1) (by decide)
  rw [eno] at k3
  have eG1 : r_G M1 = r_G M := funext fun i => hfr _ _ (by decide)
  rcases tx with ⟨q, q1, q2⟩ | ⟨q, b, n, p, N0, hb, hn, n120, hp, f1, f2, hx⟩
  · have k4 := h_190n k3 q
    have e3 := Prod.mk.inj (Option.some.inj (k2.symm.trans k4))
    refine ⟨by rw [q1, e3.1], ?_, ?_, ?_⟩
    · rw [e3.2, q2]; exact hB
    · rw [e3.2, q2]; exact hC
    · rw [e3.2, q2]; exact h0
  · rw [q] at k3
    have hd : 0 ≤ d ∧ d < 8 := by
      by_cases c : 0 ≤ d ∧ d < 8
      · exact c
      · unfold h_no at q
        rw [if_neg c] at q
        exact absurd q (by decide)
    obtain ⟨m, rfl⟩ : ∃ m : Nat, d = m := ⟨d.toNat, by omega⟩
    rw [Int.toNat_natCast] at hb hn
    have m8 : m < 8 := by omega
    have kept : M 195 m = 2 := by
      unfold h_no at q
      rw [if_pos hd, Int.toNat_natCast] at q
      by_cases c : M 195 m = 0
      · rw [if_pos c] at q; exact absurd q (by decide)
      · rw [if_neg c] at q
        by_cases c2 : M 195 m = 2 ∧ ((0 : Int) = -1 ∨ 0 = M 196 m)
        · exact c2.1
        · rw [if_neg c2] at q; exact absurd q (by decide)
    have hrow : M (146 + 2 * m) 5 = M 197 m ∧ ∀ i, i < 120 → M (147 + 2 * m) i = M 198 (120 * m + i) := by
      rcases hS m m8 with ⟨a, -⟩ | ⟨a, -⟩ | ⟨a, -, -, -, e5, e6⟩
      · omega
      · omega
      · exact ⟨e5, e6⟩
    have w1 : e_w (120 * (m : Int)) = 120 * (m : Int) := by
      clear k1 k2 k3 c1 hx hB hS hJ J1 hfr f1 f2 hb hn hrow q
      exact a_w_id (by omega) (by omega)
    have e97 : (e_up M1 192 16 (120 * (m : Int))) 197 m = (n : Int) := (c_up_n (fun hc => absurd hc.1 (by decide))).trans ((hfr 197 m (by decide)).trans (hrow.1.symm.trans hn.symm))
    have ls : e_op 60 [197, (m : Int)] (e_up M1 192 16 (120 * (m : Int))) = some (n : Int) := ((r_isD (m : Int) _ (by omega)).2.2.1).trans (congrArg some e97)
    obtain ⟨R0, hR0⟩ : ∃ R0, e_up (e_up (e_up M1 192 16 (120 * (m : Int))) 192 17 (n : Int)) 192 15 0 = R0 := ⟨_, rfl⟩
    have fR : ∀ id i, ¬ (id = 192 ∧ (15 ≤ i ∧ i ≤ 18)) → R0 id i = M1 id i := fun id i h => by
      rw [← hR0]
      exact (c_up_n (fun hc => h ⟨hc.1, by omega⟩)).trans ((c_up_n (fun hc => h ⟨hc.1, by omega⟩)).trans (c_up_n (fun hc => h ⟨hc.1, by omega⟩)))
    have p15 : R0 192 15 = 0 := by rw [← hR0]; exact c_up_s
    have p16 : R0 192 16 = 120 * (m : Int) := by rw [← hR0]; exact (r_ff (by decide)).trans ((r_ff (by decide)).trans c_up_s)
    have p17 : R0 192 17 = (n : Int) := by rw [← hR0]; exact (r_ff (by decide)).trans c_up_s
    have aR : a_M R0 := by
      rw [← hR0]
      exact r_up (by decide) (by decide +kernel) (by decide +kernel) ⟨by omega, by omega⟩ (r_up (by decide) (by decide +kernel) (by decide +kernel) ⟨by omega, by omega⟩ (r_up (by decide) (by decide +kernel) (by decide +kernel) ⟨by omega, by omega⟩ J1.1))
    have yB : y_B b n 0 R0 := ⟨aR, p15, Nat.zero_le _, p17, n120, by omega, by omega, fun i hi => by
      rw [fR _ _ (by omega), p16, hfr _ _ (by decide), show (120 * (m : Int)).toNat = 120 * m by omega, hb]
      exact (hrow.2 i (by omega)).symm⟩
    have T0 : ∀ j, w_T b 0 j = 0 := fun _ => rfl
    obtain ⟨M', tt, res⟩ := y_36 (d := (m : Int)) (x3 := 0) (x4 := 0) n 0 R0 (by omega) yB (fun j hj => absurd hj (Nat.not_lt_zero _)) (T0 2) (fun e => by
      subst e
      rw [T0]
      decide)
    have fM' : ∀ id i, ¬ (id = 192 ∧ (15 ≤ i ∧ i ≤ 18)) → M' id i = M1 id i := fun id i h => (tt.2.1 id i (by omega)).trans (fR id i h)
    have keep : (∀ id i, id ≠ 192 → M2 id i = M1 id i) → M1 = N0 → h_B M2 0 (r_G M2) ∧ h_C M2 0 (r_G M2) ∧ M2 165 0 = 0 := fun hM2 e => by
      have eG2 : r_G M2 = r_G M := (funext fun i => hM2 _ _ (by decide)).trans eG1
      have ec : ∀ id i, id < 162 → M2 id i = M id i := fun id i hi => (hM2 id i (by omega)).trans (by rw [e]; exact f1 id i (Or.inl hi))
      rw [eG2]
      exact ⟨h_B_cg hB (ec _ _ (by decide)) rfl (fun q _ => ⟨ec _ _ (by decide), ec _ _ (by decide), rfl, rfl⟩), fun q hq => h_Cq_cg (hC q hq) rfl (fun _ _ _ => rfl) (fun a _ => ec _ _ (by decide)) (ec _ _ (by decide)) (ec _ _ (by decide)) (ec _ _ (by decide)), (hM2 _ _ (by decide)).trans f2⟩
    rcases res with ⟨k', w_f, g1⟩ | ⟨wA, wz, w7, yE, g1⟩
    · have e3 := Prod.mk.inj (Option.some.inj (k2.symm.trans (h_190y k3 w1 ls hR0 g1)))
      rcases hx with ⟨k, x1, x2, x3⟩ | ⟨x1, x2, x3, -⟩
      · have ek : k = k' := w_F_u x1 w_f
        subst ek
        refine ⟨by rw [x2, e3.1], keep (fun id i hi => ?_) x3⟩
        rw [e3.2]
        exact fM' id i (fun h => hi h.1)
      · exact absurd (w_F_n w_f x1 ⟨x2, x3⟩) id
    · rcases hx with ⟨k, x1, x2, x3⟩ | ⟨x1, x2, x3, x4, dd, Mx, x5, x6⟩
      · exact absurd (w_F_n x1 wA ⟨wz, w7⟩) id
      · have g2 := r_tx_65 (d := (m : Int)) (x4 := 0) 1330 0 M' (by decide) (by decide)
        have g2' : E_V 190 65 [192, (m : Int), 0, 0, 0] M' = E_V 190 95 [192, (m : Int), 0, 1330, 0] (e_up (r_cp M' 193 204 0) 192 15 0) := g2
        rw [g2'] at g1
        obtain ⟨R, hR⟩ : ∃ R, e_up (r_cp M' 193 204 0) 192 15 0 = R := ⟨_, rfl⟩
        rw [hR] at g1
        have c0 : ∀ id i, id ≠ 204 → ¬ (id = 192 ∧ i = 15) → R id i = M' id i := fun id i h2 h3 => by
          rw [← hR]
          exact (c_up_n h3).trans (r_cp_n h2)
        have c4 : ∀ j, j < 1330 → R 204 j = M' 193 j := fun j hj => by
          rw [← hR]
          exact (c_up_n (fun hc => absurd hc.1 (by decide))).trans (r_cp_t hj)
        have c15 : R 192 15 = 0 := by rw [← hR]; exact c_up_s
        have aR2 : a_M R := by
          rw [← hR]
          exact r_up (by decide) (by decide +kernel) (by decide +kernel) (by decide) (r_cp_M ⟨by decide, by decide +kernel⟩ ⟨by decide, by decide +kernel, by decide +kernel⟩ yE.1)
        obtain ⟨-, -, -, y17, -, y16a, y16b, y8⟩ := yE
        have yR : y_B b n 0 R := ⟨aR2, c15, Nat.zero_le _, by rw [c0 _ _ (by decide) (by omega)]; exact y17, n120, by rw [c0 _ _ (by decide) (by omega)]; exact y16a, by rw [c0 _ _ (by decide) (by omega)]; exact y16b, fun i hi => by
          rw [c0 192 16 (by decide) (by omega), c0 _ _ (by decide) (by omega)]
          exact y8 i hi⟩
        have eGR : r_G R = r_G M := (funext fun i => (c0 _ _ (by decide) (by omega)).trans (fM' _ _ (by omega))).trans eG1
        have hp98 : r_G M 1198 = p := hB.1.symm.trans hp
        have hBN : h_B N0 0 (r_G R) := by
          rw [eGR]
          exact h_B_cg hB (f1 _ _ (by omega)) rfl (fun q _ => ⟨f1 _ _ (by omega), f1 _ _ (by omega), rfl, rfl⟩)
        have hCN : h_C N0 0 (r_G R) := by
          rw [eGR]
          exact fun q hq => h_Cq_cg (hC q hq) rfl (fun _ _ _ => rfl) (fun a _ => f1 _ _ (by omega)) (f1 _ _ (by omega)) (f1 _ _ (by omega)) (f1 _ _ (by omega))
        have hb98 : R 204 1198 = p := (c4 1198 (by decide)).trans ((fM' 193 1198 (by omega)).trans ((hfr _ _ (by decide)).trans hp98))
        obtain ⟨R', v1, v2, v3⟩ := h_run2 wA wz n120 x4 dd 0 N0 Mx R 0 (m : Int) 1330 0 r1 x5 (fun _ _ _ _ => rfl) hBN hCN (by rw [eGR, hp98]; rfl) hb98 yR (T0 2) (T0 7) (by
          rcases x6 with ⟨z1, -, z3⟩ | ⟨z1, z2, z3, -⟩
          · exact Or.inl ⟨z1, z3⟩
          · exact Or.inr ⟨z1, z2, z3⟩)
        have e3 := Prod.mk.inj (Option.some.inj (k2.symm.trans (h_190y k3 w1 ls hR0 (g1.trans v1))))
        refine ⟨e3.1.symm, ?_⟩
        rw [e3.2]
        have cc : ∀ id i, id < 192 → R id i = M1 id i := fun id i h => (c0 id i (by omega) (by omega)).trans (fM' id i (by omega))
        rcases x6 with ⟨z1, z2, z3⟩ | ⟨z1, z2, z3, z4⟩
        · obtain ⟨hx1, hx3, hx2⟩ := v2 z1
          have ec : ∀ id i, id < 192 → R' id i = Mx id i := fun id i h => (hx2 id i (by omega) (by omega)).trans ((cc id i h).trans (by rw [z2]))
          exact ⟨h_B_cg hx1 (ec _ _ (by decide)) rfl (fun q _ => ⟨ec _ _ (by decide), ec _ _ (by decide), rfl, rfl⟩), fun q hq => h_Cq_cg (hx3 q hq) rfl (fun _ _ _ => rfl) (fun a _ => ec _ _ (by decide)) (ec _ _ (by decide)) (ec _ _ (by decide)) (ec _ _ (by decide)), (ec _ _ (by decide)).trans (by rw [← z2]; exact f2)⟩
        · obtain ⟨hy1, hy2⟩ := v3 z1
          have ec : ∀ id i, id < 192 → R' id i = M1 id i := fun id i h => (hy2 id i (by omega) (by omega)).trans (cc id i h)
          have er : ∀ i : Int, 0 ≤ i → i < 1330 → r_G R' i = r_G M i := fun i i0 i1 => (hy1 i.toNat (by omega)).trans ((c4 i.toNat (by omega)).trans ((fM' _ _ (by omega)).trans (hfr _ _ (by decide))))
          have hg40 := hB.2.1.2
          refine ⟨h_B_cg hB ?_ (er 1198 (by decide) (by decide)) (fun q hq => ⟨?_, ?_, er _ (by omega) (by omega), er _ (by omega) (by omega)⟩), fun q hq => ?_, (ec _ _ (by decide)).trans f2⟩
          · exact (ec _ _ (by decide)).trans ((z4.2.2.2.2 _ _ (by omega) (by omega) (by omega)).trans (f1 _ _ (by omega)))
          · exact (ec _ _ (by decide)).trans ((z4.1 q (by omega)).1.trans (f1 _ _ (by omega)))
          · exact (ec _ _ (by decide)).trans ((z4.1 q (by omega)).2.2.1.trans (f1 _ _ (by omega)))
          · have e98 : r_G R' 1198 = r_G M 1198 := er 1198 (by decide) (by decide)
            rw [e98] at hq
            have z1 := z4.1 q (by omega)
            exact h_Cq_cg (hC q hq) (er _ (by omega) (by omega)) (fun d d0 d1 => er _ (by omega) (by omega)) (fun a ha => (ec _ _ (by decide)).trans ((z4.2.2.1 _ (by omega)).trans (f1 _ _ (by omega)))) ((ec _ _ (by decide)).trans (z1.2.2.2.2.1.trans (f1 _ _ (by omega)))) ((ec _ _ (by decide)).trans (z1.2.2.2.2.2.1.trans (f1 _ _ (by omega)))) ((ec _ _ (by decide)).trans (z1.2.2.2.2.2.2.trans (f1 _ _ (by omega))))
end
section
/-! PARTS and SHELVES related: what keeps it; the image -/
def h_in (c : Nat × Nat × Nat) (w : Nat × Nat × Nat) : Bool := decide (w.1 ≠ c.1) || decide (w.2.2 < c.2.1) || decide (c.2.2 < w.2.1)
def h_av (K W : AW) : Bool := K.all (fun c => W.all (fun w => h_in c w))
theorem h_av_ok {K W : AW} {M M' : EM} (h : h_av K W = true) (hf : a_fr W M M') : ∀ c ∈ K, ∀ k, c.2.1 ≤ k → k ≤ c.2.2 → M' c.1 k = M c.1 k := fun c hc k k0 k1 => hf _ _ (fun w hw e => by
  have h1 := List.all_eq_true.mp (List.all_eq_true.mp h c hc) w hw
  unfold h_in at h1
  simp only [Bool.or_eq_true, decide_eq_true_eq] at h1
  omega)
def h_KB : AW := [(10, 0, 0), (11, 0, 39), (13, 0, 39), (193, 1198, 1198)] ++ (List.range 40).map (fun q => (193, 28 * q, 28 * q + 1))
def h_KI : AW := [(78, 0, 0), (79, 0, 39), (81, 0, 39), (194, 1198, 1198)] ++ (List.range 40).map (fun q => (194, 28 * q, 28 * q + 1))
def h_KS : AW := [(195, 0, 7), (196, 0, 7), (197, 0, 7), (198, 0, 959)] ++ (List.range 8).flatMap (fun d => [(146 + 2 * d, 0, 1), (146 + 2 * d, 4, 5), (147 + 2 * d, 0, 119)])
theorem h_keepB {M M' : EM} (h : ∀ c ∈ h_KB, ∀ k, c.2.1 ≤ k → k ≤ c.2.2 → M' c.1 k = M c.1 k) (hB : h_B M 0 (r_G M)) : h_B M' 0 (r_G M') := by
  have h40 := hB.2.1.2
  refine h_B_cg hB (h (10, 0, 0) (by decide) 0 (by decide) (by decide)) (h (193, 1198, 1198) (by decide) 1198 (by decide) (by decide)) (fun q hq => ?_)
  have m : (193, 28 * q, 28 * q + 1) ∈ h_KB := List.mem_append.mpr (Or.inr (List.mem_map.mpr ⟨q, List.mem_range.mpr (by omega), rfl⟩))
  refine ⟨h (11, 0, 39) (by decide) q (Nat.zero_le _) (by show q ≤ 39; omega), h (13, 0, 39) (by decide) q (Nat.zero_le _) (by show q ≤ 39; omega), ?_, ?_⟩
  · have e := h _ m (28 * q) (Nat.le_refl _) (Nat.le_succ _)
    unfold r_G
    rw [show (28 * (q : Int)).toNat = 28 * q by omega]
    exact e
  · have e := h _ m (28 * q + 1) (Nat.le_succ _) (Nat.le_refl _)
    unfold r_G
    rw [show (28 * (q : Int) + 1).toNat = 28 * q + 1 by omega]
    exact e
theorem h_keepI {M M' : EM} (h : ∀ c ∈ h_KI, ∀ k, c.2.1 ≤ k → k ≤ c.2.2 → M' c.1 k = M c.1 k) (hB : h_B M 68 (r_Gi M)) : h_B M' 68 (r_Gi M') := by
  have h40 := hB.2.1.2
  refine h_B_cg hB (h (78, 0, 0) (by decide) 0 (by decide) (by decide)) (h (194, 1198, 1198) (by decide) 1198 (by decide) (by decide)) (fun q hq => ?_)
  have m : (194, 28 * q, 28 * q + 1) ∈ h_KI := List.mem_append.mpr (Or.inr (List.mem_map.mpr ⟨q, List.mem_range.mpr (by omega), rfl⟩))
  refine ⟨h (79, 0, 39) (by decide) q (Nat.zero_le _) (by show q ≤ 39; omega), h (81, 0, 39) (by decide) q (Nat.zero_le _) (by show q ≤ 39; omega), ?_, ?_⟩
  · have e := h _ m (28 * q) (Nat.le_refl _) (Nat.le_succ _)
    show M' 194 (28 * (q : Int)).toNat = M 194 (28 * (q : Int)).toNat
    rw [show (28 * (q : Int)).toNat = 28 * q by omega]
    exact e
  · have e := h _ m (28 * q + 1) (Nat.le_succ _) (Nat.le_refl _)
    show M' 194 (28 * (q : Int) + 1).toNat = M 194 (28 * (q : Int) + 1).toNat
    rw [show (28 * (q : Int) + 1).toNat = 28 * q + 1 by omega]
    exact e
theorem h_S_cg {M M' : EM} (hS : h_S M) (e : ∀ d : Nat, d < 8 → M' 195 d = M 195 d ∧ M' 196 d = M 196 d ∧ M' 197 d = M 197 d ∧ M' (146 + 2 * d) 0 = M (146 + 2 * d) 0 ∧ M' (146 + 2 * d) 1 = M (146 + 2 * d) 1 ∧ M' (146 + 2 * d) 4 = M (146 + 2 * d) 4 ∧ M' (146 + 2 * d) 5 = M (146 + 2 * d) 5 ∧ ∀ i, i < 120 → M' (147 + 2 * d) i = M (147 + 2 * d) i ∧ M' 198 (120 * d + i) = M 198 (120 * d + i)) : h_S M' := by
  intro d hd
  obtain ⟨a1, a2, a3, a4, a5, a6, a7, a8⟩ := e d hd
  rw [a1, a2, a3, a4, a5, a6, a7]
  rcases hS d hd with h | h | ⟨b1, b2, b3, b4, b5, b6⟩
  · exact Or.inl h
  · exact Or.inr (Or.inl h)
  · exact Or.inr (Or.inr ⟨b1, b2, b3, b4, b5, fun i hi => by rw [(a8 i hi).1, (a8 i hi).2]; exact b6 i hi⟩)
theorem h_keepS {M M' : EM} (h : ∀ c ∈ h_KS, ∀ k, c.2.1 ≤ k → k ≤ c.2.2 → M' c.1 k = M c.1 k) (hS : h_S M) : h_S M' := by
  refine h_S_cg hS (fun d hd => ?_)
  have m : ∀ c, c ∈ [(146 + 2 * d, 0, 1), (146 + 2 * d, 4, 5), (147 + 2 * d, 0, 119)] → c ∈ h_KS := fun c hc => List.mem_append.mpr (Or.inr (List.mem_flatMap.mpr ⟨d, List.mem_range.mpr hd, hc⟩))
  have m1 := h (146 + 2 * d, 0, 1) (m _ (by simp))
  have m2 := h (146 + 2 * d, 4, 5) (m _ (by simp))
  have m3 := h (147 + 2 * d, 0, 119) (m _ (by simp))
  refine ⟨h (195, 0, 7) (by decide) d (Nat.zero_le _) (by show d ≤ 7; omega), h (196, 0, 7) (by decide) d (Nat.zero_le _) (by show d ≤ 7; omega), h (197, 0, 7) (by decide) d (Nat.zero_le _) (by show d ≤ 7; omega), m1 0 (Nat.zero_le 0) (Nat.zero_le 1), m1 1 (Nat.zero_le 1) (Nat.le_refl 1), m2 4 (Nat.le_refl 4) (Nat.le_succ 4), m2 5 (Nat.le_succ 4) (Nat.le_refl 5), fun i hi => ⟨m3 i (Nat.zero_le _) (by show i ≤ 119; omega), h (198, 0, 959) (by decide) _ (Nat.zero_le _) (by show 120 * d + i ≤ 959; omega)⟩⟩
/-- all that is related -/
def h_R (M : EM) : Prop := p_R M ∧ h_B M 0 (r_G M) ∧ h_B M 68 (r_Gi M) ∧ h_S M ∧ M 165 0 = 0
theorem h_keep {W : AW} {M M' : EM} (h1 : p_av p_k1 W = true) (h2 : p_av p_k2 W = true) (h3 : h_av h_KB W = true) (h4 : h_av h_KI W = true) (h5 : h_av h_KS W = true) (h6 : h_av [(165, 0, 0)] W = true) (hf : a_fr W M M') (hR : h_R M) : h_R M' := by
  obtain ⟨r1, r2, r3, r4, r5⟩ := hR
  refine ⟨p_keep h1 h2 hf r1, h_keepB (h_av_ok h3 hf) r2, h_keepI (h_av_ok h4 hf) r3, h_keepS (h_av_ok h5 hf) r4, ?_⟩
  rw [h_av_ok h6 hf (165, 0, 0) List.mem_cons_self 0 (Nat.le_refl _) (Nat.le_refl _)]
  exact r5
/-- what the image's copies cover -/
theorem h_cov : (∃ w ∈ p_D48, w.1 = 10 ∧ w.2.1 ≤ 0 ∧ 0 ≤ w.2.2) ∧ (∃ w ∈ p_D48, w.1 = 11 ∧ w.2.1 = 0 ∧ 39 ≤ w.2.2) ∧ (∃ w ∈ p_D48, w.1 = 13 ∧ w.2.1 = 0 ∧ 39 ≤ w.2.2) := by decide +kernel
theorem h_cp {so to : Nat} {M M1 : EM} (c : p_C so to p_D48 M M1) : M1 (10 + to) 0 = M (10 + so) 0 ∧ ∀ q, q < 40 → M1 (11 + to) q = M (11 + so) q ∧ M1 (13 + to) q = M (13 + so) q := by
  obtain ⟨⟨w, w1, w2, w3, w4⟩, ⟨v, v1, v2, v3, v4⟩, ⟨u, u1, u2, u3, u4⟩⟩ := h_cov
  refine ⟨?_, fun q hq => ⟨?_, ?_⟩⟩
  · have := c.1 w w1 0 w3 w4
    rw [w2] at this
    exact this
  · have := c.1 v v1 q (by omega) (by omega)
    rw [v2] at this
    exact this
  · have := c.1 u u1 q (by omega) (by omega)
    rw [u2] at this
    exact this
theorem h_image {r1 r2 : Int} {M M1 M2 : EM} (hB : h_B M 0 (r_G M)) (k1 : E_C 136 [8] M = some (r1, M1)) (k2 : E_C 255 [192] M1 = some (r2, M2)) : r1 = r2 ∧ h_B M2 0 (r_G M2) ∧ h_B M2 68 (r_Gi M2) := by
  obtain ⟨N, c1, c2⟩ := p_image M
  have e1 := Prod.mk.inj (Option.some.inj (k1.symm.trans c1))
  obtain ⟨e1, e2⟩ := e1
  subst e1
  subst e2
  have e3 := Prod.mk.inj (Option.some.inj (k2.symm.trans (r_image _)))
  obtain ⟨e3, e4⟩ := e3
  obtain ⟨p0, p1⟩ := h_cp c2
  have far : ∀ id j, id < 78 ∨ 145 < id → N id j = M id j := fun id j h => c2.2.1 _ _ (fun w hw e => by have := c2.2.2 w hw; omega)
  have h40 := hB.2.1.2
  have z : ∀ id j, id ≠ 8 → id ≠ 192 → id ≠ 194 → M2 id j = N id j := fun id j a b c => by
    rw [e4, c_up_n (fun e => b e.1), r_cp_n c, c_up_n (fun e => a e.1)]
  have zi : ∀ j, j < 1330 → M2 194 j = M 193 j := fun j hj => by
    rw [e4, c_up_n (fun e => by omega), r_cp_t hj, c_up_n (fun e => by omega)]
    exact far _ _ (by omega)
  have eG : r_G M2 = r_G M := funext fun i => (z _ _ (by decide) (by decide) (by decide)).trans (far _ _ (by omega))
  refine ⟨?_, ?_, ?_⟩
  · rw [e3]
    exact hB.1.trans ((far 193 1198 (by omega)).symm.trans (c_up_n (fun e => by omega)).symm)
  · rw [eG]
    exact h_B_cg hB ((z _ _ (by decide) (by decide) (by decide)).trans (far _ _ (by omega))) rfl (fun q _ => ⟨(z _ _ (by decide) (by decide) (by decide)).trans (far _ _ (by omega)), (z _ _ (by decide) (by decide) (by decide)).trans (far _ _ (by omega)), rfl, rfl⟩)
  · obtain ⟨b1, b2, b3⟩ := hB
    have eg : ∀ i : Int, 0 ≤ i → i < 1330 → r_Gi M2 i = r_G M i := fun i i0 i1 => zi i.toNat (by omega)
    rw [show h_B M2 68 (r_Gi M2) = h_B M2 68 (r_Gi M2) from rfl]
    refine ⟨?_, ?_, fun q hq => ?_⟩
    · rw [eg _ (by decide) (by decide), ← b1]
      exact (z 78 0 (by decide) (by decide) (by decide)).trans p0
    · rw [eg _ (by decide) (by decide)]; exact b2
    · have e98 := eg 1198 (by decide) (by decide)
      rw [e98] at hq ⊢
      obtain ⟨a1, a2, a3, a4⟩ := b3 q hq
      rw [eg _ (by omega) (by omega), eg _ (by omega) (by omega)]
      exact ⟨(z 79 q (by decide) (by decide) (by decide)).trans ((p1 q (by omega)).1.trans a1), (z 81 q (by decide) (by decide) (by decide)).trans ((p1 q (by omega)).2.trans a2), a3, a4⟩
theorem h_restore {r1 r2 : Int} {M M1 M2 : EM} (hfl : M 8 2 = M 192 9) (hB : h_B M 0 (r_G M)) (hI : h_B M 68 (r_Gi M)) (k1 : E_C 137 [8] M = some (r1, M1)) (k2 : E_C 256 [192] M1 = some (r2, M2)) : r1 = r2 ∧ h_B M2 0 (r_G M2) ∧ h_B M2 68 (r_Gi M2) := by
  by_cases z : M 8 2 = 0
  · have e1 := Prod.mk.inj (Option.some.inj (k1.symm.trans (p_restore0 z)))
    obtain ⟨e1, e2⟩ := e1
    subst e1
    subst e2
    rw [r_restore, if_pos (hfl ▸ z)] at k2
    have e3 := Prod.mk.inj (Option.some.inj k2)
    rw [← e3.1, ← e3.2]
    exact ⟨rfl, hB, hI⟩
  · obtain ⟨N, c1, c2⟩ := p_restore z
    have e1 := Prod.mk.inj (Option.some.inj (k1.symm.trans c1))
    obtain ⟨e1, e2⟩ := e1
    subst e2
    have far : ∀ id j, id < 10 ∨ 76 < id → M1 id j = M id j := fun id j h => c2.2.1 _ _ (fun w hw e => by have := c2.2.2 w hw; omega)
    have z2 : ¬ M1 192 9 = 0 := by rw [far _ _ (by omega), ← hfl]; exact z
    rw [r_restore, if_neg z2] at k2
    have e3 := Prod.mk.inj (Option.some.inj k2)
    obtain ⟨e3, e4⟩ := e3
    obtain ⟨p0, p1⟩ := h_cp c2
    have h40 := hI.2.1.2
    have w1 : ∀ id j, id ≠ 193 → M2 id j = M1 id j := fun id j h => by rw [← e4]; exact r_cp_n h
    have w2 : ∀ j, j < 1330 → M2 193 j = M 194 j := fun j hj => by rw [← e4, r_cp_t hj]; exact far _ _ (by omega)
    have eg : ∀ i : Int, 0 ≤ i → i < 1330 → r_G M2 i = r_Gi M i := fun i i0 i1 => w2 i.toNat (by omega)
    have ei : r_Gi M2 = r_Gi M := funext fun i => (w1 _ _ (by decide)).trans (far _ _ (by omega))
    obtain ⟨b1, b2, b3⟩ := hI
    refine ⟨?_, ⟨?_, ?_, fun q hq => ?_⟩, ?_⟩
    · rw [e1, ← e3]
      have h1 : r_cp M1 194 193 0 193 1198 = M 194 1198 := (r_cp_t (by decide)).trans (far _ _ (by omega))
      rw [h1]
      exact p0.trans b1
    · rw [eg _ (by decide) (by decide), ← b1]
      exact (w1 10 0 (by decide)).trans p0
    · rw [eg _ (by decide) (by decide)]; exact b2
    · have e98 := eg 1198 (by decide) (by decide)
      rw [e98] at hq ⊢
      obtain ⟨a1, a2, a3, a4⟩ := b3 q hq
      rw [eg _ (by omega) (by omega), eg _ (by omega) (by omega)]
      exact ⟨(w1 11 q (by decide)).trans ((p1 q (by omega)).1.trans a1), (w1 13 q (by decide)).trans ((p1 q (by omega)).2.trans a2), a3, a4⟩
    · rw [ei]
      exact h_B_cg ⟨b1, b2, b3⟩ ((w1 _ _ (by decide)).trans (far _ _ (by omega))) rfl (fun q _ => ⟨(w1 _ _ (by decide)).trans (far _ _ (by omega)), (w1 _ _ (by decide)).trans (far _ _ (by omega)), rfl, rfl⟩)
end
