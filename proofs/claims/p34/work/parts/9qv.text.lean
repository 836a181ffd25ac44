/-! text: class and reference side by side -/
theorem h_190n {d z : Int} {M : EM} (k : E_C 189 [192, d, 0] M = some (z, M)) (hz : z ≠ 0) : E_C 190 [192, d] M = some (z, M) := by
  rw [r_ent (show e_rok 190 [192, d] = true from decide_eq_true r_ref)]
  show e_tv E_C (E_V 190) e_t190_0 [192, d, 0, 0, 0] M = _
  unfold e_t190_0
  simp [e_tv, e_ev, e_sv, e_b1, e_b2, x_o1, x_o2, k, hz]
theorem h_190y {d b n : Int} {M R0 : EM} {o : EO} (k : E_C 189 [192, d, 0] M = some (0, M)) (w : e_w (120 * d) = b) (l : e_op 60 [197, d] (e_up M 192 16 b) = some n) (hR : e_up (e_up (e_up M 192 16 b) 192 17 n) 192 15 0 = R0) (g : E_V 190 36 [192, d, 0, 0, 0] R0 = o) : E_C 190 [192, d] M = o := by
  rw [r_ent (show e_rok 190 [192, d] = true from decide_eq_true r_ref)]
  show e_tv E_C (E_V 190) e_t190_0 [192, d, 0, 0, 0] M = _
  unfold e_t190_0
  simp [e_tv, e_ev, e_sv, e_b1, e_b2, x_o1, x_o2, r_O4, r_P15, r_P16, r_P17, k, w, l, hR, g]
theorem h_B_cg {M M' : EM} {dc : Nat} {g g' : Int → Int} (h : h_B M dc g) (e0 : M' (10 + dc) 0 = M (10 + dc) 0) (eg : g' 1198 = g 1198) (e : ∀ q : Nat, (q : Int) < g 1198 → M' (11 + dc) q = M (11 + dc) q ∧ M' (13 + dc) q = M (13 + dc) q ∧ g' (28 * (q : Int)) = g (28 * (q : Int)) ∧ g' (28 * (q : Int) + 1) = g (28 * (q : Int) + 1)) : h_B M' dc g' := by
  obtain ⟨h1, h2, h3⟩ := h
  refine ⟨by rw [e0, eg]; exact h1, by rw [eg]; exact h2, fun q hq => ?_⟩
  rw [eg] at hq
  obtain ⟨a, b, c, d⟩ := e q hq
  rw [a, b, c, d, eg]
  exact h3 q hq
theorem h_text {d r1 r2 : Int} {M M1 M2 : EM} (hJ : r_J M) (hB : h_B M 0 (r_G M)) (hS : h_S M) (h0 : M 165 0 = 0) (k1 : E_C 104 [8, d] M = some (r1, M1)) (J1 : r_J M1) (hfr : ∀ id i, 192 ≤ id → M1 id i = M id i) (k2 : E_C 190 [192, d] M1 = some (r2, M2)) : r1 = r2 ∧ h_B M2 0 (r_G M2) ∧ M2 165 0 = 0 := by
  obtain ⟨r, M1', c1, tx⟩ := h_class (d := d) hJ hB hS h0
  have e1 := Prod.mk.inj (Option.some.inj (k1.symm.trans c1))
  obtain ⟨e1, e2⟩ := e1
  subst e1
  subst e2
  have eno : h_no M1 d 0 = h_no M d 0 := by
    unfold h_no
    rw [hfr 195 _ (by decide), hfr 196 _ (by decide)]
  have k3 := h_189 (d := d) (w := 0) (M := M1) (by decide)
  rw [eno] at k3
  have eG1 : r_G M1 = r_G M := funext fun i => hfr _ _ (by decide)
  rcases tx with ⟨q, q1, q2⟩ | ⟨q, b, n, p, N0, hb, hn, n120, hp, f1, f2, hx⟩
  · have k4 := h_190n k3 q
    have e3 := Prod.mk.inj (Option.some.inj (k2.symm.trans k4))
    refine ⟨by rw [q1, e3.1], ?_, ?_⟩
    · rw [e3.2, q2]; exact hB
    · rw [e3.2, q2]; exact h0
  · rw [q] at k3
    have hd : 0 ≤ d ∧ d < 8 := by
      by_cases c : 0 ≤ d ∧ d < 8
      · exact c
      · unfold h_no at q
        rw [if_neg c] at q
        exact absurd q (by decide)
    obtain ⟨m, rfl⟩ : ∃ m : Nat, d = m := ⟨d.toNat, by omega⟩
    rw [Int.toNat_natCast] at hb hn
    have m8 : m < 8 := by omega
    have kept : M 195 m = 2 := by
      unfold h_no at q
      rw [if_pos hd, Int.toNat_natCast] at q
      by_cases c : M 195 m = 0
      · rw [if_pos c] at q; exact absurd q (by decide)
      · rw [if_neg c] at q
        by_cases c2 : M 195 m = 2 ∧ ((0 : Int) = -1 ∨ 0 = M 196 m)
        · exact c2.1
        · rw [if_neg c2] at q; exact absurd q (by decide)
    have hrow : M (146 + 2 * m) 5 = M 197 m ∧ ∀ i, i < 120 → M (147 + 2 * m) i = M 198 (120 * m + i) := by
      rcases hS m m8 with ⟨a, -⟩ | ⟨a, -⟩ | ⟨a, -, -, -, e5, e6⟩
      · omega
      · omega
      · exact ⟨e5, e6⟩
    have w1 : e_w (120 * (m : Int)) = 120 * (m : Int) := by
      clear k1 k2 k3 c1 hx hB hS hJ J1 hfr f1 f2 hb hn hrow q
      exact a_w_id (by omega) (by omega)
    have e97 : (e_up M1 192 16 (120 * (m : Int))) 197 m = (n : Int) := (c_up_n (fun hc => absurd hc.1 (by decide))).trans ((hfr 197 m (by decide)).trans (hrow.1.symm.trans hn.symm))
    have ls : e_op 60 [197, (m : Int)] (e_up M1 192 16 (120 * (m : Int))) = some (n : Int) := ((r_isD (m : Int) _ (by omega)).2.2.1).trans (congrArg some e97)
    obtain ⟨R0, hR0⟩ : ∃ R0, e_up (e_up (e_up M1 192 16 (120 * (m : Int))) 192 17 (n : Int)) 192 15 0 = R0 := ⟨_, rfl⟩
    have fR : ∀ id i, ¬ (id = 192 ∧ (15 ≤ i ∧ i ≤ 18)) → R0 id i = M1 id i := fun id i h => by
      rw [← hR0]
      exact (c_up_n (fun hc => h ⟨hc.1, by omega⟩)).trans ((c_up_n (fun hc => h ⟨hc.1, by omega⟩)).trans (c_up_n (fun hc => h ⟨hc.1, by omega⟩)))
    have p15 : R0 192 15 = 0 := by rw [← hR0]; exact c_up_s
    have p16 : R0 192 16 = 120 * (m : Int) := by rw [← hR0]; exact (r_ff (by decide)).trans ((r_ff (by decide)).trans c_up_s)
    have p17 : R0 192 17 = (n : Int) := by rw [← hR0]; exact (r_ff (by decide)).trans c_up_s
    have aR : a_M R0 := by
      rw [← hR0]
      exact r_up (by decide) (by decide +kernel) (by decide +kernel) ⟨by omega, by omega⟩ (r_up (by decide) (by decide +kernel) (by decide +kernel) ⟨by omega, by omega⟩ (r_up (by decide) (by decide +kernel) (by decide +kernel) ⟨by omega, by omega⟩ J1.1))
    have yB : y_B b n 0 R0 := ⟨aR, p15, Nat.zero_le _, p17, n120, by omega, by omega, fun i hi => by
      rw [fR _ _ (by omega), p16, hfr _ _ (by decide), show (120 * (m : Int)).toNat = 120 * m by omega, hb]
      exact (hrow.2 i (by omega)).symm⟩
    have T0 : ∀ j, w_T b 0 j = 0 := fun _ => rfl
    obtain ⟨M', tt, res⟩ := y_36 (d := (m : Int)) (x3 := 0) (x4 := 0) n 0 R0 (by omega) yB (fun j hj => absurd hj (Nat.not_lt_zero _)) (T0 2) (fun e => by
      subst e
      rw [T0]
      decide)
    have fM' : ∀ id i, ¬ (id = 192 ∧ (15 ≤ i ∧ i ≤ 18)) → M' id i = M1 id i := fun id i h => (tt.2.1 id i (by omega)).trans (fR id i h)
    have keep : (∀ id i, id ≠ 192 → M2 id i = M1 id i) → M1 = N0 → h_B M2 0 (r_G M2) ∧ M2 165 0 = 0 := fun hM2 e => by
      have eG2 : r_G M2 = r_G M := (funext fun i => hM2 _ _ (by decide)).trans eG1
      have ec : ∀ id i, id < 162 → M2 id i = M id i := fun id i hi => (hM2 id i (by omega)).trans (by rw [e]; exact f1 id i (Or.inl hi))
      refine ⟨?_, (hM2 _ _ (by decide)).trans f2⟩
      rw [eG2]
      exact h_B_cg hB (ec _ _ (by decide)) rfl (fun q _ => ⟨ec _ _ (by decide), ec _ _ (by decide), rfl, rfl⟩)
    rcases res with ⟨k', w_f, g1⟩ | ⟨wA, wz, w7, yE, g1⟩
    · have e3 := Prod.mk.inj (Option.some.inj (k2.symm.trans (h_190y k3 w1 ls hR0 g1)))
      rcases hx with ⟨k, x1, x2, x3⟩ | ⟨x1, x2, x3, -⟩
      · have ek : k = k' := w_F_u x1 w_f
        subst ek
        refine ⟨by rw [x2, e3.1], keep (fun id i hi => ?_) x3⟩
        rw [e3.2]
        exact fM' id i (fun h => hi h.1)
      · exact absurd (w_F_n w_f x1 ⟨x2, x3⟩) id
    · rcases hx with ⟨k, x1, x2, x3⟩ | ⟨x1, x2, x3, x4, dd, Mx, x5, x6⟩
      · exact absurd (w_F_n x1 wA ⟨wz, w7⟩) id
      · have g2 := r_tx_65 (d := (m : Int)) (x4 := 0) 1330 0 M' (by decide) (by decide)
        have g2' : E_V 190 65 [192, (m : Int), 0, 0, 0] M' = E_V 190 95 [192, (m : Int), 0, 1330, 0] (e_up (r_cp M' 193 204 0) 192 15 0) := g2
        rw [g2'] at g1
        obtain ⟨R, hR⟩ : ∃ R, e_up (r_cp M' 193 204 0) 192 15 0 = R := ⟨_, rfl⟩
        rw [hR] at g1
        have c0 : ∀ id i, id ≠ 204 → ¬ (id = 192 ∧ i = 15) → R id i = M' id i := fun id i h2 h3 => by
          rw [← hR]
          exact (c_up_n h3).trans (r_cp_n h2)
        have c4 : ∀ j, j < 1330 → R 204 j = M' 193 j := fun j hj => by
          rw [← hR]
          exact (c_up_n (fun hc => absurd hc.1 (by decide))).trans (r_cp_t hj)
        have c15 : R 192 15 = 0 := by rw [← hR]; exact c_up_s
        have aR2 : a_M R := by
          rw [← hR]
          exact r_up (by decide) (by decide +kernel) (by decide +kernel) (by decide) (r_cp_M ⟨by decide, by decide +kernel⟩ ⟨by decide, by decide +kernel, by decide +kernel⟩ yE.1)
        obtain ⟨-, -, -, y17, -, y16a, y16b, y8⟩ := yE
        have yR : y_B b n 0 R := ⟨aR2, c15, Nat.zero_le _, by rw [c0 _ _ (by decide) (by omega)]; exact y17, n120, by rw [c0 _ _ (by decide) (by omega)]; exact y16a, by rw [c0 _ _ (by decide) (by omega)]; exact y16b, fun i hi => by
          rw [c0 192 16 (by decide) (by omega), c0 _ _ (by decide) (by omega)]
          exact y8 i hi⟩
        have eGR : r_G R = r_G M := (funext fun i => (c0 _ _ (by decide) (by omega)).trans (fM' _ _ (by omega))).trans eG1
        have hp98 : r_G M 1198 = p := hB.1.symm.trans hp
        have hBN : h_B N0 0 (r_G R) := by
          rw [eGR]
          exact h_B_cg hB (f1 _ _ (by omega)) rfl (fun q _ => ⟨f1 _ _ (by omega), f1 _ _ (by omega), rfl, rfl⟩)
        have hb98 : R 204 1198 = p := (c4 1198 (by decide)).trans ((fM' 193 1198 (by omega)).trans ((hfr _ _ (by decide)).trans hp98))
        obtain ⟨R', v1, v2, v3⟩ := h_run wA wz n120 x4 dd 0 N0 Mx R 0 (m : Int) 1330 0 r1 x5 (fun _ _ _ _ => rfl) hBN (by rw [eGR, hp98]; rfl) hb98 yR (T0 2) (T0 7) (by
          rcases x6 with ⟨z1, -, z3⟩ | ⟨z1, z2, z3, -⟩
          · exact Or.inl ⟨z1, z3⟩
          · exact Or.inr ⟨z1, z2, z3⟩)
        have e3 := Prod.mk.inj (Option.some.inj (k2.symm.trans (h_190y k3 w1 ls hR0 (g1.trans v1))))
        refine ⟨e3.1.symm, ?_⟩
        rw [e3.2]
        have cc : ∀ id i, id < 192 → R id i = M1 id i := fun id i h => (c0 id i (by omega) (by omega)).trans (fM' id i (by omega))
        rcases x6 with ⟨z1, z2, z3⟩ | ⟨z1, z2, z3, z4⟩
        · obtain ⟨hx1, hx2⟩ := v2 z1
          have ec : ∀ id i, id < 192 → R' id i = Mx id i := fun id i h => (hx2 id i (by omega) (by omega)).trans ((cc id i h).trans (by rw [z2]))
          exact ⟨h_B_cg hx1 (ec _ _ (by decide)) rfl (fun q _ => ⟨ec _ _ (by decide), ec _ _ (by decide), rfl, rfl⟩), (ec _ _ (by decide)).trans (by rw [← z2]; exact f2)⟩
        · obtain ⟨hy1, hy2⟩ := v3 z1
          have ec : ∀ id i, id < 192 → R' id i = M1 id i := fun id i h => (hy2 id i (by omega) (by omega)).trans (cc id i h)
          have er : ∀ i : Int, 0 ≤ i → i < 1330 → r_G R' i = r_G M i := fun i i0 i1 => (hy1 i.toNat (by omega)).trans ((c4 i.toNat (by omega)).trans ((fM' _ _ (by omega)).trans (hfr _ _ (by decide))))
          have hg40 := hB.2.1.2
          refine ⟨h_B_cg hB ?_ (er 1198 (by decide) (by decide)) (fun q hq => ⟨?_, ?_, er _ (by omega) (by omega), er _ (by omega) (by omega)⟩), (ec _ _ (by decide)).trans f2⟩
          · exact (ec _ _ (by decide)).trans ((z4.2.2.2.2 _ _ (by omega) (by omega) (by omega)).trans (f1 _ _ (by omega)))
          · exact (ec _ _ (by decide)).trans ((z4.1 q (by omega)).1.trans (f1 _ _ (by omega)))
          · exact (ec _ _ (by decide)).trans ((z4.1 q (by omega)).2.2.1.trans (f1 _ _ (by omega)))
