/-! CURRENT at a PUSH, PUSH at a CURRENT: the two answers -/
section AXC
variable {M M1 M2 : EM} {p u r1 r2 : Int}
/-- the class's currentOf -/
theorem ax_158 {p : Nat} (h : hd_all M) (hp : (p : Int) < r_G M 1198) (hu : -1000 ≤ u ∧ u ≤ 1000) : ∃ M', E_C 158 [8, (p : Int), u] M = some (ax_S (r_G M) (p : Int) u, M') ∧ M' 171 0 = 0 ∧ ∀ id, id < 162 → M' id = M id := by
  obtain ⟨N, k, hX, hS, hN, h7, e, h0⟩ := ax_1 h hp
  obtain ⟨hB, hC, hD, h171⟩ := h
  obtain ⟨⟨L1, L6⟩, ok, hoc, hog⟩ := hX
  obtain ⟨n1, n2, n3, n4, n5, n6⟩ := hN
  obtain ⟨A, a1, a2, a3⟩ := bx_draw hB.2.1.2 hD e hoc n1 n2 n3 n4 n5 n6
  obtain ⟨B, b1, b2, b3, b4⟩ := bx_cur (lo := u) (hi := u) (n := 1) hD (hd_bd hC) ok L6 hoc hog a2 hu (by omega) (by decide)
  have c := bx_19 (M := B) (u := u) (lo := u) (k := 0) b2 hu (by omega) (by decide)
  have v : B 181 0 = ax_S (r_G M) (p : Int) u := (b3 0 (by decide)).trans (by
    show cu_S _ (u + 0) _ = _
    rw [Int.add_zero]
    rfl)
  rw [v] at c
  refine ⟨B, ?_, (b4 _ _ (by decide) (by decide) (by omega)).trans ((a3 _ _ (by decide)).trans h0), fun id hid => funext fun j => (b4 _ _ (by omega) (by omega) (by omega)).trans ((a3 _ _ (by omega)).trans (congrFun (e id hid) j))⟩
  clear v b3 a2 n1 n5 n6 ok hoc hog
  generalize ax_S (r_G M) (p : Int) u = z at c ⊢
  generalize (p : Int) = pp at k ⊢
  have s0 : E_C 158 [8, pp, u] M = e_tv E_C (E_V 158) e_t158_0 [8, pp, u] M := r_ent (u := 158) (as := [8, pp, u]) (M := M) (decide_eq_true c_this)
  rw [s0]
  unfold e_t158_0
  simp [e_tv, e_ev, e_sv, e_b1, e_b2, x_o1, x_o2, ax_bench, k, a1, b1, c]
theorem ax_110 (h : hd_all M) : ∃ r M', E_C 110 [8, p, u] M = some (r, M') ∧ M' 171 0 = 0 ∧ r = if (0 ≤ p ∧ p < r_G M 1198) ∧ -50 ≤ u ∧ u ≤ 999 then ax_S (r_G M) p u else -1 := by
  have h10 : M 10 0 = r_G M 1198 := h.1.1
  have i := h_149 (k := p) (M := M)
  rw [h10] at i
  have s0 : E_C 110 [8, p, u] M = e_tv E_C (E_V 110) e_t110_0 [8, p, u] M := r_ent (u := 110) (as := [8, p, u]) (M := M) (decide_eq_true c_this)
  rw [s0]
  unfold e_t110_0
  by_cases c : 0 ≤ p ∧ p < r_G M 1198
  · rw [if_pos c] at i
    rcases x_le (-50) u with ⟨c0, c0_n⟩ | ⟨c0, c0_n⟩
    · rcases x_lt 999 u with ⟨c2, c2_n⟩ | ⟨c2, c2_n⟩
      · refine ⟨-1, M, ?_, h.2.2.2, (if_neg (fun e => by omega)).symm⟩
        simp [e_tv, e_ev, e_sv, e_b1, e_b2, x_o1, x_o2, i, c0, c0_n, c2, c2_n]
      · obtain ⟨q, rfl⟩ : ∃ q : Nat, p = q := ⟨p.toNat, by omega⟩
        obtain ⟨M', k, m0, -⟩ := ax_158 (u := u) h c.2 ⟨by omega, by omega⟩
        rw [if_pos ⟨c, c0, by omega⟩]
        refine ⟨_, M', ?_, m0, rfl⟩
        simp [e_tv, e_ev, e_sv, e_b1, e_b2, x_o1, x_o2, i, c0, c0_n, c2, c2_n, k]
    · refine ⟨-1, M, ?_, h.2.2.2, (if_neg (fun e => by omega)).symm⟩
      simp [e_tv, e_ev, e_sv, e_b1, e_b2, x_o1, x_o2, i, c0, c0_n]
  · rw [if_neg c] at i
    refine ⟨-1, M, ?_, h.2.2.2, (if_neg (fun e => c e.1)).symm⟩
    simp [e_tv, e_ev, e_sv, e_b1, e_b2, x_o1, x_o2, i]
theorem ax_207 {g : Int → Int} (hG : r_G M1 = g) (J1 : r_J M1) (K1 : rx_K M1) (hcs : hd_cs g) (hcv : hd_cvs g) : E_C 207 [192, p, u] M1 = some (if (0 ≤ p ∧ p < g 1198) ∧ -50 ≤ u ∧ u ≤ 999 then ax_S g p u else -1, M1) := by
  have hW := (r_J_E J1).2.1
  by_cases c : 0 ≤ p ∧ p < g 1198
  · have ip := r_ip1 hW (by rw [hG]; exact c)
    by_cases cw : -50 ≤ u ∧ u ≤ 999
    · have iw := r_in1 (M := M1) cw
      have hm := rx_MD_md (rx_MD0 hG K1 J1.2.2.2.2 hcs)
      have hW' := hW
      rw [hG] at hW'
      have k := rx_currentOf (b := g 1198) (p := p) (u := u) hm (by rw [hG]; exact hcv) hW'.2.1 (by rw [hG]; exact Int.le_refl _) (by rw [hG]; exact hW'.2.2.1 p c.1 c.2)
      rw [hG] at k
      have k' : E_C 202 [192, p, u] M1 = some (ax_S g p u, M1) := k
      rw [if_pos ⟨c, cw⟩]
      rw [r_ent (show e_rok 207 [192, p, u] = true from decide_eq_true r_ref)]
      show e_tv E_C (E_V 207) e_t207_0 [192, p, u] M1 = _
      unfold e_t207_0
      simp [e_tv, e_ev, e_sv, e_b1, e_b2, x_o1, x_o2, ip, iw, k']
    · have iw := r_in0 (M := M1) cw
      rw [if_neg (fun e => cw e.2)]
      rw [r_ent (show e_rok 207 [192, p, u] = true from decide_eq_true r_ref)]
      show e_tv E_C (E_V 207) e_t207_0 [192, p, u] M1 = _
      unfold e_t207_0
      simp [e_tv, e_ev, e_sv, e_b1, e_b2, x_o1, x_o2, ip, iw]
  · have ip := r_ip0 hW (show ¬ (0 ≤ p ∧ p < r_G M1 1198) by rw [hG]; exact c)
    rw [if_neg (fun e => c e.1)]
    rw [r_ent (show e_rok 207 [192, p, u] = true from decide_eq_true r_ref)]
    show e_tv E_C (E_V 207) e_t207_0 [192, p, u] M1 = _
    unfold e_t207_0
    simp [e_tv, e_ev, e_sv, e_b1, e_b2, x_o1, x_o2, ip]
theorem ax_current (h : hd_all M) (J1 : r_J M1) (K1 : rx_K M1) (hfr : ∀ i, M1 193 i = M 193 i) (k1 : E_C 110 [8, p, u] M = some (r1, M1)) (k2 : E_C 207 [192, p, u] M1 = some (r2, M2)) : r1 = r2 ∧ M1 171 0 = 0 := by
  have eG : r_G M1 = r_G M := funext fun i => hfr _
  obtain ⟨r, M', a1, a2, a3⟩ := ax_110 (p := p) (u := u) h
  have b1 := ax_207 (p := p) (u := u) eG J1 K1 (hd_cs_of h.2.1) (hd_cvs_of h.2.2.1)
  obtain ⟨e1, e2⟩ := Prod.mk.inj (Option.some.inj (k1.symm.trans a1))
  obtain ⟨f1, f2⟩ := Prod.mk.inj (Option.some.inj (k2.symm.trans b1))
  exact ⟨by rw [e1, f1, a3], by rw [e2]; exact a2⟩
end AXC
