/-! box: the two answers; what BOXES seek by stays related -/
def ax_b (M : EM) (s : Nat) (a b : Int) : EM := e_up (e_up (e_up (e_up (e_up M s 0 a) s 1 b) s 2 0) s 3 0) s 4 0
def ax_Bq (w v : Int) : Prop := (w = 0 ∧ 0 ≤ v ∧ v ≤ 500) ∨ (w = 1 ∧ 1 ≤ v ∧ v ≤ 40)
/-- what one BOX seeks by has changed -/
theorem hd_box {M M' : EM} {q : Nat} (hD : hd_D M 0 (r_G M)) (k3 : r_G M (28 * (q : Int)) = 3) (hq : (q : Int) < r_G M 1198) (h40 : r_G M 1198 ≤ 40) (hg : ∀ x : Int, 0 ≤ x → (x < 28 * (q : Int) + 4 ∨ 28 * (q : Int) + 9 ≤ x) → r_G M' x = r_G M x) (hc : ∀ id k, id < 162 → id ≠ 37 + q → M' id k = M id k) (he : hd_e3 M' 0 (r_G M') q) : hd_D M' 0 (r_G M') := by
  have q40 : q < 40 := by omega
  intro t ht
  rw [hg 1198 (by decide) (by omega)] at ht
  by_cases e : t = q
  · subst e
    obtain ⟨-, -, -, d3⟩ := hD t hq
    obtain ⟨⟨b1, b2, b3, b4, b5⟩, -⟩ := d3 k3
    have z3 : ∀ i : Nat, i < 1 → r_G M' (28 * (t : Int) + 3 + (i : Int)) = r_G M (28 * (t : Int) + 3 + (i : Int)) := fun i hi => hg _ (by omega) (by omega)
    obtain ⟨f1, f2⟩ := hd_mb_cg (dc' := 0) b4 (by decide : 0 < 1) (by decide) z3 (fun m m0 m1 => ⟨hg _ (by omega) (by omega), fun _ => hg _ (by omega) (by omega)⟩) (hc _ _ (by decide) (by omega))
    have e0 : r_G M' (28 * (t : Int)) = 3 := (hg _ (by omega) (by omega)).trans k3
    refine ⟨fun h => absurd (e0.symm.trans h) (by decide), fun h => absurd (e0.symm.trans h) (by decide), fun h => absurd (e0.symm.trans h) (by decide), fun _ => ⟨⟨(hg _ (by omega) (by omega)).trans b1, (hc _ _ (by decide) (by omega)).trans b2, (hc _ _ (by decide) (by omega)).trans b3, f1, by rw [f2]; exact b5⟩, he⟩⟩
  · exact hd_q_cg (hD t ht) ⟨hg _ (by omega) (by omega), hg _ (by omega) (by omega), fun d d0 d1 _ _ => hg _ (by omega) (by omega)⟩ (fun m m0 m1 => ⟨hg _ (by omega) (by omega), fun _ => hg _ (by omega) (by omega)⟩) ⟨hc _ _ (by decide) (by omega), hc _ _ (by decide) (by omega), fun k _ => ⟨hc _ _ (by decide) (by omega), hc _ _ (by decide) (by omega), hc _ _ (by decide) (by omega)⟩, fun i _ => ⟨hc _ _ (by decide) (by omega), hc _ _ (by decide) (by omega)⟩, fun k _ => hc _ _ (by omega) (by omega)⟩
section AXX
variable {M M1 M2 : EM} {p w v r1 r2 : Int}
theorem ax_81 {s : Nat} (is : e_isO 7 (s : Int)) (a b : Int) (M : EM) : E_C 81 [(s : Int), a, b] M = some (0, ax_b M s a b) := by
  have w0 : ∀ v M, e_pf 448 [(s : Int), v] M = some (e_up M s 0 v) := fun v M => c_pf is (by decide +kernel)
  have w1 : ∀ v M, e_pf 449 [(s : Int), v] M = some (e_up M s 1 v) := fun v M => c_pf is (by decide +kernel)
  have w2 : ∀ v M, e_pf 450 [(s : Int), v] M = some (e_up M s 2 v) := fun v M => c_pf is (by decide +kernel)
  have w3 : ∀ v M, e_pf 451 [(s : Int), v] M = some (e_up M s 3 v) := fun v M => c_pf is (by decide +kernel)
  have w4 : ∀ v M, e_pf 452 [(s : Int), v] M = some (e_up M s 4 v) := fun v M => c_pf is (by decide +kernel)
  rw [r_ent (show e_rok 81 [(s : Int), a, b] = true from decide_eq_true is)]
  show e_tv E_C (E_V 81) e_t81_0 [(s : Int), a, b] M = _
  unfold e_t81_0 ax_b
  simp [e_tv, e_ev, e_sv, e_b1, e_b2, x_o1, x_o2, w0, w1, w2, w3, w4]
/-- the seeker of a BOX -/
theorem ax_155 {q : Nat} (h : q < 40) : E_C 155 [8, (q : Int)] M = some (if M 11 q = 3 then ((37 + q : Nat) : Int) else -1, M) := by
  have j := h_150 (p := (q : Int)) (k := 3) (M := M) ⟨by omega, by omega⟩
  rw [Int.toNat_natCast] at j
  have r1 := (p_rd25 h M).1
  have r2 := (p_len25 M).1
  have b1 : (0 : Int) ≤ (q : Int) := by omega
  have b2 : (q : Int) < 40 := by omega
  revert j
  generalize M 11 q = kk
  intro j
  revert r1
  generalize ((37 + q : Nat) : Int) = ss
  intro r1
  generalize (q : Int) = pp at *
  have s0 : E_C 155 [8, pp] M = e_tv E_C (E_V 155) e_t155_0 [8, pp, 0] M := r_ent (u := 155) (as := [8, pp]) (M := M) (decide_eq_true c_this)
  rw [s0]
  unfold e_t155_0
  by_cases c : kk = 3
  · rw [if_pos c] at j ⊢
    simp [e_tv, e_ev, e_sv, e_b1, e_b2, x_o1, x_o2, p_704, w_H2, j, r1, r2, b1, b2]
  · rw [if_neg c] at j ⊢
    simp [e_tv, e_ev, e_sv, e_b1, e_b2, x_o1, x_o2, p_704, w_H2, j, r2, b1, b2]
theorem ax_114s : E_C 114 [8, p, w, v] M = e_tv E_C (E_V 114) e_t114_0 [8, p, w, v, 0, 0] M := r_ent (u := 114) (as := [8, p, w, v]) (M := M) (decide_eq_true c_this)
theorem ax_114a {i : Int} (ip : E_C 149 [8, p] M = some (i, M)) (h : i = 0 ∨ (i = 1 ∧ ¬ ax_Bq w v)) : E_C 114 [8, p, w, v] M = some (-1, M) := by
  rw [ax_114s]
  unfold e_t114_0
  rcases h with h | ⟨h, hb⟩
  · subst h
    simp [e_tv, e_ev, e_sv, e_b1, e_b2, x_o1, x_o2, ip]
  · subst h
    unfold ax_Bq at hb
    rcases x_le 0 w with ⟨c0, c0_n⟩ | ⟨c0, c0_n⟩
    · rcases x_le w 1 with ⟨c1, c1_n⟩ | ⟨c1, c1_n⟩
      · have e : w = 0 ∨ w = 1 := by omega
        rcases e with e | e
        · subst e
          rcases x_le 0 v with ⟨d0, d0_n⟩ | ⟨d0, d0_n⟩
          · have d1 : 500 < v := by omega
            simp [e_tv, e_ev, e_sv, e_b1, e_b2, x_o1, x_o2, ip, d0, d0_n, d1]
          · simp [e_tv, e_ev, e_sv, e_b1, e_b2, x_o1, x_o2, ip, d0, d0_n]
        · subst e
          rcases x_le 1 v with ⟨d0, d0_n⟩ | ⟨d0, d0_n⟩
          · have d1 : 40 < v := by omega
            simp [e_tv, e_ev, e_sv, e_b1, e_b2, x_o1, x_o2, ip, d0, d0_n, d1]
          · simp [e_tv, e_ev, e_sv, e_b1, e_b2, x_o1, x_o2, ip, d0, d0_n]
      · simp [e_tv, e_ev, e_sv, e_b1, e_b2, x_o1, x_o2, ip, c0, c0_n, c1, c1_n]
    · simp [e_tv, e_ev, e_sv, e_b1, e_b2, x_o1, x_o2, ip, c0, c0_n]
theorem ax_114b (ip : E_C 149 [8, p] M = some (1, M)) (h : ax_Bq w v) (k : E_C 155 [8, p] M = some (-1, M)) : E_C 114 [8, p, w, v] M = some (-3, M) := by
  rw [ax_114s]
  unfold e_t114_0
  rcases h with ⟨rfl, d0, d1⟩ | ⟨rfl, d0, d1⟩
  · have d2 : ¬ 500 < v := by omega
    simp [e_tv, e_ev, e_sv, e_b1, e_b2, x_o1, x_o2, ip, k, d0, d1, d2]
  · have d2 : ¬ 40 < v := by omega
    simp [e_tv, e_ev, e_sv, e_b1, e_b2, x_o1, x_o2, ip, k, d0, d1, d2]
theorem ax_114c {s : Nat} (ip : E_C 149 [8, p] M = some (1, M)) (h : ax_Bq w v) (hs : 37 ≤ s ∧ s < 77) (k : E_C 155 [8, p] M = some ((s : Int), M)) : E_C 114 [8, p, w, v] M = some (M s w.toNat, ax_b M s (if w = 0 then v else M s 0) (if w = 0 then M s 1 else v)) := by
  have is : e_isO 7 (s : Int) := p_is7 (by omega)
  have g0 : ∀ M, e_gf 448 [(s : Int)] M = some (M s 0) := fun M => c_gf is (by decide +kernel)
  have g1 : ∀ M, e_gf 449 [(s : Int)] M = some (M s 1) := fun M => c_gf is (by decide +kernel)
  have n1 : ¬ ((s : Int) = -1) := by omega
  have b := fun a b M => ax_81 is a b M
  rw [ax_114s]
  unfold e_t114_0
  rcases h with ⟨rfl, d0, d1⟩ | ⟨rfl, d0, d1⟩
  · have d2 : ¬ 500 < v := by omega
    simp [e_tv, e_ev, e_sv, e_b1, e_b2, x_o1, x_o2, ip, k, d0, d1, d2, g0, g1, n1, b]
  · have d2 : ¬ 40 < v := by omega
    simp [e_tv, e_ev, e_sv, e_b1, e_b2, x_o1, x_o2, ip, k, d0, d1, d2, g0, g1, n1, b]
/-- the reference -/
theorem ax_214a {i : Int} (ip : E_C 169 [192, p] M = some (i, M)) (h : i = 0 ∨ (i = 1 ∧ ¬ ax_Bq w v)) : E_C 214 [192, p, w, v] M = some (-1, M) := by
  rcases h with h | ⟨h, hb⟩
  · subst h
    rw [r_ent (show e_rok 214 [192, p, w, v] = true from decide_eq_true r_ref)]
    show e_tv E_C (E_V 214) e_t214_0 [192, p, w, v, 0, 0] M = _
    unfold e_t214_0
    simp [e_tv, e_ev, e_sv, e_b1, e_b2, x_o1, x_o2, ip]
  · subst h
    unfold ax_Bq at hb
    by_cases q1 : 0 ≤ w ∧ w ≤ 1
    · have i1 := r_in1 (M := M) q1
      have e : w = 0 ∨ w = 1 := by omega
      rcases e with e | e
      · subst e
        have i2 := r_in0 (M := M) (x := v) (lo := 0) (hi := 500) (by omega)
        rw [r_ent (show e_rok 214 [192, p, 0, v] = true from decide_eq_true r_ref)]
        show e_tv E_C (E_V 214) e_t214_0 [192, p, 0, v, 0, 0] M = _
        unfold e_t214_0
        simp [e_tv, e_ev, e_sv, e_b1, e_b2, x_o1, x_o2, ip, i1, i2]
      · subst e
        have i2 := r_in0 (M := M) (x := v) (lo := 1) (hi := 40) (by omega)
        rw [r_ent (show e_rok 214 [192, p, 1, v] = true from decide_eq_true r_ref)]
        show e_tv E_C (E_V 214) e_t214_0 [192, p, 1, v, 0, 0] M = _
        unfold e_t214_0
        simp [e_tv, e_ev, e_sv, e_b1, e_b2, x_o1, x_o2, ip, i1, i2]
    · have i1 := r_in0 (M := M) q1
      rw [r_ent (show e_rok 214 [192, p, w, v] = true from decide_eq_true r_ref)]
      show e_tv E_C (E_V 214) e_t214_0 [192, p, w, v, 0, 0] M = _
      unfold e_t214_0
      simp [e_tv, e_ev, e_sv, e_b1, e_b2, x_o1, x_o2, ip, i1]
theorem ax_214b (ip : E_C 169 [192, p] M = some (1, M)) (h : ax_Bq w v) (kk : E_C 170 [192, p] M = some (r_G M (28 * p), M)) (k3 : r_G M (28 * p) ≠ 3) : E_C 214 [192, p, w, v] M = some (-3, M) := by
  rcases h with ⟨rfl, d0, d1⟩ | ⟨rfl, d0, d1⟩
  · have i1 := r_in1 (M := M) (x := 0) (lo := 0) (hi := 1) (by decide)
    have i2 := r_in1 (M := M) (x := v) (lo := 0) (hi := 500) ⟨d0, d1⟩
    rw [r_ent (show e_rok 214 [192, p, 0, v] = true from decide_eq_true r_ref)]
    show e_tv E_C (E_V 214) e_t214_0 [192, p, 0, v, 0, 0] M = _
    unfold e_t214_0
    simp [e_tv, e_ev, e_sv, e_b1, e_b2, x_o1, x_o2, ip, i1, i2, kk, k3]
  · have i1 := r_in1 (M := M) (x := 1) (lo := 0) (hi := 1) (by decide)
    have i2 := r_in1 (M := M) (x := v) (lo := 1) (hi := 40) ⟨d0, d1⟩
    rw [r_ent (show e_rok 214 [192, p, 1, v] = true from decide_eq_true r_ref)]
    show e_tv E_C (E_V 214) e_t214_0 [192, p, 1, v, 0, 0] M = _
    unfold e_t214_0
    simp [e_tv, e_ev, e_sv, e_b1, e_b2, x_o1, x_o2, ip, i1, i2, kk, k3]
theorem ax_214c (ip : E_C 169 [192, p] M = some (1, M)) (h : ax_Bq w v) (kk : E_C 170 [192, p] M = some (r_G M (28 * p), M)) (k3 : r_G M (28 * p) = 3) (hp : 0 ≤ p ∧ p < 40) : E_C 214 [192, p, w, v] M = some (r_G M (28 * p + 4 + w), e_up (e_up (e_up M 193 (28 * p + 4 + w).toNat v) 193 (28 * p + 4 + 2).toNat 1) 193 (28 * p + 4 + 3).toNat 0) := by
  have w1 : e_w (28 * p) = 28 * p := a_w_id (by omega) (by omega)
  have w2 : e_w (28 * p + 4) = 28 * p + 4 := a_w_id (by omega) (by omega)
  have w4 : e_w (28 * p + 4 + 2) = 28 * p + 4 + 2 := a_w_id (by omega) (by omega)
  have w5 : e_w (28 * p + 4 + 3) = 28 * p + 4 + 3 := a_w_id (by omega) (by omega)
  have st2 := fun M => r_stw (i := 28 * p + 4 + 2) (v := 1) (M := M) (by omega) (by omega)
  have st3 := fun M => r_stw (i := 28 * p + 4 + 3) (v := 0) (M := M) (by omega) (by omega)
  rcases h with ⟨rfl, d0, d1⟩ | ⟨rfl, d0, d1⟩
  · have i1 := r_in1 (M := M) (x := 0) (lo := 0) (hi := 1) (by decide)
    have i2 := r_in1 (M := M) (x := v) (lo := 0) (hi := 500) ⟨d0, d1⟩
    simp only [Int.add_zero]
    have l1 : e_op 60 [193, 28 * p + 4] M = some (r_G M (28 * p + 4)) := r_rd (by omega) (by omega)
    have st := fun M => r_stw (i := 28 * p + 4) (v := v) (M := M) (by omega) (by omega)
    rw [r_ent (show e_rok 214 [192, p, 0, v] = true from decide_eq_true r_ref)]
    show e_tv E_C (E_V 214) e_t214_0 [192, p, 0, v, 0, 0] M = _
    unfold e_t214_0
    simp [e_tv, e_ev, e_sv, e_b1, e_b2, x_o1, x_o2, r_O0, ip, i1, i2, kk, k3, w1, w2, w4, w5, l1, st, st2, st3]
  · have i1 := r_in1 (M := M) (x := 1) (lo := 0) (hi := 1) (by decide)
    have i2 := r_in1 (M := M) (x := v) (lo := 1) (hi := 40) ⟨d0, d1⟩
    have w3 : e_w (28 * p + 4 + 1) = 28 * p + 4 + 1 := a_w_id (by omega) (by omega)
    have l1 : e_op 60 [193, 28 * p + 4 + 1] M = some (r_G M (28 * p + 4 + 1)) := r_rd (by omega) (by omega)
    have st := fun M => r_stw (i := 28 * p + 4 + 1) (v := v) (M := M) (by omega) (by omega)
    rw [r_ent (show e_rok 214 [192, p, 1, v] = true from decide_eq_true r_ref)]
    show e_tv E_C (E_V 214) e_t214_0 [192, p, 1, v, 0, 0] M = _
    unfold e_t214_0
    simp [e_tv, e_ev, e_sv, e_b1, e_b2, x_o1, x_o2, r_O0, ip, i1, i2, kk, k3, w1, w2, w3, w4, w5, l1, st, st2, st3]
theorem ax_box (hB : h_B M 0 (r_G M)) (hD : hd_D M 0 (r_G M)) (J1 : r_J M1) (hfr : ∀ i, M1 193 i = M 193 i) (k1 : E_C 114 [8, p, w, v] M = some (r1, M1)) (k2 : E_C 214 [192, p, w, v] M1 = some (r2, M2)) : r1 = r2 ∧ hd_D M2 0 (r_G M2) := by
  have eG : r_G M1 = r_G M := funext fun i => hfr _
  have hW := (r_J_E J1).2.1
  have h10 : M 10 0 = r_G M 1198 := hB.1
  have i := h_149 (k := p) (M := M)
  rw [h10] at i
  have keep : r1 = -1 ∨ r1 = -3 → M1 = M → M2 = M1 → hd_D M2 0 (r_G M2) := fun _ e1 e2 => by rw [e2, e1]; exact hD
  by_cases c : 0 ≤ p ∧ p < r_G M 1198
  · rw [if_pos c] at i
    have c' : 0 ≤ p ∧ p < r_G M1 1198 := by rw [eG]; exact c
    have ip := r_ip1 hW c'
    have h40 := r_40 hW c'
    have kk : E_C 170 [192, p] M1 = some (r_G M1 (28 * p), M1) := r_kind h40
    by_cases b : ax_Bq w v
    · obtain ⟨q, rfl⟩ : ∃ q : Nat, p = q := ⟨p.toNat, by omega⟩
      have s := ax_155 (q := q) (M := M) (by omega)
      obtain ⟨q1, -⟩ := hB.2.2 q c.2
      have q1 : M 11 q = r_G M (28 * (q : Int)) := q1
      by_cases k3 : M 11 q = 3
      · rw [if_pos k3] at s
        obtain ⟨e1, e2⟩ := Prod.mk.inj (Option.some.inj (k1.symm.trans (ax_114c i b (by omega) s)))
        have k3' : r_G M1 (28 * (q : Int)) = 3 := by rw [eG, ← q1]; exact k3
        obtain ⟨f1, f2⟩ := Prod.mk.inj (Option.some.inj (k2.symm.trans (ax_214c ip b kk k3' h40)))
        obtain ⟨-, -, -, d3⟩ := hD q c.2
        obtain ⟨-, ⟨s0, s1, s2⟩, ⟨t0, t1, t2⟩, -, -⟩ := d3 (q1.symm.trans k3)
        have s0 : M (37 + q) 0 = r_G M (28 * (q : Int) + 4) := s0
        have t0 : M (37 + q) 1 = r_G M (28 * (q : Int) + 5) := t0
        have gx : ∀ x : Int, 0 ≤ x → r_G M2 x = if x = 28 * (q : Int) + 7 then 0 else if x = 28 * (q : Int) + 6 then 1 else if x = 28 * (q : Int) + 4 + w then v else r_G M x := fun x x0 => by
          have hw01 : w = 0 ∨ w = 1 := by rcases b with b | b; exact Or.inl b.1; exact Or.inr b.1
          rw [f2]
          show (e_up (e_up (e_up M1 193 _ v) 193 _ 1) 193 _ 0) 193 x.toNat = _
          by_cases e7 : x = 28 * (q : Int) + 7
          · rw [if_pos e7, show x.toNat = (28 * (q : Int) + 4 + 3).toNat by omega, c_up_s]
          · rw [if_neg e7, c_up_n (by omega)]
            by_cases e6 : x = 28 * (q : Int) + 6
            · rw [if_pos e6, show x.toNat = (28 * (q : Int) + 4 + 2).toNat by omega, c_up_s]
            · rw [if_neg e6, c_up_n (by omega)]
              by_cases e4 : x = 28 * (q : Int) + 4 + w
              · rw [if_pos e4, show x.toNat = (28 * (q : Int) + 4 + w).toNat by omega, c_up_s]
              · rw [if_neg e4, c_up_n (by omega)]
                exact hfr _
        have cx : ∀ id k, id < 192 → M2 id k = ax_b M (37 + q) (if w = 0 then v else M (37 + q) 0) (if w = 0 then M (37 + q) 1 else v) id k := fun id k hid => by
          rw [f2, c_up_n (by omega), c_up_n (by omega), c_up_n (by omega), e2]
        have B0 : ∀ a b, ax_b M (37 + q) a b (37 + q) 0 = a := fun a b => by unfold ax_b; rw [c_up_n (by omega), c_up_n (by omega), c_up_n (by omega), c_up_n (by omega), c_up_s]
        have B1 : ∀ a b, ax_b M (37 + q) a b (37 + q) 1 = b := fun a b => by unfold ax_b; rw [c_up_n (by omega), c_up_n (by omega), c_up_n (by omega), c_up_s]
        have B2 : ∀ a b, ax_b M (37 + q) a b (37 + q) 2 = 0 := fun a b => by unfold ax_b; rw [c_up_n (by omega), c_up_n (by omega), c_up_s]
        have B3 : ∀ a b, ax_b M (37 + q) a b (37 + q) 3 = 0 := fun a b => by unfold ax_b; rw [c_up_n (by omega), c_up_s]
        have Bn : ∀ a b id k, id ≠ 37 + q → ax_b M (37 + q) a b id k = M id k := fun a b id k h => by unfold ax_b; rw [c_up_n (by omega), c_up_n (by omega), c_up_n (by omega), c_up_n (by omega), c_up_n (by omega)]
        refine ⟨?_, hd_box hD (q1.symm.trans k3) c.2 hB.2.1.2 (fun x x0 hx => ?_) (fun id k hid hn => (cx _ _ (by omega)).trans (Bn _ _ _ _ hn)) ?_⟩
        · rw [e1, f1, eG]
          rcases b with ⟨rfl, -⟩ | ⟨rfl, -⟩
          · rw [Int.add_zero]
            exact s0
          · rw [show 28 * (q : Int) + 4 + 1 = 28 * (q : Int) + 5 by omega]
            exact t0
        · rw [gx x x0, if_neg (by omega), if_neg (by omega), if_neg (by rcases b with b | b <;> omega)]
        · have g4 := gx (28 * (q : Int) + 4) (by omega)
          have g5 := gx (28 * (q : Int) + 5) (by omega)
          have g6 := gx (28 * (q : Int) + 6) (by omega)
          have g7 := gx (28 * (q : Int) + 7) (by omega)
          rw [if_neg (by omega), if_neg (by omega)] at g4 g5
          rw [if_neg (by omega), if_pos rfl] at g6
          rw [if_pos rfl] at g7
          have m0 := (cx (37 + q) 0 (by omega)).trans (B0 _ _)
          have m1 := (cx (37 + q) 1 (by omega)).trans (B1 _ _)
          have m2 := (cx (37 + q) 2 (by omega)).trans (B2 _ _)
          have m3 := (cx (37 + q) 3 (by omega)).trans (B3 _ _)
          have z4 : M2 (37 + q) 0 = r_G M2 (28 * (q : Int) + 4) ∧ 0 ≤ r_G M2 (28 * (q : Int) + 4) ∧ r_G M2 (28 * (q : Int) + 4) ≤ 500 := by
            rcases b with ⟨rfl, b1, b2⟩ | ⟨rfl, b1, b2⟩
            · rw [if_pos (by omega)] at g4
              rw [if_pos rfl] at m0
              rw [m0, g4]
              exact ⟨rfl, b1, b2⟩
            · rw [if_neg (by omega)] at g4
              rw [if_neg (by decide)] at m0
              rw [m0, g4]
              exact ⟨s0, s1, s2⟩
          have z5 : M2 (37 + q) 1 = r_G M2 (28 * (q : Int) + 5) ∧ 1 ≤ r_G M2 (28 * (q : Int) + 5) ∧ r_G M2 (28 * (q : Int) + 5) ≤ 40 := by
            rcases b with ⟨rfl, b1, b2⟩ | ⟨rfl, b1, b2⟩
            · rw [if_neg (by omega)] at g5
              rw [if_pos rfl] at m1
              rw [m1, g5]
              exact ⟨t0, t1, t2⟩
            · rw [if_pos (by omega)] at g5
              rw [if_neg (by decide)] at m1
              rw [m1, g5]
              exact ⟨rfl, b1, b2⟩
          exact ⟨z4, z5, Or.inl ⟨m2, g6⟩, Or.inl ⟨m3, g7⟩⟩
      · rw [if_neg k3] at s
        obtain ⟨e1, e2⟩ := Prod.mk.inj (Option.some.inj (k1.symm.trans (ax_114b i b s)))
        have k3' : r_G M1 (28 * (q : Int)) ≠ 3 := by rw [eG, ← q1]; exact k3
        obtain ⟨f1, f2⟩ := Prod.mk.inj (Option.some.inj (k2.symm.trans (ax_214b ip b kk k3')))
        exact ⟨e1.trans f1.symm, keep (Or.inr e1) e2 f2⟩
    · obtain ⟨e1, e2⟩ := Prod.mk.inj (Option.some.inj (k1.symm.trans (ax_114a i (Or.inr ⟨rfl, b⟩))))
      obtain ⟨f1, f2⟩ := Prod.mk.inj (Option.some.inj (k2.symm.trans (ax_214a ip (Or.inr ⟨rfl, b⟩))))
      exact ⟨e1.trans f1.symm, keep (Or.inl e1) e2 f2⟩
  · rw [if_neg c] at i
    have ip := r_ip0 hW (show ¬ (0 ≤ p ∧ p < r_G M1 1198) by rw [eG]; exact c)
    obtain ⟨e1, e2⟩ := Prod.mk.inj (Option.some.inj (k1.symm.trans (ax_114a i (Or.inl rfl))))
    obtain ⟨f1, f2⟩ := Prod.mk.inj (Option.some.inj (k2.symm.trans (ax_214a ip (Or.inl rfl))))
    exact ⟨e1.trans f1.symm, keep (Or.inl e1) e2 f2⟩
end AXX
