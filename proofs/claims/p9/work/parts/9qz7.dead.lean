/-! dead, lies: the two answers; what is told of CELLS stays related -/
theorem h_150 {p k : Int} {M : EM} (h : 0 ≤ p ∧ p < 40) : E_C 150 [8, p, k] M = some (if M 11 p.toNat = k then 1 else 0, M) := by
  have t : ∀ M, E_C 146 [11, p] M = some (M 11 p.toNat, M) := fun M => p_at (a := 11) (n := 40) (by decide +kernel) ⟨h.1, by omega⟩ M
  have s0 : E_C 150 [8, p, k] M = e_tv E_C (E_V 150) e_t150_0 [8, p, k] M := r_ent (u := 150) (as := [8, p, k]) (M := M) (decide_eq_true c_this)
  rw [s0]
  unfold e_t150_0
  by_cases c : M 11 p.toNat = k
  · rw [if_pos c]
    simp [e_tv, e_ev, e_sv, e_b1, e_b2, x_o1, x_o2, p_704, w_H0, w_P1, t, c]
  · rw [if_neg c]
    simp [e_tv, e_ev, e_sv, e_b1, e_b2, x_o1, x_o2, p_704, w_H0, w_P1, t, c]
theorem h_108a {p v : Int} {M : EM} (c : ¬ (0 ≤ p ∧ p < M 10 0)) : E_C 108 [8, p, v] M = some (-1, M) := by
  have i : E_C 149 [8, p] M = some (0, M) := h_149.trans (congrArg some (congrArg (·, M) (if_neg c)))
  have s0 : E_C 108 [8, p, v] M = e_tv E_C (E_V 108) e_t108_0 [8, p, v, 0, 0] M := r_ent (u := 108) (as := [8, p, v]) (M := M) (decide_eq_true c_this)
  rw [s0]
  unfold e_t108_0
  simp [e_tv, e_ev, e_sv, e_b1, e_b2, x_o1, x_o2, i]
theorem h_108b {p v : Int} {M : EM} (c : 0 ≤ p ∧ p < M 10 0) (h : p < 40) (k : M 11 p.toNat ≠ 0) : E_C 108 [8, p, v] M = some (-3, M) := by
  have i : E_C 149 [8, p] M = some (1, M) := h_149.trans (congrArg some (congrArg (·, M) (if_pos c)))
  have j : E_C 150 [8, p, 0] M = some (0, M) := (h_150 ⟨c.1, h⟩).trans (congrArg some (congrArg (·, M) (if_neg k)))
  have s0 : E_C 108 [8, p, v] M = e_tv E_C (E_V 108) e_t108_0 [8, p, v, 0, 0] M := r_ent (u := 108) (as := [8, p, v]) (M := M) (decide_eq_true c_this)
  rw [s0]
  unfold e_t108_0
  simp [e_tv, e_ev, e_sv, e_b1, e_b2, x_o1, x_o2, i, j]
theorem h_108c {p v : Int} {M : EM} (c : 0 ≤ p ∧ p < M 10 0) (h : p < 40) (k : M 11 p.toNat = 0) (hv : v = 0 ∨ v = 1) : E_C 108 [8, p, v] M = some (if M 22 p.toNat = v then 0 else 1, e_up M 22 p.toNat v) := by
  have i : E_C 149 [8, p] M = some (1, M) := h_149.trans (congrArg some (congrArg (·, M) (if_pos c)))
  have j : E_C 150 [8, p, 0] M = some (1, M) := (h_150 ⟨c.1, h⟩).trans (congrArg some (congrArg (·, M) (if_pos k)))
  have t : ∀ M, E_C 146 [22, p] M = some (M 22 p.toNat, M) := fun M => p_at (a := 22) (n := 40) (by decide +kernel) ⟨c.1, by omega⟩ M
  have l : ∀ v M, E_C 147 [22, p, v] M = some (0, e_up M 22 p.toNat v) := fun v M => p_layd (a := 22) (n := 40) (by decide +kernel) ⟨c.1, by omega⟩ M
  have s0 : E_C 108 [8, p, v] M = e_tv E_C (E_V 108) e_t108_0 [8, p, v, 0, 0] M := r_ent (u := 108) (as := [8, p, v]) (M := M) (decide_eq_true c_this)
  rw [s0]
  unfold e_t108_0
  rcases hv with hv | hv
  · subst hv
    by_cases e : M 22 p.toNat = 0
    · rw [if_pos e]
      simp [e_tv, e_ev, e_sv, e_b1, e_b2, x_o1, x_o2, p_704, w_H1, w_C3, i, j, t, l, e]
    · rw [if_neg e]
      simp [e_tv, e_ev, e_sv, e_b1, e_b2, x_o1, x_o2, p_704, w_H1, w_C3, i, j, t, l, e]
  · subst hv
    by_cases e : M 22 p.toNat = 1
    · rw [if_pos e]
      simp [e_tv, e_ev, e_sv, e_b1, e_b2, x_o1, x_o2, p_704, w_H1, w_C3, i, j, t, l, e]
    · rw [if_neg e]
      simp [e_tv, e_ev, e_sv, e_b1, e_b2, x_o1, x_o2, p_704, w_H1, w_C3, i, j, t, l, e]
theorem h_197a {p v : Int} {M : EM} (ip : E_C 169 [192, p] M = some (0, M)) : E_C 197 [192, p, v] M = some (-1, M) := by
  rw [r_ent (show e_rok 197 [192, p, v] = true from decide_eq_true r_ref)]
  show e_tv E_C (E_V 197) e_t197_0 [192, p, v, 0] M = _
  unfold e_t197_0
  simp [e_tv, e_ev, e_sv, e_b1, e_b2, x_o1, x_o2, ip]
theorem h_197b {p v k : Int} {M : EM} (ip : E_C 169 [192, p] M = some (1, M)) (kk : E_C 170 [192, p] M = some (k, M)) (hk : k ≠ 0) : E_C 197 [192, p, v] M = some (-3, M) := by
  rw [r_ent (show e_rok 197 [192, p, v] = true from decide_eq_true r_ref)]
  show e_tv E_C (E_V 197) e_t197_0 [192, p, v, 0] M = _
  unfold e_t197_0
  simp [e_tv, e_ev, e_sv, e_b1, e_b2, x_o1, x_o2, ip, kk, hk]
theorem h_197c {p v z : Int} {M : EM} (h : 0 ≤ p ∧ p < 40) (ip : E_C 169 [192, p] M = some (1, M)) (kk : E_C 170 [192, p] M = some (0, M)) (hz : r_G M (28 * p + 19) = z) (h1 : z = 0 ∨ z = 1) (hv : v = 0 ∨ v = 1) : E_C 197 [192, p, v] M = some (if z = v then 0 else 1, e_up M 193 (28 * p + 19).toNat v) := by
  have w1 : e_w (28 * p) = 28 * p := a_w_id (by omega) (by omega)
  have w2 : e_w (28 * p + 19) = 28 * p + 19 := a_w_id (by omega) (by omega)
  have l1 : e_op 60 [193, 28 * p + 19] M = some z := (r_rd (by omega) (by omega)).trans (congrArg some hz)
  have st := fun v => r_stw (i := 28 * p + 19) (v := v) (M := M) (by omega) (by omega)
  rw [r_ent (show e_rok 197 [192, p, v] = true from decide_eq_true r_ref)]
  show e_tv E_C (E_V 197) e_t197_0 [192, p, v, 0] M = _
  unfold e_t197_0
  rcases hv with hv | hv
  · subst hv
    rcases h1 with h1 | h1
    · subst h1
      simp [e_tv, e_ev, e_sv, e_b1, e_b2, x_o1, x_o2, r_O0, ip, kk, w1, w2, l1, st]
    · subst h1
      simp [e_tv, e_ev, e_sv, e_b1, e_b2, x_o1, x_o2, r_O0, ip, kk, w1, w2, l1, st]
  · subst hv
    rcases h1 with h1 | h1
    · subst h1
      simp [e_tv, e_ev, e_sv, e_b1, e_b2, x_o1, x_o2, r_O0, ip, kk, w1, w2, l1, st]
    · subst h1
      simp [e_tv, e_ev, e_sv, e_b1, e_b2, x_o1, x_o2, r_O0, ip, kk, w1, w2, l1, st]
theorem h_deads {p v r1 r2 : Int} {M M1 M2 : EM} (J1 : r_J M1) (hB : h_B M 0 (r_G M)) (hC : h_C M 0 (r_G M)) (hv : v = 0 ∨ v = 1) (hfr : ∀ i, M1 193 i = M 193 i) (k1 : E_C 108 [8, p, v] M = some (r1, M1)) (k2 : E_C 197 [192, p, v] M1 = some (r2, M2)) : r1 = r2 ∧ h_C M2 0 (r_G M2) := by
  have eG1 : r_G M1 = r_G M := funext fun i => hfr _
  have hW1 := (r_J_E J1).2.1
  have h10 := hB.1
  by_cases c : 0 ≤ p ∧ p < M 10 0
  · have cg : 0 ≤ p ∧ p < r_G M1 1198 := by rw [eG1, ← h10]; exact c
    have h40 := r_40 hW1 cg
    obtain ⟨q, hq⟩ : ∃ q : Nat, p = q := ⟨p.toNat, by omega⟩
    subst hq
    have hqn : (q : Int) < r_G M 1198 := by rw [← h10]; exact c.2
    have b := hB.2.2 q hqn
    have cq := hC q hqn
    have ip := r_ip1 hW1 cg
    have kk : E_C 170 [192, (q : Int)] M1 = some (r_G M1 (28 * (q : Int)), M1) := r_kind h40
    rw [eG1] at kk
    have kq : M 11 (q : Int).toNat = r_G M (28 * (q : Int)) := b.1
    by_cases k0 : r_G M (28 * (q : Int)) = 0
    · obtain ⟨e1, e2⟩ := Prod.mk.inj (Option.some.inj (k1.symm.trans (h_108c c h40.2 (kq.trans k0) hv)))
      obtain ⟨d1, ⟨d2, d3⟩, d4⟩ := cq k0
      rw [k0] at kk
      have hz : r_G M1 (28 * (q : Int) + 19) = r_G M (28 * (q : Int) + 19) := congrFun eG1 _
      obtain ⟨f1, f2⟩ := Prod.mk.inj (Option.some.inj (k2.symm.trans (h_197c h40 ip kk hz d3 hv)))
      refine ⟨?_, ?_⟩
      · rw [e1, f1, show M 22 (q : Int).toNat = r_G M (28 * (q : Int) + 19) from d2]
      · have g2 : ∀ x, 0 ≤ x → x ≠ 28 * (q : Int) + 19 → r_G M2 x = r_G M x := fun x x0 hx => by
          rw [f2]
          show e_up M1 193 _ v 193 x.toNat = _
          rw [c_up_n (by omega)]
          exact hfr _
        have m2 : ∀ id k, id ≠ 193 → ¬ (id = 22 ∧ k = q) → M2 id k = M id k := fun id k h1 h2 => by
          rw [f2, c_up_n (by omega), e2]
          exact c_up_n (by rw [Int.toNat_natCast]; exact h2)
        intro t ht
        rw [g2 1198 (by decide) (by omega)] at ht
        by_cases ct : t = q
        · subst ct
          intro _
          have gt : r_G M2 (28 * (t : Int) + 19) = v := by rw [f2]; exact c_up_s
          have mt : M2 22 t = v := by rw [f2, c_up_n (by omega), e2]; exact c_up_s
          have hs : ∀ d : Int, 15 ≤ d → d ≤ 24 → d ≠ 19 → r_G M2 (28 * (t : Int) + d) = r_G M (28 * (t : Int) + d) := fun d d0 d1 d9 => g2 _ (by omega) (by omega)
          refine ⟨fun a ha => ?_, ?_, ?_⟩
          · have := hs (15 + (a : Int)) (by omega) (by omega) (by omega)
            rw [show 28 * (t : Int) + (15 + (a : Int)) = 28 * (t : Int) + 15 + (a : Int) by omega] at this
            rw [this, m2 _ _ (by decide) (by omega)]
            exact d1 a ha
          · rw [gt, mt]
            exact ⟨rfl, hv⟩
          · rw [hs 20 (by decide) (by decide) (by decide), hs 21 (by decide) (by decide) (by decide), hs 22 (by decide) (by decide) (by decide), hs 23 (by decide) (by decide) (by decide), hs 24 (by decide) (by decide) (by decide), m2 (23 + 0) _ (by decide) (by omega), m2 (24 + 0) _ (by decide) (by omega)]
            exact d4
        · exact h_Cq_cg (hC t ht) (g2 _ (by omega) (by omega)) (fun d d0 d1 => g2 _ (by omega) (by omega)) (fun a _ => m2 _ _ (by decide) (by omega)) (m2 _ _ (by decide) (by omega)) (m2 _ _ (by decide) (by omega)) (m2 _ _ (by decide) (by omega))
    · obtain ⟨e1, e2⟩ := Prod.mk.inj (Option.some.inj (k1.symm.trans (h_108b c h40.2 (fun e => k0 (kq.symm.trans e)))))
      obtain ⟨f1, f2⟩ := Prod.mk.inj (Option.some.inj (k2.symm.trans (h_197b ip kk k0)))
      refine ⟨e1.trans f1.symm, ?_⟩
      rw [f2, e2]
      exact hC
  · obtain ⟨e1, e2⟩ := Prod.mk.inj (Option.some.inj (k1.symm.trans (h_108a c)))
    have cg : ¬ (0 ≤ p ∧ p < r_G M1 1198) := by rw [eG1, ← h10]; exact c
    obtain ⟨f1, f2⟩ := Prod.mk.inj (Option.some.inj (k2.symm.trans (h_197a (r_ip0 hW1 cg))))
    refine ⟨e1.trans f1.symm, ?_⟩
    rw [f2, e2]
    exact hC
