/-! what the reference sets -/
def r_T (W : AW) (u : Nat) (as : List Int) (M : EM) : Prop := ∃ r M', E_C u as M = some (r, M') ∧ r_J M' ∧ a_fr (W ++ r_wq) M M'
theorem r_Tq {W : AW} {u : Nat} {as : List Int} {M : EM} (hJ : r_J M) (h : r_Q u as M) : r_T W u as M := by
  obtain ⟨r, M', k, t1, t2, t3⟩ := h
  exact ⟨r, M', k, r_J_q hJ t1 t2 t3, c_sub_r t2⟩
theorem r_Ts {W : AW} {M : EM} {u : Nat} {as : List Int} {r : Int} (hJ : r_J M) (k : E_C u as M = some (r, M)) : r_T W u as M := ⟨r, M, k, hJ, a_fr_rf⟩
theorem r_G_s {M : EM} {i v : Int} : r_G (e_up M 193 i.toNat v) i = v := c_up_s
theorem r_G_n {M : EM} {i j v : Int} (hi : 1 ≤ i) (hj : j ≠ i) : r_G (e_up M 193 i.toNat v) j = r_G M j := c_up_n (fun hc => by have := hc.2; omega)
theorem r_J_row {M M' : EM} (hJ : r_J M) (hM : a_M M') (hf : ∀ id k, id ≠ 193 → M' id k = M id k) (hW : r_W (r_G M')) : r_J M' := by
  obtain ⟨j1, j2, j3, j4, j5⟩ := hJ
  have e2 : r_Gi M' = r_Gi M := funext fun i => hf _ _ (by decide)
  refine ⟨hM, fun j hj => ?_, hW, ?_, ?_⟩
  · rw [hf _ _ (by decide)]; exact j2 j hj
  · rw [hf _ _ (by decide), e2]; exact j4
  · rw [hf _ _ (by decide)]; exact j5
theorem r_upw {M : EM} {i v : Int} (hv : -2147483648 ≤ v ∧ v ≤ 2147483647) (hM : a_M M) : a_M (e_up M 193 i.toNat v) := r_up (by decide) (by decide +kernel) (by decide +kernel) hv hM
theorem r_frw {W : AW} {M : EM} {i v : Int} {a b : Nat} (h : (193, a, b) ∈ W) (h0 : (a : Int) ≤ i) (h1 : i ≤ (b : Int)) : a_fr (W ++ r_wq) M (e_up M 193 i.toNat v) := fun id k hw => c_up_n (fun hc => hw _ (List.mem_append.mpr (Or.inl h)) ⟨hc.1.symm, by
  have := hc.2
  show a ≤ k
  omega, by
  have := hc.2
  show k ≤ b
  omega⟩)
theorem r_n193 {M : EM} {i v : Int} {id k : Nat} (h : id ≠ 193) : (e_up M 193 i.toNat v) id k = M id k := c_up_n (fun hc => h hc.1)
theorem r_stw {i v : Int} {M : EM} (h0 : 0 ≤ i) (hi : i < 1330) : e_st 100 [193, i, v] M = some (e_up M 193 i.toNat v) := r_st (n := 1330) (by decide) (by decide +kernel) (by decide +kernel) h0 hi
/-- cells of PARTS: settings and DEAD; a BOX's own; where one lies -/
def r_wp (lo hi : Nat) : AW := (List.range 40).map (fun q => (193, 28 * q + lo, 28 * q + hi))
def r_wSt : AW := r_wp 15 19
def r_wBx : AW := r_wp 4 8
def r_wL : AW := r_wp 20 24
theorem r_frp {M : EM} {p i v : Int} {lo up : Nat} (hp : 0 ≤ p ∧ p < 40) (hi : 28 * p + lo ≤ i ∧ i ≤ 28 * p + up) : a_fr (r_wp lo up ++ r_wq) M (e_up M 193 i.toNat v) := by
  refine r_frw (a := 28 * p.toNat + lo) (b := 28 * p.toNat + up) ?_ (by omega) (by omega)
  exact List.mem_map.mpr ⟨p.toNat, List.mem_range.mpr (by omega), rfl⟩
/-- one cell of a PART that doesn't tell how it is made -/
theorem r_W_cell {M : EM} {p j v : Int} (hW : r_W (r_G M)) (hp : 0 ≤ p ∧ p < 40) (hk : r_G M (28 * p) = 0) (hj : 15 ≤ j ∧ j ≤ 19) : r_W (r_G (e_up M 193 (28 * p + j).toNat v)) :=
  r_W_one hW (fun i hi => r_G_n (by omega) (by omega)) (r_G_n (by omega) (by omega)) (r_G_n (by omega) (by omega)) hp (Or.inl ⟨hk, r_lies_eq (fun t t0 t1 => r_G_n (by omega) (by omega))⟩)
theorem r_W_box {M : EM} {p j v : Int} (hW : r_W (r_G M)) (hp : 0 ≤ p ∧ p < 40) (hk : r_G M (28 * p) = 3) (hj : 4 ≤ j ∧ j ≤ 8) (h4 : j = 4 → 0 ≤ v) : r_W (r_G (e_up M 193 (28 * p + j).toNat v)) :=
  r_W_one hW (fun i hi => r_G_n (by omega) (by omega)) (r_G_n (by omega) (by omega)) (r_G_n (by omega) (by omega)) hp (Or.inr ⟨hk, r_G_n (by omega) (by omega), fun h => by
    by_cases c : j = 4
    · subst c
      rw [r_G_s]
      exact h4 rfl
    · rw [r_G_n (by omega) (by omega)]
      exact h⟩)
theorem r_set {p w v : Int} {M : EM} (hJ : r_J M) (hv : -2147483648 ≤ v ∧ v ≤ 2147483647) : r_T r_wSt 196 [192, p, w, v] M := by
  have hW := (r_J_E hJ).2.1
  by_cases q0 : 0 ≤ p ∧ p < r_G M 1198
  · have ip := r_ip1 hW q0
    have h40 := r_40 hW q0
    have kk : E_C 170 [192, p] M = some (r_G M (28 * p), M) := r_kind h40
    by_cases q1 : 0 ≤ w ∧ w ≤ 3
    · have i1 := r_in1 (M := M) q1
      obtain ⟨z, hz⟩ : ∃ z : Int, z = (if w = 0 then 100 else if w = 3 then 40 else 50) := ⟨_, rfl⟩
      by_cases q2 : 0 ≤ v ∧ v ≤ z
      · have i2 := r_in1 (M := M) q2
        by_cases q3 : r_G M (28 * p) = 0
        · have w1 : e_w (28 * p) = 28 * p := a_w_id (by omega) (by omega)
          have w2 : e_w (28 * p + 15) = 28 * p + 15 := a_w_id (by omega) (by omega)
          have w3 : e_w (28 * p + 15 + w) = 28 * p + 15 + w := a_w_id (by omega) (by omega)
          have l1 : e_op 60 [193, 28 * p + 15 + w] M = some (r_G M (28 * p + 15 + w)) := r_rd (by omega) (by omega)
          have st := r_stw (i := 28 * p + 15 + w) (v := v) (M := M) (by omega) (by omega)
          refine ⟨r_G M (28 * p + 15 + w), e_up M 193 (28 * p + 15 + w).toNat v, ?_, r_J_row hJ (r_upw hv hJ.1) (fun id k h => r_n193 h) ?_, r_frp (p := p) (lo := 15) (up := 19) ⟨by omega, by omega⟩ ⟨by omega, by omega⟩⟩
          · rw [r_ent (show e_rok 196 [192, p, w, v] = true from decide_eq_true r_ref)]
            show e_tv E_C (E_V 196) e_t196_0 [192, p, w, v, 0] M = _
            unfold e_t196_0
            by_cases c0 : w = 0
            · subst c0
              rw [if_pos rfl] at hz
              subst hz
              simp only [Int.add_zero] at w3 l1 st
              simp [e_tv, e_ev, e_sv, e_b1, e_b2, x_o1, x_o2, r_O0, ip, i1, i2, kk, q3, w1, w2, w3, l1, st]
            · by_cases c3 : w = 3
              · subst c3
                rw [if_neg (by decide), if_pos rfl] at hz
                subst hz
                simp [e_tv, e_ev, e_sv, e_b1, e_b2, x_o1, x_o2, r_O0, ip, i1, i2, kk, q3, w1, w2, w3, l1, st]
              · rw [if_neg c0, if_neg c3] at hz
                subst hz
                simp [e_tv, e_ev, e_sv, e_b1, e_b2, x_o1, x_o2, r_O0, ip, i1, i2, kk, q3, w1, w2, w3, l1, st, c0, c3]
          · rw [show 28 * p + 15 + w = 28 * p + (15 + w) by omega]
            exact r_W_cell hW h40 q3 (by omega)
        · refine r_Ts (r := -3) hJ ?_
          rw [r_ent (show e_rok 196 [192, p, w, v] = true from decide_eq_true r_ref)]
          show e_tv E_C (E_V 196) e_t196_0 [192, p, w, v, 0] M = _
          unfold e_t196_0
          by_cases c0 : w = 0
          · subst c0
            rw [if_pos rfl] at hz
            subst hz
            simp [e_tv, e_ev, e_sv, e_b1, e_b2, x_o1, x_o2, r_O0, ip, i1, i2, kk, q3]
          · by_cases c3 : w = 3
            · subst c3
              rw [if_neg (by decide), if_pos rfl] at hz
              subst hz
              simp [e_tv, e_ev, e_sv, e_b1, e_b2, x_o1, x_o2, r_O0, ip, i1, i2, kk, q3]
            · rw [if_neg c0, if_neg c3] at hz
              subst hz
              simp [e_tv, e_ev, e_sv, e_b1, e_b2, x_o1, x_o2, r_O0, ip, i1, i2, kk, q3, c0, c3]
      · have i2 := r_in0 (M := M) q2
        refine r_Ts (r := -1) hJ ?_
        rw [r_ent (show e_rok 196 [192, p, w, v] = true from decide_eq_true r_ref)]
        show e_tv E_C (E_V 196) e_t196_0 [192, p, w, v, 0] M = _
        unfold e_t196_0
        by_cases c0 : w = 0
        · subst c0
          rw [if_pos rfl] at hz
          subst hz
          simp [e_tv, e_ev, e_sv, e_b1, e_b2, x_o1, x_o2, r_O0, ip, i1, i2]
        · by_cases c3 : w = 3
          · subst c3
            rw [if_neg (by decide), if_pos rfl] at hz
            subst hz
            simp [e_tv, e_ev, e_sv, e_b1, e_b2, x_o1, x_o2, r_O0, ip, i1, i2]
          · rw [if_neg c0, if_neg c3] at hz
            subst hz
            simp [e_tv, e_ev, e_sv, e_b1, e_b2, x_o1, x_o2, r_O0, ip, i1, i2, c0, c3]
    · have i1 := r_in0 (M := M) q1
      refine r_Ts (r := -1) hJ ?_
      rw [r_ent (show e_rok 196 [192, p, w, v] = true from decide_eq_true r_ref)]
      show e_tv E_C (E_V 196) e_t196_0 [192, p, w, v, 0] M = _
      unfold e_t196_0
      simp [e_tv, e_ev, e_sv, e_b1, e_b2, x_o1, x_o2, ip, i1]
  · have ip := r_ip0 hW q0
    refine r_Ts (r := -1) hJ ?_
    rw [r_ent (show e_rok 196 [192, p, w, v] = true from decide_eq_true r_ref)]
    show e_tv E_C (E_V 196) e_t196_0 [192, p, w, v, 0] M = _
    unfold e_t196_0
    simp [e_tv, e_ev, e_sv, e_b1, e_b2, x_o1, x_o2, ip]
