/-! sky, keep, image, restore, count and the shelves' calls, of the reference, with what holds between calls -/
def r_wK : AW := [(193, 1200, 1321)]
theorem r_sky_loop {d : Int} (hd : 0 ≤ d ∧ d ≤ 7) : ∀ (m : Nat) (x3 : Int) (M : EM), r_J M → (120 - x3).toNat ≤ m → 0 ≤ x3 → ∃ r M', E_V 225 43 [192, d, 0, x3] M = some (r, M') ∧ r_J M' ∧ a_fr (r_wK ++ r_wq) M M' := by
  have hend : ∀ x3 M, r_J M → ¬ (x3 < 120) → ∃ r M', E_V 225 43 [192, d, 0, x3] M = some (r, M') ∧ r_J M' ∧ a_fr (r_wK ++ r_wq) M M' := by
    intro x3 M hJ q
    have ls := (r_isD d M hd).2.2.1
    refine ⟨M 197 d.toNat, M, ?_, hJ, a_fr_rf⟩
    rw [E_V_eq]
    show e_tv E_C (E_V 225) e_t225_43 [192, d, 0, x3] M = _
    unfold e_t225_43
    simp [zq_a, zq_b, zq_c, zq_d, zq_e, zq_f, zq_g, zq_h, zq_i, zq_j, zq_k, zq_l, zq_m, zq_n, zq_o, zq_p, zq_q, zq_r, zq_s, zq_t, zq_u, zq_v, zq_w, zq_x, zq_y, zq_z, zq_A, zq_B, zq_C, zq_D, zq_E, zq_F, zq_G, zq_H, zq_I, zq_J, zq_K, zq_L, ↓zq_M, ↓zq_N, ↓zq_O, ↓zq_P, ↓zq_Q, ↓zq_R, zq_S, zq_T, zq_U, zq_V, zq_W, zq_X, zq_Y, zq_Z, zq_0, zq_1, zq_2, zq_3, zq_4, zq_5, ↓zq_6, ↓zq_7, ↓zq_8, ↓zq_9, ↓zq_aa, zq_ab, zq_ac, zq_ad, zq_ae, zq_af, zq_ag, ↓zq_ah, ↓zq_ai, ↓zq_aj, zq_ak, ↓zq_al, ↓zq_am, e_b1, e_b2, x_o1, x_o2, r_O4, q, ls]
  intro m
  induction m with
  | zero => intro x3 M hJ hm h0; exact hend x3 M hJ (by omega)
  | succ m ih =>
    intro x3 M hJ hm h0
    rcases x_lt x3 120 with ⟨q, q_n⟩ | ⟨q, q_n⟩
    · have w1 : e_w (120 * d) = 120 * d := a_w_id (by omega) (by omega)
      have w2 : e_w (120 * d + x3) = 120 * d + x3 := a_w_id (by omega) (by omega)
      have w3 : e_w (1202 + x3) = 1202 + x3 := a_w_id (by omega) (by omega)
      have w4 : e_w (x3 + 1) = x3 + 1 := a_w_id (by omega) (by omega)
      have le := r_rdE (i := 120 * d + x3) (M := M) (by omega) (by omega)
      have st := fun v => r_stw (i := 1202 + x3) (v := v) (M := M) (by omega) (by omega)
      have hv : -2147483648 ≤ M 198 (120 * d + x3).toNat ∧ M 198 (120 * d + x3).toNat ≤ 2147483647 := c_M32 hJ.1 (by decide) (by decide +kernel)
      have u1 : r_J (e_up M 193 (1202 + x3).toNat (M 198 (120 * d + x3).toNat)) := r_J_far hJ (r_upw hv hJ.1) (fun id k h => r_n193 h) (fun i hi => r_G_n (by omega) (by omega)) (r_Z_eq (r_Zof hJ) (fun i i0 i1 => r_G_n (by omega) (by omega)))
      obtain ⟨r, M', k, t1, t2⟩ := ih (x3 + 1) _ u1 (by omega) (by omega)
      refine ⟨r, M', ?_, t1, a_fr_tr (r_frw (a := 1200) (b := 1321) List.mem_cons_self (by omega) (by omega)) t2⟩
      rw [E_V_eq]
      show e_tv E_C (E_V 225) e_t225_43 [192, d, 0, x3] M = _
      unfold e_t225_43
      simp [zq_a, zq_b, zq_c, zq_d, zq_e, zq_f, zq_g, zq_h, zq_i, zq_j, zq_k, zq_l, zq_m, zq_n, zq_o, zq_p, zq_q, zq_r, zq_s, zq_t, zq_u, zq_v, zq_w, zq_x, zq_y, zq_z, zq_A, zq_B, zq_C, zq_D, zq_E, zq_F, zq_G, zq_H, zq_I, zq_J, zq_K, zq_L, ↓zq_M, ↓zq_N, ↓zq_O, ↓zq_P, ↓zq_Q, ↓zq_R, zq_S, zq_T, zq_U, zq_V, zq_W, zq_X, zq_Y, zq_Z, zq_0, zq_1, zq_2, zq_3, zq_4, zq_5, ↓zq_6, ↓zq_7, ↓zq_8, ↓zq_9, ↓zq_aa, zq_ab, zq_ac, zq_ad, zq_ae, zq_af, zq_ag, ↓zq_ah, ↓zq_ai, ↓zq_aj, zq_ak, ↓zq_al, ↓zq_am, e_b1, e_b2, x_o1, x_o2, r_O0, r_O5, q, q_n, w1, w2, w3, w4, le, st, k]
    · exact hend x3 M hJ q
theorem r_sky {d : Int} {M : EM} (hJ : r_J M) : r_T r_wK 225 [192, d] M := by
  obtain ⟨n, kn, -, hn⟩ := r_wrongRow d (-1) M
  by_cases q : n = 0
  · subst q
    have hd := hn rfl
    have ls := (r_isD d M hd).2.2.1
    have lk := fun M => (r_isD d M hd).2.1
    have hz := hJ.2.1 d.toNat (by omega)
    have hv : -2147483648 ≤ M 196 d.toNat ∧ M 196 d.toNat ≤ 2147483647 := c_M32 hJ.1 (by decide) (by decide +kernel)
    have s0 : e_st 100 [193, 1200, M 197 d.toNat] M = some (e_up M 193 (1200 : Int).toNat (M 197 d.toNat)) := r_stw (i := 1200) (by decide) (by decide)
    have u1 : r_J (e_up M 193 (1200 : Int).toNat (M 197 d.toNat)) := by
      refine r_J_far hJ (r_upw ⟨by omega, by omega⟩ hJ.1) (fun id k h => r_n193 h) (fun i hi => r_G_n (by decide) (by omega)) ?_
      obtain ⟨z1, z2, z3, z4, z5⟩ := r_Zof hJ
      have far : ∀ i, i ≠ 1200 → r_G (e_up M 193 (1200 : Int).toNat (M 197 d.toNat)) i = r_G M i := fun i hi => r_G_n (by decide) hi
      have a1 : r_G (e_up M 193 (1200 : Int).toNat (M 197 d.toNat)) 1200 = M 197 d.toNat := r_G_s
      refine ⟨by rw [far _ (by decide)]; exact z1, by rw [far _ (by decide)]; exact z2, fun k k0 k1 => ?_, by rw [a1]; exact hz.1, by rw [a1]; exact hz.2⟩
      rw [far _ (by omega), far _ (by omega)]
      exact z3 k k0 k1
    have u2 : r_J (e_up (e_up M 193 (1200 : Int).toNat (M 197 d.toNat)) 193 (1201 : Int).toNat (M 196 d.toNat)) := r_J_far u1 (r_upw hv u1.1) (fun id k h => r_n193 h) (fun i hi => r_G_n (by decide) (by omega)) (r_Z_eq (r_Zof u1) (fun i i0 i1 => r_G_n (by decide) (by omega)))
    have s1 : e_st 100 [193, 1201, M 196 d.toNat] (e_up M 193 (1200 : Int).toNat (M 197 d.toNat)) = some (e_up (e_up M 193 (1200 : Int).toNat (M 197 d.toNat)) 193 (1201 : Int).toNat (M 196 d.toNat)) := r_stw (i := 1201) (by decide) (by decide)
    have lk2 : e_op 60 [196, d] (e_up M 193 (1200 : Int).toNat (M 197 d.toNat)) = some (M 196 d.toNat) := (lk _).trans (congrArg some (r_n193 (by decide)))
    obtain ⟨r, M', k, t1, t2⟩ := r_sky_loop hd 120 0 _ u2 (by decide) (by decide)
    refine ⟨r, M', ?_, t1, a_fr_tr (r_frw (a := 1200) (b := 1321) List.mem_cons_self (by decide) (by decide)) (a_fr_tr (r_frw (a := 1200) (b := 1321) List.mem_cons_self (by decide) (by decide)) t2)⟩
    rw [r_ent (show e_rok 225 [192, d] = true from decide_eq_true r_ref)]
    show e_tv E_C (E_V 225) e_t225_0 [192, d, 0, 0] M = _
    unfold e_t225_0
    simp only [show (1200 : Int).toNat = 1200 from rfl, show (1201 : Int).toNat = 1201 from rfl] at s0 s1 lk2 k
    simp [zq_a, zq_b, zq_c, zq_d, zq_e, zq_f, zq_g, zq_h, zq_i, zq_j, zq_k, zq_l, zq_m, zq_n, zq_o, zq_p, zq_q, zq_r, zq_s, zq_t, zq_u, zq_v, zq_w, zq_x, zq_y, zq_z, zq_A, zq_B, zq_C, zq_D, zq_E, zq_F, zq_G, zq_H, zq_I, zq_J, zq_K, zq_L, ↓zq_M, ↓zq_N, ↓zq_O, ↓zq_P, ↓zq_Q, ↓zq_R, zq_S, zq_T, zq_U, zq_V, zq_W, zq_X, zq_Y, zq_Z, zq_0, zq_1, zq_2, zq_3, zq_4, zq_5, ↓zq_6, ↓zq_7, ↓zq_8, ↓zq_9, ↓zq_aa, zq_ab, zq_ac, zq_ad, zq_ae, zq_af, zq_ag, ↓zq_ah, ↓zq_ai, ↓zq_aj, zq_ak, ↓zq_al, ↓zq_am, e_b1, e_b2, x_o1, x_o2, r_O0, r_O3, r_O4, kn, ls, s0, lk2, s1, k]
  · refine r_Ts (r := n) hJ ?_
    rw [r_ent (show e_rok 225 [192, d] = true from decide_eq_true r_ref)]
    show e_tv E_C (E_V 225) e_t225_0 [192, d, 0, 0] M = _
    unfold e_t225_0
    simp [zq_a, zq_b, zq_c, zq_d, zq_e, zq_f, zq_g, zq_h, zq_i, zq_j, zq_k, zq_l, zq_m, zq_n, zq_o, zq_p, zq_q, zq_r, zq_s, zq_t, zq_u, zq_v, zq_w, zq_x, zq_y, zq_z, zq_A, zq_B, zq_C, zq_D, zq_E, zq_F, zq_G, zq_H, zq_I, zq_J, zq_K, zq_L, ↓zq_M, ↓zq_N, ↓zq_O, ↓zq_P, ↓zq_Q, ↓zq_R, zq_S, zq_T, zq_U, zq_V, zq_W, zq_X, zq_Y, zq_Z, zq_0, zq_1, zq_2, zq_3, zq_4, zq_5, ↓zq_6, ↓zq_7, ↓zq_8, ↓zq_9, ↓zq_aa, zq_ab, zq_ac, zq_ad, zq_ae, zq_af, zq_ag, ↓zq_ah, ↓zq_ai, ↓zq_aj, zq_ak, ↓zq_al, ↓zq_am, e_b1, e_b2, x_o1, x_o2, kn, q]
theorem r_cp_M {M : EM} {s t i : Nat} (hs : s ≠ 5 ∧ s ≠ e_OUT) (ht : t ≠ 5 ∧ t ≠ e_OUT ∧ a_mi t = []) (hM : a_M M) : a_M (r_cp M s t i) := by
  intro b j hb
  unfold r_cp
  by_cases c : b = t ∧ i ≤ j ∧ j < 1330
  · rw [if_pos c]
    obtain ⟨rfl, -⟩ := c
    obtain ⟨m1, m2⟩ := c_M32 (k := j) hM hs.1 hs.2
    refine ⟨?_, ?_, fun q hq => ?_⟩
    · unfold a_lo; rw [if_neg ht.2.1]; exact m1
    · unfold a_hi; rw [if_neg ht.2.1]; exact m2
    · rw [ht.2.2] at hq; cases hq
  · rw [if_neg c]
    exact hM b j hb
theorem r_cp_t {M : EM} {s t j : Nat} (h : j < 1330) : r_cp M s t 0 t j = M s j := if_pos ⟨rfl, Nat.zero_le _, h⟩
theorem r_cp_n {M : EM} {s t i b j : Nat} (h : b ≠ t) : r_cp M s t i b j = M b j := if_neg (fun c => h c.1)
def r_wI : AW := [(194, 0, 1329), (192, 9, 9)]
theorem r_imageT {M : EM} (hJ : r_J M) : r_T r_wI 255 [192] M := by
  have hM1 : a_M (r_cp M 193 194 0) := r_cp_M ⟨by decide, by decide +kernel⟩ ⟨by decide, by decide +kernel, by decide +kernel⟩ hJ.1
  have hM2 : a_M (e_up (r_cp M 193 194 0) 192 9 1) := r_up (by decide) (by decide +kernel) (by decide +kernel) (by decide) hM1
  have e0 : ∀ id k, id ≠ 194 → ¬ (id = 192 ∧ k = 9) → e_up (r_cp M 193 194 0) 192 9 1 id k = M id k := fun id k h1 h2 => (c_up_n h2).trans (r_cp_n h1)
  have eG : r_G (e_up (r_cp M 193 194 0) 192 9 1) = r_G M := funext fun i => e0 _ _ (by decide) (fun h => absurd h.1 (by decide))
  obtain ⟨j1, j2, j3, j4, j5⟩ := hJ
  refine ⟨_, _, r_image M, ⟨hM2, fun j hj => ?_, by rw [eG]; exact j3, fun _ => ?_, ?_⟩, fun id k hw => ?_⟩
  · rw [e0 _ _ (by decide) (fun h => absurd h.1 (by decide))]; exact j2 j hj
  · have hi : ∀ i, i < 1330 → r_Gi (e_up (r_cp M 193 194 0) 192 9 1) i = r_G M i := fun i hi => (c_up_n (fun hc => absurd hc.1 (by decide))).trans (r_cp_t (by omega))
    exact r_W_far j3 (fun i h => hi i (by omega)) (r_Z_eq j3.2.2.2 (fun i i0 i1 => hi i (by omega)))
  · rw [e0 _ _ (by decide) (fun h => absurd h.2 (by decide))]; exact j5
  · have h1 := hw (194, 0, 1329) (by decide)
    have h2 := hw (192, 9, 9) (by decide)
    by_cases c : id = 194
    · subst c
      have hk : ¬ (k < 1330) := fun e => h1 ⟨rfl, Nat.zero_le _, by show k ≤ 1329; omega⟩
      exact (c_up_n (fun hc => absurd hc.1 (by decide))).trans (if_neg (fun c => hk c.2.2))
    · exact e0 id k c (fun e => h2 ⟨e.1.symm, by show 9 ≤ k; omega, by show k ≤ 9; omega⟩)
def r_wE : AW := [(193, 0, 1329)]
theorem r_restoreT {M : EM} (hJ : r_J M) : r_T r_wE 256 [192] M := by
  by_cases c : M 192 9 = 0
  · exact r_Ts (r := -3) hJ (by rw [r_restore, if_pos c])
  · have hM1 : a_M (r_cp M 194 193 0) := r_cp_M ⟨by decide, by decide +kernel⟩ ⟨by decide, by decide +kernel, by decide +kernel⟩ hJ.1
    have hi : ∀ i, i < 1330 → r_G (r_cp M 194 193 0) i = r_Gi M i := fun i hi => r_cp_t (by omega)
    have j4 := hJ.2.2.2.1 c
    refine ⟨_, _, by rw [r_restore, if_neg c], r_J_row hJ hM1 (fun id k h => r_cp_n h) (r_W_far j4 (fun i h => hi i (by omega)) (r_Z_eq j4.2.2.2 (fun i i0 i1 => hi i (by omega)))), fun id k hw => ?_⟩
    have h1 := hw (193, 0, 1329) (by decide)
    by_cases e : id = 193
    · subst e
      have hk : ¬ (k < 1330) := fun e => h1 ⟨rfl, Nat.zero_le _, by show k ≤ 1329; omega⟩
      exact if_neg (fun c => hk c.2.2)
    · exact r_cp_n e
theorem r_countT {w : Int} {M : EM} (hJ : r_J M) : r_T [] 257 [192, w] M := by
  obtain ⟨r, k⟩ := r_count (w := w) (r_W_N (r_J_E hJ).2.1)
  exact r_Ts hJ k
/-- what writes no more than the shelves' rows -/
theorem r_J_sh {M M' : EM} (hJ : r_J M) (hM : a_M M') (hI : r_I M') (hf : ∀ id k, id = 193 ∨ id = 194 ∨ (id = 192 ∧ k ≠ 10) → M' id k = M id k) : r_J M' := by
  obtain ⟨j1, j2, j3, j4, j5⟩ := hJ
  have e1 : r_G M' = r_G M := funext fun i => hf _ _ (Or.inl rfl)
  have e2 : r_Gi M' = r_Gi M := funext fun i => hf _ _ (Or.inr (Or.inl rfl))
  refine ⟨hM, hI, by rw [e1]; exact j3, ?_, ?_⟩
  · rw [hf 192 9 (Or.inr (Or.inr ⟨rfl, by decide⟩)), e2]; exact j4
  · rw [hf 192 20 (Or.inr (Or.inr ⟨rfl, by decide⟩))]; exact j5
theorem r_rowT {d s n : Int} {M : EM} (hJ : r_J M) (hn : n ≤ 2147483647) : r_T r_w259 259 [192, d, s, n] M := by
  obtain ⟨M', k, t1, t2, t3⟩ := r_row (d := d) (k := s) hJ.1 hn
  refine ⟨_, M', k, r_J_sh hJ t1 (fun j hj => ?_) (fun id k h => t2 id k ?_), c_sub_l t2⟩
  · rcases t3 j with h | h
    · rw [h]; exact hJ.2.1 j hj
    · exact h
  · have key : ∀ w ∈ r_w259, 195 ≤ w.1 := by decide
    intro w hw hc
    have := key w hw
    omega
theorem r_putT {d i v : Int} {M : EM} (hJ : r_J M) (hv : -2147483648 ≤ v ∧ v ≤ 2147483647) : r_T [(198, 0, 959)] 260 [192, d, i, v] M := by
  obtain ⟨r, M', k, t1, t2⟩ := r_put (d := d) (i := i) hJ.1 hJ.2.1 hv
  have h0 : ∀ id k, id ≠ 198 → M' id k = M id k := fun id k h => t2 id k (fun w hw hc => by cases List.mem_singleton.mp hw; exact h hc.1.symm)
  exact ⟨r, M', k, r_J_sh hJ t1 (fun j hj => by rw [h0 _ _ (by decide)]; exact hJ.2.1 j hj) (fun id k h => h0 id k (by omega)), c_sub_l t2⟩
theorem r_elementT {d i : Int} {M : EM} (hJ : r_J M) : r_T [] 261 [192, d, i] M := by
  obtain ⟨r, M', k, -, t1, t2⟩ := r_element (d := d) (i := i) hJ.1 hJ.2.1
  have h0 : ∀ id k, ¬ (id = 192 ∧ k = 10) → M' id k = M id k := fun id k h => t2 id k (fun w hw hc => by
    cases List.mem_singleton.mp hw
    exact h ⟨hc.1.symm, Nat.le_antisymm hc.2.2 hc.2.1⟩)
  exact ⟨r, M', k, r_J_sh hJ t1 (fun j hj => by rw [h0 _ _ (fun h => absurd h.1 (by decide))]; exact hJ.2.1 j hj) (fun id k h => h0 id k (by omega)), c_sub_r (a_sub_fr (by decide) t2)⟩
theorem r_copyT {d i e j n : Int} {M : EM} (hJ : r_J M) (hn : -2147483648 ≤ n ∧ n ≤ 2147483647) (hi : -2147483648 ≤ i ∧ i ≤ 2147483647) (hj : -2147483648 ≤ j ∧ j ≤ 2147483647) : r_T [(198, 0, 959)] 262 [192, d, i, e, j, n] M := by
  obtain ⟨r, M', k, t1, t2⟩ := r_copy (d := d) (i := i) (e := e) (j := j) hJ.1 hJ.2.1 hn hi hj
  have h0 : ∀ id k, id ≠ 198 → M' id k = M id k := fun id k h => t2 id k (fun w hw hc => by cases List.mem_singleton.mp hw; exact h hc.1.symm)
  exact ⟨r, M', k, r_J_sh hJ t1 (fun j hj => by rw [h0 _ _ (by decide)]; exact hJ.2.1 j hj) (fun id k h => h0 id k (by omega)), c_sub_l t2⟩
theorem r_weightT {d : Int} {M : EM} (hJ : r_J M) : r_T [] 264 [192, d] M := by
  obtain ⟨r, k⟩ := r_weight d M
  exact r_Ts hJ k
theorem r_tossT {d : Int} {M : EM} (hJ : r_J M) : r_T [] 265 [192, d] M := by
  obtain ⟨r, k⟩ := r_toss d M
  exact r_Ts hJ k
def r_wH : AW := [(195, 0, 7), (199, 0, 7), (200, 0, 7), (201, 0, 7)]
theorem r_sh_up {M : EM} {a k : Nat} {v : Int} (ha : a = 195 ∨ a = 199 ∨ a = 200 ∨ a = 201) (hk : k ≤ 7) (hv : -2147483648 ≤ v ∧ v ≤ 2147483647) (hJ : r_J M) : r_J (e_up M a k v) ∧ a_fr (r_wH ++ r_wq) M (e_up M a k v) := by
  have hm : a_mi a = [] ∧ a ≠ 5 ∧ a ≠ e_OUT ∧ (a, 0, 7) ∈ r_wH := by
    rcases ha with rfl | rfl | rfl | rfl <;> exact ⟨by decide +kernel, by decide, by decide +kernel, by decide⟩
  refine ⟨r_J_sh hJ (r_up hm.2.1 hm.2.2.1 hm.1 hv hJ.1) (fun j hj => ?_) (fun id k h => c_up_n (fun hc => by omega)), fun b j hw => c_up_n (fun hc => hw _ (List.mem_append.mpr (Or.inl hm.2.2.2)) ⟨hc.1.symm, Nat.zero_le _, by have := hc.2; show j ≤ 7; omega⟩)⟩
  rw [c_up_n (fun hc => by omega)]
  exact hJ.2.1 j hj
theorem r_shst {a : Int} {d v : Int} {M : EM} (ha : a = 195 ∨ a = 199 ∨ a = 200 ∨ a = 201) (hd : 0 ≤ d ∧ d ≤ 7) : e_st 100 [a, d, v] M = some (e_up M a.toNat d.toNat v) := by
  rcases ha with rfl | rfl | rfl | rfl <;> exact r_st (n := 8) (by decide) (by decide +kernel) (by decide +kernel) hd.1 (by omega)
theorem r_keep {d w p : Int} {M : EM} (hJ : r_J M) : r_T r_wH 258 [192, d, w, p] M := by
  have hW := (r_J_E hJ).2.1
  have ks := r_isShelf d M
  by_cases q0 : 0 ≤ d ∧ d ≤ 7
  · rw [if_pos q0] at ks
    by_cases q1 : 0 ≤ w ∧ w ≤ 1
    · have i1 := r_in1 (M := M) q1
      obtain ⟨u1, v1⟩ := r_sh_up (a := 195) (k := d.toNat) (v := w) (Or.inl rfl) (by omega) ⟨by omega, by omega⟩ hJ
      have s1 : e_st 100 [195, d, w] M = some (e_up M 195 d.toNat w) := r_shst (a := 195) (Or.inl rfl) q0
      by_cases q2 : w = 1
      · by_cases q3 : 0 ≤ p ∧ p < r_G M 1198
        · have ip := r_ip1 hW q3
          have h40 := r_40 hW q3
          have g1 : r_G (e_up M 195 d.toNat w) = r_G M := r_up_Gne (by decide)
          obtain ⟨M2, k2, u2, v2, c2⟩ := r_gathers u1 (p := p) (by rw [g1]; exact q3)
          have g2 : r_G M2 = r_G M := (r_q_G v2).trans g1
          have kk2 : E_C 170 [192, p] M2 = some (r_G M2 (28 * p), M2) := r_kind h40
          have s2 := fun v => r_shst (a := 199) (d := d) (v := v) (M := M2) (Or.inr (Or.inl rfl)) q0
          obtain ⟨u3, v3⟩ := r_sh_up (a := 199) (k := d.toNat) (v := r_G M2 (28 * p)) (Or.inr (Or.inl rfl)) (by omega) (r_gr u2.1 _) u2
          have g3 : r_G (e_up M2 199 d.toNat (r_G M2 (28 * p))) = r_G M := (r_up_Gne (by decide)).trans g2
          obtain ⟨c, kc, hc⟩ := r_currentOf (u := 0) (r_J_E u3) (r_J_E u3).2.1.2.1 (r_pt_of (r_J_E u3).2.1 (p := p) (by rw [g3]; exact q3))
          have s3 := fun M => r_shst (a := 201) (d := d) (v := c) (M := M) (Or.inr (Or.inr (Or.inr rfl))) q0
          obtain ⟨u4, v4⟩ := r_sh_up (a := 201) (k := d.toNat) (v := c) (Or.inr (Or.inr (Or.inr rfl))) (by omega) hc u3
          have g4 : r_G (e_up (e_up M2 199 d.toNat (r_G M2 (28 * p))) 201 d.toNat c) = r_G M := (r_up_Gne (by decide)).trans g3
          have hf4 : a_fr (r_wH ++ r_wq) M (e_up (e_up M2 199 d.toNat (r_G M2 (28 * p))) 201 d.toNat c) := a_fr_tr v1 (a_fr_tr (c_sub_r v2) (a_fr_tr v3 v4))
          generalize hM4 : e_up (e_up M2 199 d.toNat (r_G M2 (28 * p))) 201 d.toNat c = M4 at u4 g4 hf4
          have kk4 : E_C 170 [192, p] M4 = some (r_G M (28 * p), M4) := by rw [← g4]; exact r_kind h40
          have km4 : E_C 171 [192, p] M4 = some (r_G M (28 * p + 2), M4) := by rw [← g4]; exact r_many h40
          have w9 : e_w (10 + p) = 10 + p := a_w_id (by omega) (by omega)
          have hfin : ∀ v : Int, (-2147483648 ≤ v ∧ v ≤ 2147483647) → ∃ M', E_V 258 196 [192, d, w, p] (e_up M4 200 d.toNat v) = some (0, M') ∧ r_J M' ∧ a_fr (r_wH ++ r_wq) M M' := by
            intro v hv
            obtain ⟨u5, v5⟩ := r_sh_up (a := 200) (k := d.toNat) (v := v) (Or.inr (Or.inr (Or.inl rfl))) (by omega) hv u4
            refine ⟨_, ?_, u5, a_fr_tr hf4 v5⟩
            rw [E_V_eq]
            show e_tv E_C (E_V 258) e_t258_196 [192, d, w, p] (e_up M4 200 d.toNat v) = _
            unfold e_t258_196
            simp [zq_a, zq_b, zq_c, zq_d, zq_e, zq_f, zq_g, zq_h, zq_i, zq_j, zq_k, zq_l, zq_m, zq_n, zq_o, zq_p, zq_q, zq_r, zq_s, zq_t, zq_u, zq_v, zq_w, zq_x, zq_y, zq_z, zq_A, zq_B, zq_C, zq_D, zq_E, zq_F, zq_G, zq_H, zq_I, zq_J, zq_K, zq_L, ↓zq_M, ↓zq_N, ↓zq_O, ↓zq_P, ↓zq_Q, ↓zq_R, zq_S, zq_T, zq_U, zq_V, zq_W, zq_X, zq_Y, zq_Z, zq_0, zq_1, zq_2, zq_3, zq_4, zq_5, ↓zq_6, ↓zq_7, ↓zq_8, ↓zq_9, ↓zq_aa, zq_ab, zq_ac, zq_ad, zq_ae, zq_af, zq_ag, ↓zq_ah, ↓zq_ai, ↓zq_aj, zq_ak, ↓zq_al, ↓zq_am, e_b1, e_b2, x_o1, x_o2]
          have s4 := fun v => r_shst (a := 200) (d := d) (v := v) (M := M4) (Or.inr (Or.inr (Or.inl rfl))) q0
          have hpt := r_pt_of hW q3
          have hm := hpt
          have j104 : r_G M (28 * p) = 0 → ∃ M', E_V 258 104 [192, d, w, p] M4 = some (0, M') ∧ r_J M' ∧ a_fr (r_wH ++ r_wq) M M' := by
            intro hk
            have hcl := r_pt_cell hpt hk
            have h1 := hcl.2.2.2.1
            have h2 := hcl.2.2.2.2.1
            have w1 : e_w (r_G M (28 * p + 2) - 1) = r_G M (28 * p + 2) - 1 := a_w_id (by omega) (by omega)
            have w2 : e_w (28 * p) = 28 * p := a_w_id (by omega) (by omega)
            have w3 : e_w (28 * p + 3) = 28 * p + 3 := a_w_id (by omega) (by omega)
            have w4 : e_w (28 * p + 3 + (r_G M (28 * p + 2) - 1)) = 28 * p + 3 + (r_G M (28 * p + 2) - 1) := a_w_id (by omega) (by omega)
            have lo : e_op 60 [193, 28 * p + 3 + (r_G M (28 * p + 2) - 1)] M4 = some (r_G M4 (28 * p + 3 + (r_G M (28 * p + 2) - 1))) := r_rd (by omega) (by omega)
            have ko : E_C 172 [192, p, r_G M (28 * p + 2) - 1] M4 = some (r_G M4 (28 * p + 3 + (r_G M (28 * p + 2) - 1)), M4) := by
              rw [r_ent (show e_rok 172 [192, p, r_G M (28 * p + 2) - 1] = true from decide_eq_true r_ref)]
              show e_tv E_C (E_V 172) e_t172_0 [192, p, r_G M (28 * p + 2) - 1] M4 = _
              unfold e_t172_0
              simp [zq_a, zq_b, zq_c, zq_d, zq_e, zq_f, zq_g, zq_h, zq_i, zq_j, zq_k, zq_l, zq_m, zq_n, zq_o, zq_p, zq_q, zq_r, zq_s, zq_t, zq_u, zq_v, zq_w, zq_x, zq_y, zq_z, zq_A, zq_B, zq_C, zq_D, zq_E, zq_F, zq_G, zq_H, zq_I, zq_J, zq_K, zq_L, ↓zq_M, ↓zq_N, ↓zq_O, ↓zq_P, ↓zq_Q, ↓zq_R, zq_S, zq_T, zq_U, zq_V, zq_W, zq_X, zq_Y, zq_Z, zq_0, zq_1, zq_2, zq_3, zq_4, zq_5, ↓zq_6, ↓zq_7, ↓zq_8, ↓zq_9, ↓zq_aa, zq_ab, zq_ac, zq_ad, zq_ae, zq_af, zq_ag, ↓zq_ah, ↓zq_ai, ↓zq_aj, zq_ak, ↓zq_al, ↓zq_am, e_b1, e_b2, x_o1, x_o2, r_O0, w2, w3, w4, lo]
            obtain ⟨M', k, t⟩ := hfin (e_w (10 + p + r_G M4 (28 * p + 3 + (r_G M (28 * p + 2) - 1)))) (a_w _)
            refine ⟨M', ?_, t⟩
            rw [E_V_eq]
            show e_tv E_C (E_V 258) e_t258_104 [192, d, w, p] M4 = _
            unfold e_t258_104
            simp [zq_a, zq_b, zq_c, zq_d, zq_e, zq_f, zq_g, zq_h, zq_i, zq_j, zq_k, zq_l, zq_m, zq_n, zq_o, zq_p, zq_q, zq_r, zq_s, zq_t, zq_u, zq_v, zq_w, zq_x, zq_y, zq_z, zq_A, zq_B, zq_C, zq_D, zq_E, zq_F, zq_G, zq_H, zq_I, zq_J, zq_K, zq_L, ↓zq_M, ↓zq_N, ↓zq_O, ↓zq_P, ↓zq_Q, ↓zq_R, zq_S, zq_T, zq_U, zq_V, zq_W, zq_X, zq_Y, zq_Z, zq_0, zq_1, zq_2, zq_3, zq_4, zq_5, ↓zq_6, ↓zq_7, ↓zq_8, ↓zq_9, ↓zq_aa, zq_ab, zq_ac, zq_ad, zq_ae, zq_af, zq_ag, ↓zq_ah, ↓zq_ai, ↓zq_aj, zq_ak, ↓zq_al, ↓zq_am, e_b1, e_b2, x_o1, x_o2, r_O7, km4, w1, ko, w9, s4, k]
          have j130 : ∃ M', E_V 258 130 [192, d, w, p] M4 = some (0, M') ∧ r_J M' ∧ a_fr (r_wH ++ r_wq) M M' := by
            obtain ⟨M', k, t⟩ := hfin (e_w (10 + p + e_w (10 * M4 192 13))) (a_w _)
            refine ⟨M', ?_, t⟩
            rw [E_V_eq]
            show e_tv E_C (E_V 258) e_t258_130 [192, d, w, p] M4 = _
            unfold e_t258_130
            simp [zq_a, zq_b, zq_c, zq_d, zq_e, zq_f, zq_g, zq_h, zq_i, zq_j, zq_k, zq_l, zq_m, zq_n, zq_o, zq_p, zq_q, zq_r, zq_s, zq_t, zq_u, zq_v, zq_w, zq_x, zq_y, zq_z, zq_A, zq_B, zq_C, zq_D, zq_E, zq_F, zq_G, zq_H, zq_I, zq_J, zq_K, zq_L, ↓zq_M, ↓zq_N, ↓zq_O, ↓zq_P, ↓zq_Q, ↓zq_R, zq_S, zq_T, zq_U, zq_V, zq_W, zq_X, zq_Y, zq_Z, zq_0, zq_1, zq_2, zq_3, zq_4, zq_5, ↓zq_6, ↓zq_7, ↓zq_8, ↓zq_9, ↓zq_aa, zq_ab, zq_ac, zq_ad, zq_ae, zq_af, zq_ag, ↓zq_ah, ↓zq_ai, ↓zq_aj, zq_ak, ↓zq_al, ↓zq_am, e_b1, e_b2, x_o1, x_o2, r_O7, r_F13, w9, s4, k]
          have j151 : ∃ M', E_V 258 151 [192, d, w, p] M4 = some (0, M') ∧ r_J M' ∧ a_fr (r_wH ++ r_wq) M M' := by
            obtain ⟨M', k, t⟩ := hfin (e_w (2 * e_w (10 + p + e_w (10 * M4 192 13)))) (a_w _)
            refine ⟨M', ?_, t⟩
            rw [E_V_eq]
            show e_tv E_C (E_V 258) e_t258_151 [192, d, w, p] M4 = _
            unfold e_t258_151
            simp [zq_a, zq_b, zq_c, zq_d, zq_e, zq_f, zq_g, zq_h, zq_i, zq_j, zq_k, zq_l, zq_m, zq_n, zq_o, zq_p, zq_q, zq_r, zq_s, zq_t, zq_u, zq_v, zq_w, zq_x, zq_y, zq_z, zq_A, zq_B, zq_C, zq_D, zq_E, zq_F, zq_G, zq_H, zq_I, zq_J, zq_K, zq_L, ↓zq_M, ↓zq_N, ↓zq_O, ↓zq_P, ↓zq_Q, ↓zq_R, zq_S, zq_T, zq_U, zq_V, zq_W, zq_X, zq_Y, zq_Z, zq_0, zq_1, zq_2, zq_3, zq_4, zq_5, ↓zq_6, ↓zq_7, ↓zq_8, ↓zq_9, ↓zq_aa, zq_ab, zq_ac, zq_ad, zq_ae, zq_af, zq_ag, ↓zq_ah, ↓zq_ai, ↓zq_aj, zq_ak, ↓zq_al, ↓zq_am, e_b1, e_b2, x_o1, x_o2, r_O7, r_F13, w9, s4, k]
          have j174 : ∃ M', E_V 258 174 [192, d, w, p] M4 = some (0, M') ∧ r_J M' ∧ a_fr (r_wH ++ r_wq) M M' := by
            have w2 : e_w (28 * p) = 28 * p := a_w_id (by omega) (by omega)
            have w3 : e_w (28 * p + 5) = 28 * p + 5 := a_w_id (by omega) (by omega)
            have lo : e_op 60 [193, 28 * p + 5] M4 = some (r_G M4 (28 * p + 5)) := r_rd (by omega) (by omega)
            obtain ⟨M', k, t⟩ := hfin (e_w (10 + p + r_G M4 (28 * p + 5))) (a_w _)
            refine ⟨M', ?_, t⟩
            rw [E_V_eq]
            show e_tv E_C (E_V 258) e_t258_174 [192, d, w, p] M4 = _
            unfold e_t258_174
            simp [zq_a, zq_b, zq_c, zq_d, zq_e, zq_f, zq_g, zq_h, zq_i, zq_j, zq_k, zq_l, zq_m, zq_n, zq_o, zq_p, zq_q, zq_r, zq_s, zq_t, zq_u, zq_v, zq_w, zq_x, zq_y, zq_z, zq_A, zq_B, zq_C, zq_D, zq_E, zq_F, zq_G, zq_H, zq_I, zq_J, zq_K, zq_L, ↓zq_M, ↓zq_N, ↓zq_O, ↓zq_P, ↓zq_Q, ↓zq_R, zq_S, zq_T, zq_U, zq_V, zq_W, zq_X, zq_Y, zq_Z, zq_0, zq_1, zq_2, zq_3, zq_4, zq_5, ↓zq_6, ↓zq_7, ↓zq_8, ↓zq_9, ↓zq_aa, zq_ab, zq_ac, zq_ad, zq_ae, zq_af, zq_ag, ↓zq_ah, ↓zq_ai, ↓zq_aj, zq_ak, ↓zq_al, ↓zq_am, e_b1, e_b2, x_o1, x_o2, r_O0, r_O7, w2, w3, w9, lo, s4, k]
          have hgo : ∃ l : Nat, (∃ M', E_V 258 l [192, d, w, p] M4 = some (0, M') ∧ r_J M' ∧ a_fr (r_wH ++ r_wq) M M') ∧ ∀ t, e_tv E_C (E_V 258) e_t258_0 [192, d, w, p] M = t ↔ E_V 258 l [192, d, w, p] M4 = t := by
            unfold e_t258_0
            subst q2
            rcases hm with h | h | h | h
            · have hk := h.2.2.1
              refine ⟨104, j104 hk, fun t => ?_⟩
              rw [hk] at kk4
              simp [zq_a, zq_b, zq_c, zq_d, zq_e, zq_f, zq_g, zq_h, zq_i, zq_j, zq_k, zq_l, zq_m, zq_n, zq_o, zq_p, zq_q, zq_r, zq_s, zq_t, zq_u, zq_v, zq_w, zq_x, zq_y, zq_z, zq_A, zq_B, zq_C, zq_D, zq_E, zq_F, zq_G, zq_H, zq_I, zq_J, zq_K, zq_L, ↓zq_M, ↓zq_N, ↓zq_O, ↓zq_P, ↓zq_Q, ↓zq_R, zq_S, zq_T, zq_U, zq_V, zq_W, zq_X, zq_Y, zq_Z, zq_0, zq_1, zq_2, zq_3, zq_4, zq_5, ↓zq_6, ↓zq_7, ↓zq_8, ↓zq_9, ↓zq_aa, zq_ab, zq_ac, zq_ad, zq_ae, zq_af, zq_ag, ↓zq_ah, ↓zq_ai, ↓zq_aj, zq_ak, ↓zq_al, ↓zq_am, e_b1, e_b2, x_o1, x_o2, e_len, e_nth, r_O2, r_O6, r_O8, ks, i1, ip, s1, k2, kk2, s2, kc, s3, hM4, kk4]
            · have hk := h.2.2.1
              refine ⟨130, j130, fun t => ?_⟩
              rw [hk] at kk4
              simp [zq_a, zq_b, zq_c, zq_d, zq_e, zq_f, zq_g, zq_h, zq_i, zq_j, zq_k, zq_l, zq_m, zq_n, zq_o, zq_p, zq_q, zq_r, zq_s, zq_t, zq_u, zq_v, zq_w, zq_x, zq_y, zq_z, zq_A, zq_B, zq_C, zq_D, zq_E, zq_F, zq_G, zq_H, zq_I, zq_J, zq_K, zq_L, ↓zq_M, ↓zq_N, ↓zq_O, ↓zq_P, ↓zq_Q, ↓zq_R, zq_S, zq_T, zq_U, zq_V, zq_W, zq_X, zq_Y, zq_Z, zq_0, zq_1, zq_2, zq_3, zq_4, zq_5, ↓zq_6, ↓zq_7, ↓zq_8, ↓zq_9, ↓zq_aa, zq_ab, zq_ac, zq_ad, zq_ae, zq_af, zq_ag, ↓zq_ah, ↓zq_ai, ↓zq_aj, zq_ak, ↓zq_al, ↓zq_am, e_b1, e_b2, x_o1, x_o2, e_len, e_nth, r_O2, r_O6, r_O8, ks, i1, ip, s1, k2, kk2, s2, kc, s3, hM4, kk4]
            · have hk := h.2.2.1
              refine ⟨151, j151, fun t => ?_⟩
              rw [hk] at kk4
              simp [zq_a, zq_b, zq_c, zq_d, zq_e, zq_f, zq_g, zq_h, zq_i, zq_j, zq_k, zq_l, zq_m, zq_n, zq_o, zq_p, zq_q, zq_r, zq_s, zq_t, zq_u, zq_v, zq_w, zq_x, zq_y, zq_z, zq_A, zq_B, zq_C, zq_D, zq_E, zq_F, zq_G, zq_H, zq_I, zq_J, zq_K, zq_L, ↓zq_M, ↓zq_N, ↓zq_O, ↓zq_P, ↓zq_Q, ↓zq_R, zq_S, zq_T, zq_U, zq_V, zq_W, zq_X, zq_Y, zq_Z, zq_0, zq_1, zq_2, zq_3, zq_4, zq_5, ↓zq_6, ↓zq_7, ↓zq_8, ↓zq_9, ↓zq_aa, zq_ab, zq_ac, zq_ad, zq_ae, zq_af, zq_ag, ↓zq_ah, ↓zq_ai, ↓zq_aj, zq_ak, ↓zq_al, ↓zq_am, e_b1, e_b2, x_o1, x_o2, e_len, e_nth, r_O2, r_O6, r_O8, ks, i1, ip, s1, k2, kk2, s2, kc, s3, hM4, kk4]
            · have hk := h.2.2.1
              refine ⟨174, j174, fun t => ?_⟩
              rw [hk] at kk4
              simp [zq_a, zq_b, zq_c, zq_d, zq_e, zq_f, zq_g, zq_h, zq_i, zq_j, zq_k, zq_l, zq_m, zq_n, zq_o, zq_p, zq_q, zq_r, zq_s, zq_t, zq_u, zq_v, zq_w, zq_x, zq_y, zq_z, zq_A, zq_B, zq_C, zq_D, zq_E, zq_F, zq_G, zq_H, zq_I, zq_J, zq_K, zq_L, ↓zq_M, ↓zq_N, ↓zq_O, ↓zq_P, ↓zq_Q, ↓zq_R, zq_S, zq_T, zq_U, zq_V, zq_W, zq_X, zq_Y, zq_Z, zq_0, zq_1, zq_2, zq_3, zq_4, zq_5, ↓zq_6, ↓zq_7, ↓zq_8, ↓zq_9, ↓zq_aa, zq_ab, zq_ac, zq_ad, zq_ae, zq_af, zq_ag, ↓zq_ah, ↓zq_ai, ↓zq_aj, zq_ak, ↓zq_al, ↓zq_am, e_b1, e_b2, x_o1, x_o2, e_len, e_nth, r_O2, r_O6, r_O8, ks, i1, ip, s1, k2, kk2, s2, kc, s3, hM4, kk4]
          obtain ⟨l, ⟨M', k, t⟩, hgo⟩ := hgo
          refine ⟨0, M', ?_, t⟩
          rw [r_ent (show e_rok 258 [192, d, w, p] = true from decide_eq_true r_ref)]
          show e_tv E_C (E_V 258) e_t258_0 [192, d, w, p] M = _
          unfold e_t258_0
          exact (hgo _).mpr k
        · have ip := r_ip0 hW q3
          refine r_Ts (r := -1) hJ ?_
          subst q2
          rw [r_ent (show e_rok 258 [192, d, 1, p] = true from decide_eq_true r_ref)]
          show e_tv E_C (E_V 258) e_t258_0 [192, d, 1, p] M = _
          unfold e_t258_0
          simp [zq_a, zq_b, zq_c, zq_d, zq_e, zq_f, zq_g, zq_h, zq_i, zq_j, zq_k, zq_l, zq_m, zq_n, zq_o, zq_p, zq_q, zq_r, zq_s, zq_t, zq_u, zq_v, zq_w, zq_x, zq_y, zq_z, zq_A, zq_B, zq_C, zq_D, zq_E, zq_F, zq_G, zq_H, zq_I, zq_J, zq_K, zq_L, ↓zq_M, ↓zq_N, ↓zq_O, ↓zq_P, ↓zq_Q, ↓zq_R, zq_S, zq_T, zq_U, zq_V, zq_W, zq_X, zq_Y, zq_Z, zq_0, zq_1, zq_2, zq_3, zq_4, zq_5, ↓zq_6, ↓zq_7, ↓zq_8, ↓zq_9, ↓zq_aa, zq_ab, zq_ac, zq_ad, zq_ae, zq_af, zq_ag, ↓zq_ah, ↓zq_ai, ↓zq_aj, zq_ak, ↓zq_al, ↓zq_am, e_b1, e_b2, x_o1, x_o2, ks, i1, ip]
      · have q2' : w = 0 := by omega
        refine ⟨0, _, ?_, u1, v1⟩
        subst q2'
        rw [r_ent (show e_rok 258 [192, d, 0, p] = true from decide_eq_true r_ref)]
        show e_tv E_C (E_V 258) e_t258_0 [192, d, 0, p] M = _
        unfold e_t258_0
        simp [zq_a, zq_b, zq_c, zq_d, zq_e, zq_f, zq_g, zq_h, zq_i, zq_j, zq_k, zq_l, zq_m, zq_n, zq_o, zq_p, zq_q, zq_r, zq_s, zq_t, zq_u, zq_v, zq_w, zq_x, zq_y, zq_z, zq_A, zq_B, zq_C, zq_D, zq_E, zq_F, zq_G, zq_H, zq_I, zq_J, zq_K, zq_L, ↓zq_M, ↓zq_N, ↓zq_O, ↓zq_P, ↓zq_Q, ↓zq_R, zq_S, zq_T, zq_U, zq_V, zq_W, zq_X, zq_Y, zq_Z, zq_0, zq_1, zq_2, zq_3, zq_4, zq_5, ↓zq_6, ↓zq_7, ↓zq_8, ↓zq_9, ↓zq_aa, zq_ab, zq_ac, zq_ad, zq_ae, zq_af, zq_ag, ↓zq_ah, ↓zq_ai, ↓zq_aj, zq_ak, ↓zq_al, ↓zq_am, e_b1, e_b2, x_o1, x_o2, r_O2, ks, i1, s1]
    · have i1 := r_in0 (M := M) q1
      refine r_Ts (r := -1) hJ ?_
      rw [r_ent (show e_rok 258 [192, d, w, p] = true from decide_eq_true r_ref)]
      show e_tv E_C (E_V 258) e_t258_0 [192, d, w, p] M = _
      unfold e_t258_0
      simp [zq_a, zq_b, zq_c, zq_d, zq_e, zq_f, zq_g, zq_h, zq_i, zq_j, zq_k, zq_l, zq_m, zq_n, zq_o, zq_p, zq_q, zq_r, zq_s, zq_t, zq_u, zq_v, zq_w, zq_x, zq_y, zq_z, zq_A, zq_B, zq_C, zq_D, zq_E, zq_F, zq_G, zq_H, zq_I, zq_J, zq_K, zq_L, ↓zq_M, ↓zq_N, ↓zq_O, ↓zq_P, ↓zq_Q, ↓zq_R, zq_S, zq_T, zq_U, zq_V, zq_W, zq_X, zq_Y, zq_Z, zq_0, zq_1, zq_2, zq_3, zq_4, zq_5, ↓zq_6, ↓zq_7, ↓zq_8, ↓zq_9, ↓zq_aa, zq_ab, zq_ac, zq_ad, zq_ae, zq_af, zq_ag, ↓zq_ah, ↓zq_ai, ↓zq_aj, zq_ak, ↓zq_al, ↓zq_am, e_b1, e_b2, x_o1, x_o2, ks, i1]
  · rw [if_neg q0] at ks
    refine r_Ts (r := -1) hJ ?_
    rw [r_ent (show e_rok 258 [192, d, w, p] = true from decide_eq_true r_ref)]
    show e_tv E_C (E_V 258) e_t258_0 [192, d, w, p] M = _
    unfold e_t258_0
    simp [zq_a, zq_b, zq_c, zq_d, zq_e, zq_f, zq_g, zq_h, zq_i, zq_j, zq_k, zq_l, zq_m, zq_n, zq_o, zq_p, zq_q, zq_r, zq_s, zq_t, zq_u, zq_v, zq_w, zq_x, zq_y, zq_z, zq_A, zq_B, zq_C, zq_D, zq_E, zq_F, zq_G, zq_H, zq_I, zq_J, zq_K, zq_L, ↓zq_M, ↓zq_N, ↓zq_O, ↓zq_P, ↓zq_Q, ↓zq_R, zq_S, zq_T, zq_U, zq_V, zq_W, zq_X, zq_Y, zq_Z, zq_0, zq_1, zq_2, zq_3, zq_4, zq_5, ↓zq_6, ↓zq_7, ↓zq_8, ↓zq_9, ↓zq_aa, zq_ab, zq_ac, zq_ad, zq_ae, zq_af, zq_ag, ↓zq_ah, ↓zq_ai, ↓zq_aj, zq_ak, ↓zq_al, ↓zq_am, e_b1, e_b2, x_o1, x_o2, ks]
