/-! sky, keep, image, restore, count and the shelves' calls, of the reference, with what holds between calls -/
def r_wK : AW := [(193, 1200, 1321)]
theorem r_sky_loop {d : Int} (hd : 0 ≤ d ∧ d ≤ 7) : ∀ (m : Nat) (x3 : Int) (M : EM), r_J M → (120 - x3).toNat ≤ m → 0 ≤ x3 → ∃ r M', E_V 225 43 [192, d, 0, x3] M = some (r, M') ∧ r_J M' ∧ a_fr (r_wK ++ r_wq) M M' := by
  have hend : ∀ x3 M, r_J M → ¬ (x3 < 120) → ∃ r M', E_V 225 43 [192, d, 0, x3] M = some (r, M') ∧ r_J M' ∧ a_fr (r_wK ++ r_wq) M M' := by
    intro x3 M hJ q
    have ls := (r_isD d M hd).2.2.1
    refine ⟨M 197 d.toNat, M, ?_, hJ, a_fr_rf⟩
    rw [E_V_eq]
    show e_tv E_C (E_V 225) e_t225_43 [192, d, 0, x3] M = _
    unfold e_t225_43
    simp [e_tv, e_ev, e_sv, e_b1, e_b2, x_o1, x_o2, r_O4, q, ls]
  intro m
  induction m with
  | zero => intro x3 M hJ hm h0; exact hend x3 M hJ (by omega)
  | succ m ih =>
    intro x3 M hJ hm h0
    rcases x_lt x3 120 with ⟨q, q_n⟩ | ⟨q, q_n⟩
    · have w1 : e_w (120 * d) = 120 * d := a_w_id (by omega) (by omega)
      have w2 : e_w (120 * d + x3) = 120 * d + x3 := a_w_id (by omega) (by omega)
      have w3 : e_w (1202 + x3) = 1202 + x3 := a_w_id (by omega) (by omega)
      have w4 : e_w (x3 + 1) = x3 + 1 := a_w_id (by omega) (by omega)
      have le := r_rdE (i := 120 * d + x3) (M := M) (by omega) (by omega)
      have st := fun v => r_stw (i := 1202 + x3) (v := v) (M := M) (by omega) (by omega)
      have hv : -2147483648 ≤ M 198 (120 * d + x3).toNat ∧ M 198 (120 * d + x3).toNat ≤ 2147483647 := c_M32 hJ.1 (by decide) (by decide +kernel)
      have u1 : r_J (e_up M 193 (1202 + x3).toNat (M 198 (120 * d + x3).toNat)) := r_J_far hJ (r_upw hv hJ.1) (fun id k h => r_n193 h) (fun i hi => r_G_n (by omega) (by omega)) (r_Z_eq (r_Zof hJ) (fun i i0 i1 => r_G_n (by omega) (by omega)))
      obtain ⟨r, M', k, t1, t2⟩ := ih (x3 + 1) _ u1 (by omega) (by omega)
      refine ⟨r, M', ?_, t1, a_fr_tr (r_frw (a := 1200) (b := 1321) List.mem_cons_self (by omega) (by omega)) t2⟩
      rw [E_V_eq]
      show e_tv E_C (E_V 225) e_t225_43 [192, d, 0, x3] M = _
      unfold e_t225_43
      simp [e_tv, e_ev, e_sv, e_b1, e_b2, x_o1, x_o2, r_O0, r_O5, q, q_n, w1, w2, w3, w4, le, st, k]
    · exact hend x3 M hJ q
theorem r_sky {d : Int} {M : EM} (hJ : r_J M) : r_T r_wK 225 [192, d] M := by
  obtain ⟨n, kn, -, hn⟩ := r_wrongRow d (-1) M
  by_cases q : n = 0
  · subst q
    have hd := hn rfl
    have ls := (r_isD d M hd).2.2.1
    have lk := fun M => (r_isD d M hd).2.1
    have hz := hJ.2.1 d.toNat (by omega)
    have hv : -2147483648 ≤ M 196 d.toNat ∧ M 196 d.toNat ≤ 2147483647 := c_M32 hJ.1 (by decide) (by decide +kernel)
    have s0 : e_st 100 [193, 1200, M 197 d.toNat] M = some (e_up M 193 (1200 : Int).toNat (M 197 d.toNat)) := r_stw (i := 1200) (by decide) (by decide)
    have u1 : r_J (e_up M 193 (1200 : Int).toNat (M 197 d.toNat)) := by
      refine r_J_far hJ (r_upw ⟨by omega, by omega⟩ hJ.1) (fun id k h => r_n193 h) (fun i hi => r_G_n (by decide) (by omega)) ?_
      obtain ⟨z1, z2, z3, z4, z5⟩ := r_Zof hJ
      have far : ∀ i, i ≠ 1200 → r_G (e_up M 193 (1200 : Int).toNat (M 197 d.toNat)) i = r_G M i := fun i hi => r_G_n (by decide) hi
      have a1 : r_G (e_up M 193 (1200 : Int).toNat (M 197 d.toNat)) 1200 = M 197 d.toNat := r_G_s
      refine ⟨by rw [far _ (by decide)]; exact z1, by rw [far _ (by decide)]; exact z2, fun k k0 k1 => ?_, by rw [a1]; exact hz.1, by rw [a1]; exact hz.2⟩
      rw [far _ (by omega), far _ (by omega)]
      exact z3 k k0 k1
    have u2 : r_J (e_up (e_up M 193 (1200 : Int).toNat (M 197 d.toNat)) 193 (1201 : Int).toNat (M 196 d.toNat)) := r_J_far u1 (r_upw hv u1.1) (fun id k h => r_n193 h) (fun i hi => r_G_n (by decide) (by omega)) (r_Z_eq (r_Zof u1) (fun i i0 i1 => r_G_n (by decide) (by omega)))
    have s1 : e_st 100 [193, 1201, M 196 d.toNat] (e_up M 193 (1200 : Int).toNat (M 197 d.toNat)) = some (e_up (e_up M 193 (1200 : Int).toNat (M 197 d.toNat)) 193 (1201 : Int).toNat (M 196 d.toNat)) := r_stw (i := 1201) (by decide) (by decide)
    have lk2 : e_op 60 [196, d] (e_up M 193 (1200 : Int).toNat (M 197 d.toNat)) = some (M 196 d.toNat) := (lk _).trans (congrArg some (r_n193 (by decide)))
    obtain ⟨r, M', k, t1, t2⟩ := r_sky_loop hd 120 0 _ u2 (by decide) (by decide)
    refine ⟨r, M', ?_, t1, a_fr_tr (r_frw (a := 1200) (b := 1321) List.mem_cons_self (by decide) (by decide)) (a_fr_tr (r_frw (a := 1200) (b := 1321) List.mem_cons_self (by decide) (by decide)) t2)⟩
    rw [r_ent (show e_rok 225 [192, d] = true from decide_eq_true r_ref)]
    show e_tv E_C (E_V 225) e_t225_0 [192, d, 0, 0] M = _
    unfold e_t225_0
    simp only [show (1200 : Int).toNat = 1200 from rfl, show (1201 : Int).toNat = 1201 from rfl] at s0 s1 lk2 k
    simp [e_tv, e_ev, e_sv, e_b1, e_b2, x_o1, x_o2, r_O0, r_O3, r_O4, kn, ls, s0, lk2, s1, k]
  · refine r_Ts (r := n) hJ ?_
    rw [r_ent (show e_rok 225 [192, d] = true from decide_eq_true r_ref)]
    show e_tv E_C (E_V 225) e_t225_0 [192, d, 0, 0] M = _
    unfold e_t225_0
    simp [e_tv, e_ev, e_sv, e_b1, e_b2, x_o1, x_o2, kn, q]
theorem r_cp_M {M : EM} {s t i : Nat} (hs : s ≠ 5 ∧ s ≠ e_OUT) (ht : t ≠ 5 ∧ t ≠ e_OUT ∧ a_mi t = []) (hM : a_M M) : a_M (r_cp M s t i) := by
  intro b j hb
  unfold r_cp
  by_cases c : b = t ∧ i ≤ j ∧ j < 1330
  · rw [if_pos c]
    obtain ⟨rfl, -⟩ := c
    obtain ⟨m1, m2⟩ := c_M32 (k := j) hM hs.1 hs.2
    refine ⟨?_, ?_, fun q hq => ?_⟩
    · unfold a_lo; rw [if_neg ht.2.1]; exact m1
    · unfold a_hi; rw [if_neg ht.2.1]; exact m2
    · rw [ht.2.2] at hq; cases hq
  · rw [if_neg c]
    exact hM b j hb
theorem r_cp_t {M : EM} {s t j : Nat} (h : j < 1330) : r_cp M s t 0 t j = M s j := if_pos ⟨rfl, Nat.zero_le _, h⟩
theorem r_cp_n {M : EM} {s t i b j : Nat} (h : b ≠ t) : r_cp M s t i b j = M b j := if_neg (fun c => h c.1)
def r_wI : AW := [(194, 0, 1329), (192, 9, 9)]
theorem r_imageT {M : EM} (hJ : r_J M) : r_T r_wI 255 [192] M := by
  have hM1 : a_M (r_cp M 193 194 0) := r_cp_M ⟨by decide, by decide +kernel⟩ ⟨by decide, by decide +kernel, by decide +kernel⟩ hJ.1
  have hM2 : a_M (e_up (r_cp M 193 194 0) 192 9 1) := r_up (by decide) (by decide +kernel) (by decide +kernel) (by decide) hM1
  have e0 : ∀ id k, id ≠ 194 → ¬ (id = 192 ∧ k = 9) → e_up (r_cp M 193 194 0) 192 9 1 id k = M id k := fun id k h1 h2 => (c_up_n h2).trans (r_cp_n h1)
  have eG : r_G (e_up (r_cp M 193 194 0) 192 9 1) = r_G M := funext fun i => e0 _ _ (by decide) (fun h => absurd h.1 (by decide))
  obtain ⟨j1, j2, j3, j4, j5⟩ := hJ
  refine ⟨_, _, r_image M, ⟨hM2, fun j hj => ?_, by rw [eG]; exact j3, fun _ => ?_, ?_⟩, fun id k hw => ?_⟩
  · rw [e0 _ _ (by decide) (fun h => absurd h.1 (by decide))]; exact j2 j hj
  · have hi : ∀ i, i < 1330 → r_Gi (e_up (r_cp M 193 194 0) 192 9 1) i = r_G M i := fun i hi => (c_up_n (fun hc => absurd hc.1 (by decide))).trans (r_cp_t (by omega))
    exact r_W_far j3 (fun i h => hi i (by omega)) (r_Z_eq j3.2.2.2 (fun i i0 i1 => hi i (by omega)))
  · rw [e0 _ _ (by decide) (fun h => absurd h.2 (by decide))]; exact j5
  · have h1 := hw (194, 0, 1329) (by decide)
    have h2 := hw (192, 9, 9) (by decide)
    by_cases c : id = 194
    · subst c
      have hk : ¬ (k < 1330) := fun e => h1 ⟨rfl, Nat.zero_le _, by show k ≤ 1329; omega⟩
      exact (c_up_n (fun hc => absurd hc.1 (by decide))).trans (if_neg (fun c => hk c.2.2))
    · exact e0 id k c (fun e => h2 ⟨e.1.symm, by show 9 ≤ k; omega, by show k ≤ 9; omega⟩)
