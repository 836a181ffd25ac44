theorem r_tx_36 {d x3 x4 : Int} {M0 : EM} (hJ : r_J M0) : ∀ (m : Nat) (N : EM), r_ty N → (∀ id k, ¬ (id = 192 ∧ (15 ≤ k ∧ k ≤ 18)) → N id k = M0 id k) → (N 192 17 - N 192 15).toNat ≤ m → ∃ r M', E_V 190 36 [192, d, 0, x3, x4] N = some (r, M') ∧ r_J M' ∧ a_fr (r_wX ++ r_wq) M0 M' := by
  have hJ0 := hJ
  -- behind a STATEMENT that was read, at the end of the TEXT
  have go : ∀ N1 : EM, r_ty N1 → r_N99 N1 → (∀ id k, ¬ (id = 192 ∧ (15 ≤ k ∧ k ≤ 18)) → N1 id k = M0 id k) → ∃ r M', E_V 190 65 [192, d, 0, 0, x4] N1 = some (r, M') ∧ r_J M' ∧ a_fr (r_wX ++ r_wq) M0 M' := by
    intro N1 T1 hn h1
    have k1 := r_tx_65 (d := d) (x4 := x4) 1330 0 N1 (by decide) (by decide)
    obtain ⟨t1, t2, t3, t4, t5, t6⟩ := T1
    have c0 : ∀ id k, id ≠ 204 → ¬ (id = 192 ∧ k = 15) → (e_up (r_cp N1 193 204 0) 192 15 0) id k = N1 id k := fun id k h2 h3 => (c_up_n h3).trans (r_cp_n h2)
    have eG : r_G (e_up (r_cp N1 193 204 0) 192 15 0) = r_G M0 := funext fun i => (c0 _ _ (by decide) (by omega)).trans (h1 _ _ (by omega))
    have hv : r_TV M0 (e_up (r_cp N1 193 204 0) 192 15 0) := by
      refine ⟨r_up (by decide) (by decide +kernel) (by decide +kernel) (by decide) (r_cp_M ⟨by decide, by decide +kernel⟩ ⟨by decide, by decide +kernel, by decide +kernel⟩ t1), by rw [eG]; exact (r_J_E hJ0).2.1, ?_, fun id k h2 h3 h4 => (c0 id k h3 (by omega)).trans (h1 id k h4), fun i _ _ => by rw [eG], fun k hk => ?_, fun k hk => ?_, by rw [c_up_s]; decide, ?_, ?_, ?_⟩
      · unfold r_N99
        rw [c0 _ _ (by decide) (by omega)]
        exact hn
      · refine (c_up_n (fun hc => absurd hc.1 (by decide))).trans ((r_cp_t hk).trans (h1 _ _ (by omega)))
      · refine (c_up_n (fun hc => absurd hc.1 (by decide))).trans ((if_neg (fun c => by have := c.2.2; omega)).trans (h1 _ _ (by omega)))
      · rw [c0 _ _ (by decide) (by omega)]; exact t4
      · rw [c0 _ _ (by decide) (by omega)]; exact t5
      · rw [c0 _ _ (by decide) (by omega)]; exact t6
    obtain ⟨r, M', k, t⟩ := r_tx_95 (d := d) hJ0 _ 1330 x4 _ hv (Nat.le_refl _)
    exact ⟨r, M', k1.trans k, t⟩
  intro m
  induction m with
  | zero =>
    intro N T h1 hm
    obtain ⟨s, N1, k1, t1, hs, hs1⟩ := r_rStat T
    have T1 := r_tt_ty T t1
    have h2 : ∀ id k, ¬ (id = 192 ∧ (15 ≤ k ∧ k ≤ 18)) → N1 id k = M0 id k := fun id k h => (t1.2.1 id k (by omega)).trans (h1 id k h)
    rcases hs with hs | hs
    · subst hs
      obtain ⟨z1, z2⟩ := r_TV_fin hJ0 T1.1 (by rw [show r_G N1 = r_G M0 from funext fun i => h2 _ _ (by omega)]; exact (r_J_E hJ0).2.1) (fun id k _ _ h => h2 id k h) (fun i _ _ => h2 _ _ (by omega)) (fun k _ => h2 _ _ (by omega))
      refine ⟨e_w (-1000 - N1 192 15), N1, ?_, z1, z2⟩
      rw [E_V_eq]
      show e_tv E_C (E_V 190) e_t190_36 [192, d, 0, x3, x4] N = _
      unfold e_t190_36
      simp [e_tv, e_ev, e_sv, e_b1, e_b2, x_o1, x_o2, r_F15, k1]
    · have g := hs1 hs
      have e17 := r_tt_17 t1
      have l3 := t1.2.2.1
      have q : N1 192 17 ≤ N1 192 15 := by omega
      have q' : ¬ (N1 192 15 < N1 192 17) := by omega
      obtain ⟨r, M', k, t⟩ := go N1 T1 g.2 h2
      refine ⟨r, M', ?_, t⟩
      subst hs
      rw [E_V_eq]
      show e_tv E_C (E_V 190) e_t190_36 [192, d, 0, x3, x4] N = _
      unfold e_t190_36
      simp [e_tv, e_ev, e_sv, e_b1, e_b2, x_o1, x_o2, r_F15, r_F17, k1, q, q', k]
  | succ m ih =>
    intro N T h1 hm
    obtain ⟨s, N1, k1, t1, hs, hs1⟩ := r_rStat T
    have T1 := r_tt_ty T t1
    have h2 : ∀ id k, ¬ (id = 192 ∧ (15 ≤ k ∧ k ≤ 18)) → N1 id k = M0 id k := fun id k h => (t1.2.1 id k (by omega)).trans (h1 id k h)
    rcases hs with hs | hs
    · subst hs
      obtain ⟨z1, z2⟩ := r_TV_fin hJ0 T1.1 (by rw [show r_G N1 = r_G M0 from funext fun i => h2 _ _ (by omega)]; exact (r_J_E hJ0).2.1) (fun id k _ _ h => h2 id k h) (fun i _ _ => h2 _ _ (by omega)) (fun k _ => h2 _ _ (by omega))
      refine ⟨e_w (-1000 - N1 192 15), N1, ?_, z1, z2⟩
      rw [E_V_eq]
      show e_tv E_C (E_V 190) e_t190_36 [192, d, 0, x3, x4] N = _
      unfold e_t190_36
      simp [e_tv, e_ev, e_sv, e_b1, e_b2, x_o1, x_o2, r_F15, k1]
    · have g := hs1 hs
      have e17 := r_tt_17 t1
      rcases x_le (N1 192 17) (N1 192 15) with ⟨q, q_n⟩ | ⟨q, q_n⟩
      · obtain ⟨r, M', k, t⟩ := go N1 T1 g.2 h2
        refine ⟨r, M', ?_, t⟩
        subst hs
        rw [E_V_eq]
        show e_tv E_C (E_V 190) e_t190_36 [192, d, 0, x3, x4] N = _
        unfold e_t190_36
        simp [e_tv, e_ev, e_sv, e_b1, e_b2, x_o1, x_o2, r_F15, r_F17, k1, q, q_n, k]
      · obtain ⟨r, M', k, t⟩ := ih N1 T1 h2 (by omega)
        refine ⟨r, M', ?_, t⟩
        subst hs
        rw [E_V_eq]
        show e_tv E_C (E_V 190) e_t190_36 [192, d, 0, x3, x4] N = _
        unfold e_t190_36
        simp [e_tv, e_ev, e_sv, e_b1, e_b2, x_o1, x_o2, r_F15, r_F17, k1, q, q_n, k]
theorem r_text {d : Int} {M : EM} (hJ : r_J M) : r_T r_wX 190 [192, d] M := by
  obtain ⟨n, kn, -, hn⟩ := r_wrongRow d 0 M
  by_cases q : n = 0
  · subst q
    have hd := hn rfl
    have hz := hJ.2.1 d.toNat (by omega)
    have w1 : e_w (120 * d) = 120 * d := a_w_id (by omega) (by omega)
    have ls := fun M => (r_isD d M hd).2.2.1
    obtain ⟨u1, v1⟩ := r_qfld (k := 16) (v := 120 * d) (by decide) (by decide) ⟨by omega, by omega⟩ hJ
    obtain ⟨u2, v2⟩ := r_qfld (k := 17) (v := M 197 d.toNat) (by decide) (by decide) ⟨by omega, by omega⟩ u1
    obtain ⟨u3, v3⟩ := r_qfld (k := 15) (v := 0) (by decide) (by decide) (by decide) u2
    have p15 : (e_up (e_up (e_up M 192 16 (120 * d)) 192 17 (M 197 d.toNat)) 192 15 0) 192 15 = 0 := c_up_s
    have p16 : (e_up (e_up (e_up M 192 16 (120 * d)) 192 17 (M 197 d.toNat)) 192 15 0) 192 16 = 120 * d := (r_ff (by decide)).trans ((r_ff (by decide)).trans c_up_s)
    have p17 : (e_up (e_up (e_up M 192 16 (120 * d)) 192 17 (M 197 d.toNat)) 192 15 0) 192 17 = M 197 d.toNat := (r_ff (by decide)).trans c_up_s
    have e97 : (e_up M 192 16 (120 * d)) 197 d.toNat = M 197 d.toNat := c_up_n (fun hc => absurd hc.1 (by decide))
    obtain ⟨r, M', k, t1, t2⟩ := r_tx_36 (d := d) (x3 := 0) (x4 := 0) hJ _ (e_up (e_up (e_up M 192 16 (120 * d)) 192 17 (M 197 d.toNat)) 192 15 0) ⟨u3.1, by rw [p15]; decide, by rw [p15]; decide, by rw [p16]; omega, by rw [p16]; omega, by rw [p17]; exact hz.2⟩ (fun id k h => (c_up_n (fun hc => h ⟨hc.1, by omega⟩)).trans ((c_up_n (fun hc => h ⟨hc.1, by omega⟩)).trans (c_up_n (fun hc => h ⟨hc.1, by omega⟩)))) (Nat.le_refl _)
    refine ⟨r, M', ?_, t1, t2⟩
    rw [r_ent (show e_rok 190 [192, d] = true from decide_eq_true r_ref)]
    show e_tv E_C (E_V 190) e_t190_0 [192, d, 0, 0, 0] M = _
    unfold e_t190_0
    simp [e_tv, e_ev, e_sv, e_b1, e_b2, x_o1, x_o2, r_O4, r_P15, r_P16, r_P17, kn, w1, ls, e97, k]
  · refine r_Ts (r := n) hJ ?_
    rw [r_ent (show e_rok 190 [192, d] = true from decide_eq_true r_ref)]
    show e_tv E_C (E_V 190) e_t190_0 [192, d, 0, 0, 0] M = _
    unfold e_t190_0
    simp [e_tv, e_ev, e_sv, e_b1, e_b2, x_o1, x_o2, kn, q]

