/-! keep, row: what is kept, by both; weight, toss -/
def h_RW (M : EM) : Prop := h_RD M ∧ h_WW M
def h_KW : AW := [(195, 0, 7), (199, 0, 7), (200, 0, 7), (201, 0, 7)] ++ (List.range 8).map (fun d => (146 + 2 * d, 2, 3))
theorem h_keW {W : AW} {M M' : EM} (h : h_av h_KW W = true) (hf : a_fr W M M') (hW : h_WW M) : h_WW M' := by
  have a := h_av_ok h hf
  intro d hd
  have b := fun j hj => a (j, 0, 7) (show (j, 0, 7) ∈ h_KW from hj) d (Nat.zero_le _) (show d ≤ 7 by omega)
  have c := a (146 + 2 * d, 2, 3) (List.mem_append.mpr (Or.inr (List.mem_map.mpr ⟨d, List.mem_range.mpr hd, rfl⟩)))
  rw [show M' 195 d = M 195 d from b 195 (by decide), show M' 199 d = M 199 d from b 199 (by decide), show M' 200 d = M 200 d from b 200 (by decide), show M' 201 d = M 201 d from b 201 (by decide), show M' (146 + 2 * d) 2 = M (146 + 2 * d) 2 from c 2 (Nat.le_refl 2) (show 2 ≤ 3 by decide), show M' (146 + 2 * d) 3 = M (146 + 2 * d) 3 from c 3 (show 2 ≤ 3 by decide) (Nat.le_refl 3)]
  exact hW d hd
theorem h_WW_set {M M' : EM} (hW : h_WW M) {m : Nat} (new : M' 195 m = 1 → M' (146 + 2 * m) 2 = M' 200 m ∧ M' (146 + 2 * m) 3 = tf (M' 199 m) (M' 201 m) ∧ 0 ≤ M' 201 m ∧ M' 201 m ≤ 1000) (old : ∀ d : Nat, d < 8 → d ≠ m → M' 195 d = M 195 d ∧ M' 199 d = M 199 d ∧ M' 200 d = M 200 d ∧ M' 201 d = M 201 d ∧ M' (146 + 2 * d) 2 = M (146 + 2 * d) 2 ∧ M' (146 + 2 * d) 3 = M (146 + 2 * d) 3) : h_WW M' := by
  intro d hd h1
  by_cases e : d = m
  · subst e
    exact new h1
  · obtain ⟨a1, a2, a3, a4, a5, a6⟩ := old d hd e
    rw [a2, a3, a4, a5, a6]
    exact hW d hd (a1.symm.trans h1)
theorem wt_258z {m : Nat} {p : Int} {M1 : EM} (hm : m < 8) : E_C 258 [192, (m : Int), 0, p] M1 = some (0, e_up M1 195 m 0) := by
  have is : E_C 173 [(m : Int)] M1 = some (1, M1) := by rw [h_is, if_pos ⟨by omega, by omega⟩]
  have iw : E_C 168 [0, 0, 1] M1 = some (1, M1) := r_in1 (by decide)
  have st195 : ∀ v M, e_st 100 [195, (m : Int), v] M = some (e_up M 195 m v) := fun v M => r_st (a := 195) (n := 8) (by decide) (by decide +kernel) (by decide +kernel) (by omega) (by omega)
  generalize hmm : (m : Int) = mm at *
  rw [r_ent (show e_rok 258 [192, mm, 0, p] = true from decide_eq_true r_ref)]
  show e_tv E_C (E_V 258) e_t258_0 [192, mm, 0, p] M1 = _
  unfold e_t258_0
  simp [zq_a, zq_b, zq_c, zq_d, zq_e, zq_f, zq_g, zq_h, zq_i, zq_j, zq_k, zq_l, zq_m, zq_n, zq_o, zq_p, zq_q, zq_r, zq_s, zq_t, zq_u, zq_v, zq_w, zq_x, zq_y, zq_z, zq_A, zq_B, zq_C, zq_D, zq_E, zq_F, zq_G, zq_H, zq_I, zq_J, zq_K, zq_L, ↓zq_M, ↓zq_N, ↓zq_O, ↓zq_P, ↓zq_Q, ↓zq_R, zq_S, zq_T, zq_U, zq_V, zq_W, zq_X, zq_Y, zq_Z, zq_0, zq_1, zq_2, zq_3, zq_4, zq_5, ↓zq_6, ↓zq_7, ↓zq_8, ↓zq_9, ↓zq_aa, zq_ab, zq_ac, zq_ad, zq_ae, zq_af, zq_ag, ↓zq_ah, ↓zq_ai, ↓zq_aj, zq_ak, ↓zq_al, ↓zq_am, e_b1, e_b2, x_o1, x_o2, r_O2, is, iw, st195]
theorem h_keptW {d w k r1 r2 : Int} {M M1 M2 : EM} (hA : hd_all M) (hW : h_WW M) (J1 : r_J M1) (K1 : rx_K M1) (hfr : ∀ id i, 192 ≤ id → M1 id i = M id i) (k1 : E_C 139 [8, d, w, k] M = some (r1, M1)) (k2 : E_C 258 [192, d, w, k] M1 = some (r2, M2)) : h_WW M2 := by
  have eG1 : r_G M1 = r_G M := funext fun i => hfr _ _ (by decide)
  obtain ⟨r, M2', c1, c2⟩ := h_keep2 (d := d) (w := w) (p := k) J1
  have e3 := Prod.mk.inj (Option.some.inj (k2.symm.trans c1))
  obtain ⟨e3, e4⟩ := e3
  subst e3
  subst e4
  rw [eG1] at c2
  have ip := h_149 (k := k) (M := M)
  have h10 := hA.1.1
  rw [h10] at ip
  rcases c2 with ⟨⟨q0, q1, q2⟩, e, f⟩ | ⟨q, e, f⟩
  · obtain ⟨m, hm⟩ : ∃ m : Nat, d = m := ⟨d.toNat, by omega⟩
    subst hm
    have m8 : m < 8 := by omega
    have hh := (h_gr145 m8).2
    have c0 : E_C 154 [8, (m : Int)] M = some (((146 + 2 * m : Nat) : Int), M) := h_154a (by omega) (by omega) (h_rd145 m8 M)
    have hs : ((146 + 2 * m : Nat) : Int) ≠ -1 := by omega
    by_cases c : w = 1
    · subst c
      have hk := q2 rfl
      rw [if_pos hk] at ip
      obtain ⟨p, rfl⟩ : ∃ p : Nat, k = p := ⟨k.toNat, by omega⟩
      obtain ⟨Ma, a1, a2, a3⟩ := wt_165 hA hk.2
      have aG : r_G Ma = r_G M := funext fun i => a3 _ _ (by decide)
      have L6 : cu_nl (r_G M) (cu_in (r_G M) (p : Int)) ≤ 6 := by
        obtain ⟨N, -, ⟨⟨-, h⟩, -⟩, -⟩ := ax_1 hA hk.2
        exact h
      obtain ⟨Mb, b1, b3⟩ := wt_166 (k := p) a2 (by rw [aG]; exact hk.2) (by rw [aG]; exact L6)
      rw [aG] at b1
      have e1 := (Prod.mk.inj (Option.some.inj (k1.symm.trans (h_139b c0 hs ip a1 b1 (h_86 hh Mb))))).2
      rw [Int.toNat_natCast] at e1
      have pc := (ax_cap hA (p : Int)).resolve_right (fun h => h ⟨by omega, hk.2⟩)
      obtain ⟨N2, n1, z195, z199, z201, z200, zf⟩ := wt_258 (g := r_G M) eG1 J1 K1 (hd_cs_of hA.2.1) (hd_cvs_of hA.2.2.1) pc L6 m8 hk.2 (fun c3 => by
        obtain ⟨-, -, ⟨e0, e1, e2⟩, -, -⟩ := (hA.2.2.1 p hk.2).2.2.2 c3
        exact ⟨by omega, by omega⟩)
      have e2 := (Prod.mk.inj (Option.some.inj (k2.symm.trans n1))).2
      subst e2
      have sb : 0 ≤ ax_S (r_G M) (p : Int) 0 ∧ ax_S (r_G M) (p : Int) 0 ≤ 600 := bx_s_bd L6
      refine h_WW_set (m := m) hW (fun _ => ⟨?_, ?_, ?_⟩) (fun d' hd' hne => ?_)
      · rw [zf (146 + 2 * m) 2 (by omega) (by omega) (by omega) (by omega), z200, e1, c_up_n (by omega), c_up_s]
      · rw [zf (146 + 2 * m) 3 (by omega) (by omega) (by omega) (by omega), z199, z201, e1, c_up_s]
      · rw [z201]
        exact ⟨sb.1, by omega⟩
      · have zz : ∀ j, M2 (146 + 2 * d') j = M (146 + 2 * d') j := fun j => by
          rw [zf (146 + 2 * d') j (by omega) (by omega) (by omega) (by omega), e1, c_up_n (by omega), c_up_n (by omega), c_up_n (by omega), c_up_n (by omega), b3 (146 + 2 * d') (by omega), a3 (146 + 2 * d') j (by omega)]
        have zy : ∀ id, id = 195 ∨ id = 199 ∨ id = 200 ∨ id = 201 → M2 id d' = M id d' := fun id h => by
          rw [zf id d' (by omega) (by omega) (by omega) (by omega)]
          exact hfr _ _ (by omega)
        exact ⟨zy _ (by omega), zy _ (by omega), zy _ (by omega), zy _ (by omega), zz _, zz _⟩
    · have w0 : w = 0 := by omega
      subst w0
      have e1 := (Prod.mk.inj (Option.some.inj (k1.symm.trans (h_139a c0 hs (h_85 hh M))))).2
      rw [Int.toNat_natCast] at e1
      have e2 := (Prod.mk.inj (Option.some.inj (k2.symm.trans (wt_258z m8)))).2
      refine h_WW_set (m := m) hW (fun h => ?_) (fun d' hd' hne => ?_)
      · rw [e2, c_up_s] at h
        exact absurd h (by decide)
      · have zz : ∀ j, M2 (146 + 2 * d') j = M (146 + 2 * d') j := fun j => by
          rw [e2, c_up_n (by omega), e1, c_up_n (by omega), c_up_n (by omega)]
        have zy : ∀ id, 195 ≤ id → M2 id d' = M id d' := fun id h => by
          rw [e2, c_up_n (by omega)]
          exact hfr _ _ (by omega)
        exact ⟨zy _ (by decide), zy _ (by decide), zy _ (by decide), zy _ (by decide), zz _, zz _⟩
  · have e1 : M1 = M := by
      by_cases hd : 0 ≤ d ∧ d < 8
      · obtain ⟨m, hm⟩ : ∃ m : Nat, d = m := ⟨d.toNat, by omega⟩
        have c0 : E_C 154 [8, d] M = some (((146 + 2 * m : Nat) : Int), M) := by
          rw [hm]
          exact h_154a (by omega) (by omega) (h_rd145 (by omega) M)
        refine (Prod.mk.inj (Option.some.inj (k1.symm.trans (h_139n c0 ip ?_)))).2
        by_cases c : 0 ≤ w ∧ w ≤ 1
        · refine Or.inr (Or.inr ?_)
          by_cases c1 : w = 1
          · refine ⟨c1, if_neg (fun e => q ⟨by omega, c, fun _ => e⟩)⟩
          · exact absurd ⟨⟨hd.1, by omega⟩, c, fun e => absurd e c1⟩ q
        · exact Or.inr (Or.inl c)
      · exact (Prod.mk.inj (Option.some.inj (k1.symm.trans (h_139n (h_154n hd) ip (Or.inl rfl))))).2
    rw [f, e1]
    exact hW
theorem h_rowW {d k n r1 r2 : Int} {M M1 M2 : EM} (hW : h_WW M) (k1 : E_C 140 [8, d, k, n] M = some (r1, M1)) (k2 : E_C 259 [192, d, k, n] M1 = some (r2, M2)) : h_WW M2 := by
  by_cases hd : 0 ≤ d ∧ d < 8
  · obtain ⟨m, hm⟩ : ∃ m : Nat, d = m := ⟨d.toNat, by omega⟩
    have m8 : m < 8 := by omega
    have hh := (h_gr145 m8).2
    have c0 : E_C 154 [8, d] M = some (((146 + 2 * m : Nat) : Int), M) := by
      rw [hm]
      exact h_154a (by omega) (by omega) (h_rd145 m8 M)
    have hs : ((146 + 2 * m : Nat) : Int) ≠ -1 := by omega
    by_cases q : (0 ≤ k ∧ k ≤ 2) ∧ n ≤ 120 ∧ 0 ≤ n
    · obtain ⟨q1, q2, q3⟩ := q
      obtain ⟨N, n1, n2, n3, n4, n5, n6, n7⟩ := h_87 (k := k) (n := n) hh M
      rw [Int.toNat_natCast] at n2 n3 n4 n5 n7
      rw [show (((146 + 2 * m : Nat) : Int) + 1).toNat = 147 + 2 * m by omega] at n6 n7
      have e1 := Prod.mk.inj (Option.some.inj (k1.symm.trans (h_140y c0 hs q1.1 q1.2 q2 q3 n1)))
      obtain ⟨e1, e2⟩ := e1
      subst e2
      obtain ⟨M', g1, g2, g3⟩ := h_259l (d := d) (k := k) (n := n) hd 120 0 (e_up (e_up (e_up M1 195 m 2) 196 m k) 197 m n) (by decide)
      have g1' : E_V 259 58 [192, d, k, n, 0] (e_up (e_up (e_up M1 195 m 2) 196 m k) 197 m n) = some (0, M') := g1
      have e3 := Prod.mk.inj (Option.some.inj (k2.symm.trans (h_259y hm m8 q1 q2 q3 g1')))
      obtain ⟨e3, e4⟩ := e3
      subst e4
      have z : ∀ id j, id ≠ 196 → id ≠ 197 → id ≠ 198 → ¬ (id = 195 ∧ j = m) → M2 id j = M1 id j := fun id j b c e a => by
        rw [g2 id j (fun h => e h.1), c_up_n (fun h => c h.1), c_up_n (fun h => b h.1), c_up_n a]
      refine h_WW_set (m := m) hW (fun h => ?_) (fun d' hd' hne => ?_)
      · rw [g2 _ _ (by omega), c_up_n (by omega), c_up_n (by omega), c_up_s] at h
        exact absurd h (by decide)
      · have f : ∀ j, M2 (146 + 2 * d') j = M (146 + 2 * d') j := fun j => by
          rw [z (146 + 2 * d') j (by omega) (by omega) (by omega) (by omega)]
          exact n7 _ _ (by omega) (by omega)
        have f2 : ∀ id, id = 195 ∨ id = 199 ∨ id = 200 ∨ id = 201 → M2 id d' = M id d' := fun id h => by
          rw [z id d' (by omega) (by omega) (by omega) (by omega)]
          exact n7 _ _ (by omega) (by omega)
        exact ⟨f2 _ (by omega), f2 _ (by omega), f2 _ (by omega), f2 _ (by omega), f _, f _⟩
    · have e1 := (Prod.mk.inj (Option.some.inj (k1.symm.trans (h_140n c0 (by omega) rfl)))).2
      have e3 := (Prod.mk.inj (Option.some.inj (k2.symm.trans (h_259n (by omega))))).2
      rw [e3, e1]
      exact hW
  · have e1 := (Prod.mk.inj (Option.some.inj (k1.symm.trans (h_140n (h_154n hd) (Or.inl rfl) rfl)))).2
    have e3 := (Prod.mk.inj (Option.some.inj (k2.symm.trans (h_259n (fun e => hd ⟨e.1, e.2.1⟩))))).2
    rw [e3, e1]
    exact hW
/-- the refusal where a PART is wanted -/
def wt_no (M : EM) (d : Int) : Int := if 0 ≤ d ∧ d < 8 then (if M 195 d.toNat = 0 then -11 else if M 195 d.toNat = 1 then 0 else -12) else -1
theorem wt_no0 {M : EM} {d : Int} (h : wt_no M d = 0) : (0 ≤ d ∧ d < 8) ∧ M 195 d.toNat = 1 := by
  unfold wt_no at h
  by_cases hd : 0 ≤ d ∧ d < 8
  · rw [if_pos hd] at h
    by_cases q : M 195 d.toNat = 0
    · rw [if_pos q] at h
      exact absurd h (by decide)
    · rw [if_neg q] at h
      by_cases q1 : M 195 d.toNat = 1
      · exact ⟨hd, q1⟩
      · rw [if_neg q1] at h
        exact absurd h (by decide)
  · rw [if_neg hd] at h
    exact absurd h (by decide)
theorem wt_157 {h a c : Int} (hh : h ∈ a_SH) {M : EM} (h0 : M h.toNat 0 = a) (h1 : M h.toNat 1 = c) : E_C 157 [h] M = some (if a = 0 ∧ c = 0 then -11 else if a ≠ 0 then 0 else -12, M) := by
  obtain ⟨s1, s2, s3, s4, s5, s6, s7⟩ := w_sh hh
  obtain ⟨f0, -⟩ := h_sf hh M
  have k := h_84 hh M
  rw [h0, h1] at k
  rw [h0] at f0
  have hne : ¬ h = -1 := by omega
  rw [r_ent (show e_rok 157 [h] = true from rfl)]
  show e_tv E_C (E_V 157) e_t157_0 [h] M = _
  unfold e_t157_0
  by_cases q : a = 0 ∧ c = 0
  · rw [if_pos q] at k ⊢
    simp [zq_a, zq_b, zq_c, zq_d, zq_e, zq_f, zq_g, zq_h, zq_i, zq_j, zq_k, zq_l, zq_m, zq_n, zq_o, zq_p, zq_q, zq_r, zq_s, zq_t, zq_u, zq_v, zq_w, zq_x, zq_y, zq_z, zq_A, zq_B, zq_C, zq_D, zq_E, zq_F, zq_G, zq_H, zq_I, zq_J, zq_K, zq_L, ↓zq_M, ↓zq_N, ↓zq_O, ↓zq_P, ↓zq_Q, ↓zq_R, zq_S, zq_T, zq_U, zq_V, zq_W, zq_X, zq_Y, zq_Z, zq_0, zq_1, zq_2, zq_3, zq_4, zq_5, ↓zq_6, ↓zq_7, ↓zq_8, ↓zq_9, ↓zq_aa, zq_ab, zq_ac, zq_ad, zq_ae, zq_af, zq_ag, ↓zq_ah, ↓zq_ai, ↓zq_aj, zq_ak, ↓zq_al, ↓zq_am, e_b1, e_b2, x_o1, x_o2, hne, k]
  · rw [if_neg q] at k ⊢
    by_cases q1 : a = 0
    · rw [if_neg (fun e => e q1)]
      simp [zq_a, zq_b, zq_c, zq_d, zq_e, zq_f, zq_g, zq_h, zq_i, zq_j, zq_k, zq_l, zq_m, zq_n, zq_o, zq_p, zq_q, zq_r, zq_s, zq_t, zq_u, zq_v, zq_w, zq_x, zq_y, zq_z, zq_A, zq_B, zq_C, zq_D, zq_E, zq_F, zq_G, zq_H, zq_I, zq_J, zq_K, zq_L, ↓zq_M, ↓zq_N, ↓zq_O, ↓zq_P, ↓zq_Q, ↓zq_R, zq_S, zq_T, zq_U, zq_V, zq_W, zq_X, zq_Y, zq_Z, zq_0, zq_1, zq_2, zq_3, zq_4, zq_5, ↓zq_6, ↓zq_7, ↓zq_8, ↓zq_9, ↓zq_aa, zq_ab, zq_ac, zq_ad, zq_ae, zq_af, zq_ag, ↓zq_ah, ↓zq_ai, ↓zq_aj, zq_ak, ↓zq_al, ↓zq_am, e_b1, e_b2, x_o1, x_o2, hne, k, f0, q1]
    · rw [if_pos q1]
      simp [zq_a, zq_b, zq_c, zq_d, zq_e, zq_f, zq_g, zq_h, zq_i, zq_j, zq_k, zq_l, zq_m, zq_n, zq_o, zq_p, zq_q, zq_r, zq_s, zq_t, zq_u, zq_v, zq_w, zq_x, zq_y, zq_z, zq_A, zq_B, zq_C, zq_D, zq_E, zq_F, zq_G, zq_H, zq_I, zq_J, zq_K, zq_L, ↓zq_M, ↓zq_N, ↓zq_O, ↓zq_P, ↓zq_Q, ↓zq_R, zq_S, zq_T, zq_U, zq_V, zq_W, zq_X, zq_Y, zq_Z, zq_0, zq_1, zq_2, zq_3, zq_4, zq_5, ↓zq_6, ↓zq_7, ↓zq_8, ↓zq_9, ↓zq_aa, zq_ab, zq_ac, zq_ad, zq_ae, zq_af, zq_ag, ↓zq_ah, ↓zq_ai, ↓zq_aj, zq_ak, ↓zq_al, ↓zq_am, e_b1, e_b2, x_o1, x_o2, hne, k, f0, q1]
theorem wt_157n {M : EM} : E_C 157 [-1] M = some (-1, M) := by
  rw [r_ent (show e_rok 157 [-1] = true from rfl)]
  show e_tv E_C (E_V 157) e_t157_0 [-1] M = _
  unfold e_t157_0
  simp [zq_a, zq_b, zq_c, zq_d, zq_e, zq_f, zq_g, zq_h, zq_i, zq_j, zq_k, zq_l, zq_m, zq_n, zq_o, zq_p, zq_q, zq_r, zq_s, zq_t, zq_u, zq_v, zq_w, zq_x, zq_y, zq_z, zq_A, zq_B, zq_C, zq_D, zq_E, zq_F, zq_G, zq_H, zq_I, zq_J, zq_K, zq_L, ↓zq_M, ↓zq_N, ↓zq_O, ↓zq_P, ↓zq_Q, ↓zq_R, zq_S, zq_T, zq_U, zq_V, zq_W, zq_X, zq_Y, zq_Z, zq_0, zq_1, zq_2, zq_3, zq_4, zq_5, ↓zq_6, ↓zq_7, ↓zq_8, ↓zq_9, ↓zq_aa, zq_ab, zq_ac, zq_ad, zq_ae, zq_af, zq_ag, ↓zq_ah, ↓zq_ai, ↓zq_aj, zq_ak, ↓zq_al, ↓zq_am, e_b1, e_b2, x_o1, x_o2]
theorem wt_ref {M : EM} (hS : h_S M) {d : Int} (hd : 0 ≤ d ∧ d < 8) : ∃ x : Int, x ≠ -1 ∧ E_C 154 [8, d] M = some (x, M) ∧ E_C 157 [x] M = some (wt_no M d, M) ∧ e_gf 514 [x] M = some (M (146 + 2 * d.toNat) 2) ∧ e_gf 515 [x] M = some (M (146 + 2 * d.toNat) 3) := by
  obtain ⟨n, rfl⟩ : ∃ n : Nat, d = n := ⟨d.toNat, by omega⟩
  rw [Int.toNat_natCast]
  have hn : n < 8 := by omega
  have hh := (h_gr145 hn).2
  obtain ⟨s1, -⟩ := w_sh hh
  refine ⟨((146 + 2 * n : Nat) : Int), by omega, h_154a hd.1 hd.2 (h_rd145 hn M), ?_, c_gf s1 (by decide +kernel), c_gf s1 (by decide +kernel)⟩
  unfold wt_no
  rw [if_pos hd, Int.toNat_natCast]
  rcases hS n hn with ⟨a, c, e⟩ | ⟨a, c, e⟩ | ⟨a, c, e, -⟩
  · rw [wt_157 hh c e, a]
    rfl
  · rw [wt_157 hh c e, a]
    rfl
  · rw [wt_157 hh c e, a]
    rfl
theorem wt_263 {d : Int} {M : EM} : E_C 263 [192, d] M = some (wt_no M d, M) := by
  have i0 := h_is (d := d) M
  unfold wt_no
  by_cases hd : 0 ≤ d ∧ d < 8
  · rw [if_pos hd] at i0 ⊢
    obtain ⟨l, -⟩ := r_isD d M ⟨hd.1, by omega⟩
    generalize M 195 d.toNat = a at l ⊢
    by_cases q : a = 0
    · rw [if_pos q]
      rw [r_ent (show e_rok 263 [192, d] = true from decide_eq_true r_ref)]
      show e_tv E_C (E_V 263) e_t263_0 [192, d] M = _
      unfold e_t263_0
      simp [zq_a, zq_b, zq_c, zq_d, zq_e, zq_f, zq_g, zq_h, zq_i, zq_j, zq_k, zq_l, zq_m, zq_n, zq_o, zq_p, zq_q, zq_r, zq_s, zq_t, zq_u, zq_v, zq_w, zq_x, zq_y, zq_z, zq_A, zq_B, zq_C, zq_D, zq_E, zq_F, zq_G, zq_H, zq_I, zq_J, zq_K, zq_L, ↓zq_M, ↓zq_N, ↓zq_O, ↓zq_P, ↓zq_Q, ↓zq_R, zq_S, zq_T, zq_U, zq_V, zq_W, zq_X, zq_Y, zq_Z, zq_0, zq_1, zq_2, zq_3, zq_4, zq_5, ↓zq_6, ↓zq_7, ↓zq_8, ↓zq_9, ↓zq_aa, zq_ab, zq_ac, zq_ad, zq_ae, zq_af, zq_ag, ↓zq_ah, ↓zq_ai, ↓zq_aj, zq_ak, ↓zq_al, ↓zq_am, e_b1, e_b2, x_o1, x_o2, r_O2, i0, l, q]
    · rw [if_neg q]
      by_cases q1 : a = 1
      · rw [if_pos q1]
        rw [r_ent (show e_rok 263 [192, d] = true from decide_eq_true r_ref)]
        show e_tv E_C (E_V 263) e_t263_0 [192, d] M = _
        unfold e_t263_0
        simp [zq_a, zq_b, zq_c, zq_d, zq_e, zq_f, zq_g, zq_h, zq_i, zq_j, zq_k, zq_l, zq_m, zq_n, zq_o, zq_p, zq_q, zq_r, zq_s, zq_t, zq_u, zq_v, zq_w, zq_x, zq_y, zq_z, zq_A, zq_B, zq_C, zq_D, zq_E, zq_F, zq_G, zq_H, zq_I, zq_J, zq_K, zq_L, ↓zq_M, ↓zq_N, ↓zq_O, ↓zq_P, ↓zq_Q, ↓zq_R, zq_S, zq_T, zq_U, zq_V, zq_W, zq_X, zq_Y, zq_Z, zq_0, zq_1, zq_2, zq_3, zq_4, zq_5, ↓zq_6, ↓zq_7, ↓zq_8, ↓zq_9, ↓zq_aa, zq_ab, zq_ac, zq_ad, zq_ae, zq_af, zq_ag, ↓zq_ah, ↓zq_ai, ↓zq_aj, zq_ak, ↓zq_al, ↓zq_am, e_b1, e_b2, x_o1, x_o2, r_O2, i0, l, q1]
      · rw [if_neg q1]
        rw [r_ent (show e_rok 263 [192, d] = true from decide_eq_true r_ref)]
        show e_tv E_C (E_V 263) e_t263_0 [192, d] M = _
        unfold e_t263_0
        simp [zq_a, zq_b, zq_c, zq_d, zq_e, zq_f, zq_g, zq_h, zq_i, zq_j, zq_k, zq_l, zq_m, zq_n, zq_o, zq_p, zq_q, zq_r, zq_s, zq_t, zq_u, zq_v, zq_w, zq_x, zq_y, zq_z, zq_A, zq_B, zq_C, zq_D, zq_E, zq_F, zq_G, zq_H, zq_I, zq_J, zq_K, zq_L, ↓zq_M, ↓zq_N, ↓zq_O, ↓zq_P, ↓zq_Q, ↓zq_R, zq_S, zq_T, zq_U, zq_V, zq_W, zq_X, zq_Y, zq_Z, zq_0, zq_1, zq_2, zq_3, zq_4, zq_5, ↓zq_6, ↓zq_7, ↓zq_8, ↓zq_9, ↓zq_aa, zq_ab, zq_ac, zq_ad, zq_ae, zq_af, zq_ag, ↓zq_ah, ↓zq_ai, ↓zq_aj, zq_ak, ↓zq_al, ↓zq_am, e_b1, e_b2, x_o1, x_o2, r_O2, i0, l, q, q1]
  · rw [if_neg hd] at i0 ⊢
    rw [r_ent (show e_rok 263 [192, d] = true from decide_eq_true r_ref)]
    show e_tv E_C (E_V 263) e_t263_0 [192, d] M = _
    unfold e_t263_0
    simp [zq_a, zq_b, zq_c, zq_d, zq_e, zq_f, zq_g, zq_h, zq_i, zq_j, zq_k, zq_l, zq_m, zq_n, zq_o, zq_p, zq_q, zq_r, zq_s, zq_t, zq_u, zq_v, zq_w, zq_x, zq_y, zq_z, zq_A, zq_B, zq_C, zq_D, zq_E, zq_F, zq_G, zq_H, zq_I, zq_J, zq_K, zq_L, ↓zq_M, ↓zq_N, ↓zq_O, ↓zq_P, ↓zq_Q, ↓zq_R, zq_S, zq_T, zq_U, zq_V, zq_W, zq_X, zq_Y, zq_Z, zq_0, zq_1, zq_2, zq_3, zq_4, zq_5, ↓zq_6, ↓zq_7, ↓zq_8, ↓zq_9, ↓zq_aa, zq_ab, zq_ac, zq_ad, zq_ae, zq_af, zq_ag, ↓zq_ah, ↓zq_ai, ↓zq_aj, zq_ak, ↓zq_al, ↓zq_am, e_b1, e_b2, x_o1, x_o2, i0]
theorem wt_144 {d : Int} {M : EM} (hS : h_S M) : E_C 144 [8, d] M = some (if wt_no M d = 0 then M (146 + 2 * d.toNat) 2 else wt_no M d, M) := by
  have s0 : E_C 144 [8, d] M = e_tv E_C (E_V 144) e_t144_0 [8, d, 0, 0] M := r_ent (u := 144) (as := [8, d]) (M := M) (decide_eq_true c_this)
  rw [s0]
  unfold e_t144_0
  by_cases hd : 0 ≤ d ∧ d < 8
  · obtain ⟨x, hne, c0, c1, f2, -⟩ := wt_ref hS hd
    generalize wt_no M d = z at c1 ⊢
    generalize M (146 + 2 * d.toNat) 2 = y at f2 ⊢
    by_cases q : z = 0
    · rw [if_pos q]
      simp [zq_a, zq_b, zq_c, zq_d, zq_e, zq_f, zq_g, zq_h, zq_i, zq_j, zq_k, zq_l, zq_m, zq_n, zq_o, zq_p, zq_q, zq_r, zq_s, zq_t, zq_u, zq_v, zq_w, zq_x, zq_y, zq_z, zq_A, zq_B, zq_C, zq_D, zq_E, zq_F, zq_G, zq_H, zq_I, zq_J, zq_K, zq_L, ↓zq_M, ↓zq_N, ↓zq_O, ↓zq_P, ↓zq_Q, ↓zq_R, zq_S, zq_T, zq_U, zq_V, zq_W, zq_X, zq_Y, zq_Z, zq_0, zq_1, zq_2, zq_3, zq_4, zq_5, ↓zq_6, ↓zq_7, ↓zq_8, ↓zq_9, ↓zq_aa, zq_ab, zq_ac, zq_ad, zq_ae, zq_af, zq_ag, ↓zq_ah, ↓zq_ai, ↓zq_aj, zq_ak, ↓zq_al, ↓zq_am, e_b1, e_b2, x_o1, x_o2, c0, c1, hne, q, f2]
    · rw [if_neg q]
      simp [zq_a, zq_b, zq_c, zq_d, zq_e, zq_f, zq_g, zq_h, zq_i, zq_j, zq_k, zq_l, zq_m, zq_n, zq_o, zq_p, zq_q, zq_r, zq_s, zq_t, zq_u, zq_v, zq_w, zq_x, zq_y, zq_z, zq_A, zq_B, zq_C, zq_D, zq_E, zq_F, zq_G, zq_H, zq_I, zq_J, zq_K, zq_L, ↓zq_M, ↓zq_N, ↓zq_O, ↓zq_P, ↓zq_Q, ↓zq_R, zq_S, zq_T, zq_U, zq_V, zq_W, zq_X, zq_Y, zq_Z, zq_0, zq_1, zq_2, zq_3, zq_4, zq_5, ↓zq_6, ↓zq_7, ↓zq_8, ↓zq_9, ↓zq_aa, zq_ab, zq_ac, zq_ad, zq_ae, zq_af, zq_ag, ↓zq_ah, ↓zq_ai, ↓zq_aj, zq_ak, ↓zq_al, ↓zq_am, e_b1, e_b2, x_o1, x_o2, c0, c1, hne, q]
  · have c0 : E_C 154 [8, d] M = some (-1, M) := h_154n hd
    have e : wt_no M d = -1 := if_neg hd
    rw [e]
    simp [zq_a, zq_b, zq_c, zq_d, zq_e, zq_f, zq_g, zq_h, zq_i, zq_j, zq_k, zq_l, zq_m, zq_n, zq_o, zq_p, zq_q, zq_r, zq_s, zq_t, zq_u, zq_v, zq_w, zq_x, zq_y, zq_z, zq_A, zq_B, zq_C, zq_D, zq_E, zq_F, zq_G, zq_H, zq_I, zq_J, zq_K, zq_L, ↓zq_M, ↓zq_N, ↓zq_O, ↓zq_P, ↓zq_Q, ↓zq_R, zq_S, zq_T, zq_U, zq_V, zq_W, zq_X, zq_Y, zq_Z, zq_0, zq_1, zq_2, zq_3, zq_4, zq_5, ↓zq_6, ↓zq_7, ↓zq_8, ↓zq_9, ↓zq_aa, zq_ab, zq_ac, zq_ad, zq_ae, zq_af, zq_ag, ↓zq_ah, ↓zq_ai, ↓zq_aj, zq_ak, ↓zq_al, ↓zq_am, e_b1, e_b2, x_o1, x_o2, c0, wt_157n]
theorem wt_145 {d : Int} {M : EM} (hS : h_S M) : E_C 145 [8, d] M = some (if wt_no M d = 0 then M (146 + 2 * d.toNat) 3 else wt_no M d, M) := by
  have s0 : E_C 145 [8, d] M = e_tv E_C (E_V 145) e_t145_0 [8, d, 0, 0] M := r_ent (u := 145) (as := [8, d]) (M := M) (decide_eq_true c_this)
  rw [s0]
  unfold e_t145_0
  by_cases hd : 0 ≤ d ∧ d < 8
  · obtain ⟨x, hne, c0, c1, -, f2⟩ := wt_ref hS hd
    generalize wt_no M d = z at c1 ⊢
    generalize M (146 + 2 * d.toNat) 3 = y at f2 ⊢
    by_cases q : z = 0
    · rw [if_pos q]
      simp [zq_a, zq_b, zq_c, zq_d, zq_e, zq_f, zq_g, zq_h, zq_i, zq_j, zq_k, zq_l, zq_m, zq_n, zq_o, zq_p, zq_q, zq_r, zq_s, zq_t, zq_u, zq_v, zq_w, zq_x, zq_y, zq_z, zq_A, zq_B, zq_C, zq_D, zq_E, zq_F, zq_G, zq_H, zq_I, zq_J, zq_K, zq_L, ↓zq_M, ↓zq_N, ↓zq_O, ↓zq_P, ↓zq_Q, ↓zq_R, zq_S, zq_T, zq_U, zq_V, zq_W, zq_X, zq_Y, zq_Z, zq_0, zq_1, zq_2, zq_3, zq_4, zq_5, ↓zq_6, ↓zq_7, ↓zq_8, ↓zq_9, ↓zq_aa, zq_ab, zq_ac, zq_ad, zq_ae, zq_af, zq_ag, ↓zq_ah, ↓zq_ai, ↓zq_aj, zq_ak, ↓zq_al, ↓zq_am, e_b1, e_b2, x_o1, x_o2, c0, c1, hne, q, f2]
    · rw [if_neg q]
      simp [zq_a, zq_b, zq_c, zq_d, zq_e, zq_f, zq_g, zq_h, zq_i, zq_j, zq_k, zq_l, zq_m, zq_n, zq_o, zq_p, zq_q, zq_r, zq_s, zq_t, zq_u, zq_v, zq_w, zq_x, zq_y, zq_z, zq_A, zq_B, zq_C, zq_D, zq_E, zq_F, zq_G, zq_H, zq_I, zq_J, zq_K, zq_L, ↓zq_M, ↓zq_N, ↓zq_O, ↓zq_P, ↓zq_Q, ↓zq_R, zq_S, zq_T, zq_U, zq_V, zq_W, zq_X, zq_Y, zq_Z, zq_0, zq_1, zq_2, zq_3, zq_4, zq_5, ↓zq_6, ↓zq_7, ↓zq_8, ↓zq_9, ↓zq_aa, zq_ab, zq_ac, zq_ad, zq_ae, zq_af, zq_ag, ↓zq_ah, ↓zq_ai, ↓zq_aj, zq_ak, ↓zq_al, ↓zq_am, e_b1, e_b2, x_o1, x_o2, c0, c1, hne, q]
  · have c0 : E_C 154 [8, d] M = some (-1, M) := h_154n hd
    have e : wt_no M d = -1 := if_neg hd
    rw [e]
    simp [zq_a, zq_b, zq_c, zq_d, zq_e, zq_f, zq_g, zq_h, zq_i, zq_j, zq_k, zq_l, zq_m, zq_n, zq_o, zq_p, zq_q, zq_r, zq_s, zq_t, zq_u, zq_v, zq_w, zq_x, zq_y, zq_z, zq_A, zq_B, zq_C, zq_D, zq_E, zq_F, zq_G, zq_H, zq_I, zq_J, zq_K, zq_L, ↓zq_M, ↓zq_N, ↓zq_O, ↓zq_P, ↓zq_Q, ↓zq_R, zq_S, zq_T, zq_U, zq_V, zq_W, zq_X, zq_Y, zq_Z, zq_0, zq_1, zq_2, zq_3, zq_4, zq_5, ↓zq_6, ↓zq_7, ↓zq_8, ↓zq_9, ↓zq_aa, zq_ab, zq_ac, zq_ad, zq_ae, zq_af, zq_ag, ↓zq_ah, ↓zq_ai, ↓zq_aj, zq_ak, ↓zq_al, ↓zq_am, e_b1, e_b2, x_o1, x_o2, c0, wt_157n]
theorem wt_264 {d : Int} {M : EM} : E_C 264 [192, d] M = some (if wt_no M d = 0 then M 200 d.toNat else wt_no M d, M) := by
  have k := wt_263 (d := d) (M := M)
  by_cases q : wt_no M d = 0
  · have hd := (wt_no0 q).1
    obtain ⟨-, -, -, -, l, -⟩ := r_isD d M ⟨hd.1, by omega⟩
    rw [if_pos q]
    rw [q] at k
    rw [r_ent (show e_rok 264 [192, d] = true from decide_eq_true r_ref)]
    show e_tv E_C (E_V 264) e_t264_0 [192, d, 0] M = _
    unfold e_t264_0
    simp [zq_a, zq_b, zq_c, zq_d, zq_e, zq_f, zq_g, zq_h, zq_i, zq_j, zq_k, zq_l, zq_m, zq_n, zq_o, zq_p, zq_q, zq_r, zq_s, zq_t, zq_u, zq_v, zq_w, zq_x, zq_y, zq_z, zq_A, zq_B, zq_C, zq_D, zq_E, zq_F, zq_G, zq_H, zq_I, zq_J, zq_K, zq_L, ↓zq_M, ↓zq_N, ↓zq_O, ↓zq_P, ↓zq_Q, ↓zq_R, zq_S, zq_T, zq_U, zq_V, zq_W, zq_X, zq_Y, zq_Z, zq_0, zq_1, zq_2, zq_3, zq_4, zq_5, ↓zq_6, ↓zq_7, ↓zq_8, ↓zq_9, ↓zq_aa, zq_ab, zq_ac, zq_ad, zq_ae, zq_af, zq_ag, ↓zq_ah, ↓zq_ai, ↓zq_aj, zq_ak, ↓zq_al, ↓zq_am, e_b1, e_b2, x_o1, x_o2, r_O7, k, l]
  · rw [if_neg q]
    generalize wt_no M d = z at k q ⊢
    rw [r_ent (show e_rok 264 [192, d] = true from decide_eq_true r_ref)]
    show e_tv E_C (E_V 264) e_t264_0 [192, d, 0] M = _
    unfold e_t264_0
    simp [zq_a, zq_b, zq_c, zq_d, zq_e, zq_f, zq_g, zq_h, zq_i, zq_j, zq_k, zq_l, zq_m, zq_n, zq_o, zq_p, zq_q, zq_r, zq_s, zq_t, zq_u, zq_v, zq_w, zq_x, zq_y, zq_z, zq_A, zq_B, zq_C, zq_D, zq_E, zq_F, zq_G, zq_H, zq_I, zq_J, zq_K, zq_L, ↓zq_M, ↓zq_N, ↓zq_O, ↓zq_P, ↓zq_Q, ↓zq_R, zq_S, zq_T, zq_U, zq_V, zq_W, zq_X, zq_Y, zq_Z, zq_0, zq_1, zq_2, zq_3, zq_4, zq_5, ↓zq_6, ↓zq_7, ↓zq_8, ↓zq_9, ↓zq_aa, zq_ab, zq_ac, zq_ad, zq_ae, zq_af, zq_ag, ↓zq_ah, ↓zq_ai, ↓zq_aj, zq_ak, ↓zq_al, ↓zq_am, e_b1, e_b2, x_o1, x_o2, k, q]
theorem wt_265n {d : Int} {M : EM} (q : wt_no M d ≠ 0) : E_C 265 [192, d] M = some (wt_no M d, M) := by
  have k := wt_263 (d := d) (M := M)
  generalize wt_no M d = z at k q ⊢
  rw [r_ent (show e_rok 265 [192, d] = true from decide_eq_true r_ref)]
  show e_tv E_C (E_V 265) e_t265_0 [192, d, 0] M = _
  unfold e_t265_0
  simp [zq_a, zq_b, zq_c, zq_d, zq_e, zq_f, zq_g, zq_h, zq_i, zq_j, zq_k, zq_l, zq_m, zq_n, zq_o, zq_p, zq_q, zq_r, zq_s, zq_t, zq_u, zq_v, zq_w, zq_x, zq_y, zq_z, zq_A, zq_B, zq_C, zq_D, zq_E, zq_F, zq_G, zq_H, zq_I, zq_J, zq_K, zq_L, ↓zq_M, ↓zq_N, ↓zq_O, ↓zq_P, ↓zq_Q, ↓zq_R, zq_S, zq_T, zq_U, zq_V, zq_W, zq_X, zq_Y, zq_Z, zq_0, zq_1, zq_2, zq_3, zq_4, zq_5, ↓zq_6, ↓zq_7, ↓zq_8, ↓zq_9, ↓zq_aa, zq_ab, zq_ac, zq_ad, zq_ae, zq_af, zq_ag, ↓zq_ah, ↓zq_ai, ↓zq_aj, zq_ak, ↓zq_al, ↓zq_am, e_b1, e_b2, x_o1, x_o2, k, q]
theorem wt_265 {d kd c : Int} {M : EM} (q : wt_no M d = 0) (hk : M 199 d.toNat = kd) (hc : M 201 d.toNat = c) (c0 : 0 ≤ c ∧ c ≤ 1000) : E_C 265 [192, d] M = some (tf kd c, M) := by
  have k := wt_263 (d := d) (M := M)
  rw [q] at k
  have hd := (wt_no0 q).1
  obtain ⟨-, -, -, l6, -, l8⟩ := r_isD d M ⟨hd.1, by omega⟩
  rw [hk] at l6
  rw [hc] at l8
  have w : e_w (c + 1000) = 1000 + c := (a_w_id (by omega) (by omega)).trans (by omega)
  have w0 : e_w c = c := a_w_id (by omega) (by omega)
  clear hk hc q
  unfold tf
  by_cases c3 : kd = 3
  · rw [if_pos (Or.inl c3)]
    rw [r_ent (show e_rok 265 [192, d] = true from decide_eq_true r_ref)]
    show e_tv E_C (E_V 265) e_t265_0 [192, d, 0] M = _
    unfold e_t265_0
    simp [zq_a, zq_b, zq_c, zq_d, zq_e, zq_f, zq_g, zq_h, zq_i, zq_j, zq_k, zq_l, zq_m, zq_n, zq_o, zq_p, zq_q, zq_r, zq_s, zq_t, zq_u, zq_v, zq_w, zq_x, zq_y, zq_z, zq_A, zq_B, zq_C, zq_D, zq_E, zq_F, zq_G, zq_H, zq_I, zq_J, zq_K, zq_L, ↓zq_M, ↓zq_N, ↓zq_O, ↓zq_P, ↓zq_Q, ↓zq_R, zq_S, zq_T, zq_U, zq_V, zq_W, zq_X, zq_Y, zq_Z, zq_0, zq_1, zq_2, zq_3, zq_4, zq_5, ↓zq_6, ↓zq_7, ↓zq_8, ↓zq_9, ↓zq_aa, zq_ab, zq_ac, zq_ad, zq_ae, zq_af, zq_ag, ↓zq_ah, ↓zq_ai, ↓zq_aj, zq_ak, ↓zq_al, ↓zq_am, e_b1, e_b2, x_o1, x_o2, r_O6, r_O8, k, l6, l8, c3]
  · by_cases cz : c = 0
    · rw [if_pos (Or.inr cz)]
      rw [r_ent (show e_rok 265 [192, d] = true from decide_eq_true r_ref)]
      show e_tv E_C (E_V 265) e_t265_0 [192, d, 0] M = _
      unfold e_t265_0
      simp [zq_a, zq_b, zq_c, zq_d, zq_e, zq_f, zq_g, zq_h, zq_i, zq_j, zq_k, zq_l, zq_m, zq_n, zq_o, zq_p, zq_q, zq_r, zq_s, zq_t, zq_u, zq_v, zq_w, zq_x, zq_y, zq_z, zq_A, zq_B, zq_C, zq_D, zq_E, zq_F, zq_G, zq_H, zq_I, zq_J, zq_K, zq_L, ↓zq_M, ↓zq_N, ↓zq_O, ↓zq_P, ↓zq_Q, ↓zq_R, zq_S, zq_T, zq_U, zq_V, zq_W, zq_X, zq_Y, zq_Z, zq_0, zq_1, zq_2, zq_3, zq_4, zq_5, ↓zq_6, ↓zq_7, ↓zq_8, ↓zq_9, ↓zq_aa, zq_ab, zq_ac, zq_ad, zq_ae, zq_af, zq_ag, ↓zq_ah, ↓zq_ai, ↓zq_aj, zq_ak, ↓zq_al, ↓zq_am, e_b1, e_b2, x_o1, x_o2, r_O6, r_O8, k, l6, l8, c3, cz]
    · rw [if_neg (fun e => e.elim c3 cz)]
      by_cases c2 : kd = 2
      · rw [if_pos c2]
        rw [r_ent (show e_rok 265 [192, d] = true from decide_eq_true r_ref)]
        show e_tv E_C (E_V 265) e_t265_0 [192, d, 0] M = _
        unfold e_t265_0
        simp [zq_a, zq_b, zq_c, zq_d, zq_e, zq_f, zq_g, zq_h, zq_i, zq_j, zq_k, zq_l, zq_m, zq_n, zq_o, zq_p, zq_q, zq_r, zq_s, zq_t, zq_u, zq_v, zq_w, zq_x, zq_y, zq_z, zq_A, zq_B, zq_C, zq_D, zq_E, zq_F, zq_G, zq_H, zq_I, zq_J, zq_K, zq_L, ↓zq_M, ↓zq_N, ↓zq_O, ↓zq_P, ↓zq_Q, ↓zq_R, zq_S, zq_T, zq_U, zq_V, zq_W, zq_X, zq_Y, zq_Z, zq_0, zq_1, zq_2, zq_3, zq_4, zq_5, ↓zq_6, ↓zq_7, ↓zq_8, ↓zq_9, ↓zq_aa, zq_ab, zq_ac, zq_ad, zq_ae, zq_af, zq_ag, ↓zq_ah, ↓zq_ai, ↓zq_aj, zq_ak, ↓zq_al, ↓zq_am, e_b1, e_b2, x_o1, x_o2, r_O6, r_O8, k, l6, l8, c2, cz, w]
      · rw [if_neg c2]
        rw [r_ent (show e_rok 265 [192, d] = true from decide_eq_true r_ref)]
        show e_tv E_C (E_V 265) e_t265_0 [192, d, 0] M = _
        unfold e_t265_0
        simp [zq_a, zq_b, zq_c, zq_d, zq_e, zq_f, zq_g, zq_h, zq_i, zq_j, zq_k, zq_l, zq_m, zq_n, zq_o, zq_p, zq_q, zq_r, zq_s, zq_t, zq_u, zq_v, zq_w, zq_x, zq_y, zq_z, zq_A, zq_B, zq_C, zq_D, zq_E, zq_F, zq_G, zq_H, zq_I, zq_J, zq_K, zq_L, ↓zq_M, ↓zq_N, ↓zq_O, ↓zq_P, ↓zq_Q, ↓zq_R, zq_S, zq_T, zq_U, zq_V, zq_W, zq_X, zq_Y, zq_Z, zq_0, zq_1, zq_2, zq_3, zq_4, zq_5, ↓zq_6, ↓zq_7, ↓zq_8, ↓zq_9, ↓zq_aa, zq_ab, zq_ac, zq_ad, zq_ae, zq_af, zq_ag, ↓zq_ah, ↓zq_ai, ↓zq_aj, zq_ak, ↓zq_al, ↓zq_am, e_b1, e_b2, x_o1, x_o2, r_O6, r_O8, k, l6, l8, c3, c2, cz, w0]
theorem wt_no_fr {M M1 : EM} (hfr : ∀ id i, 192 ≤ id → M1 id i = M id i) (d : Int) : wt_no M1 d = wt_no M d := by
  unfold wt_no
  rw [hfr 195 d.toNat (by decide)]
theorem ax_weight {d r1 r2 : Int} {M M1 M2 : EM} (hS : h_S M) (hW : h_WW M) (hfr : ∀ id i, 192 ≤ id → M1 id i = M id i) (k1 : E_C 144 [8, d] M = some (r1, M1)) (k2 : E_C 264 [192, d] M1 = some (r2, M2)) : r1 = r2 ∧ True := by
  have e1 := (Prod.mk.inj (Option.some.inj (k1.symm.trans (wt_144 hS)))).1
  have e2 := (Prod.mk.inj (Option.some.inj (k2.symm.trans wt_264))).1
  rw [wt_no_fr hfr d, hfr 200 d.toNat (by decide)] at e2
  refine ⟨?_, trivial⟩
  rw [e1, e2]
  by_cases q : wt_no M d = 0
  · rw [if_pos q, if_pos q]
    obtain ⟨hd, h1⟩ := wt_no0 q
    exact (hW d.toNat (by omega) h1).1
  · rw [if_neg q, if_neg q]
theorem ax_toss {d r1 r2 : Int} {M M1 M2 : EM} (hS : h_S M) (hW : h_WW M) (hfr : ∀ id i, 192 ≤ id → M1 id i = M id i) (k1 : E_C 145 [8, d] M = some (r1, M1)) (k2 : E_C 265 [192, d] M1 = some (r2, M2)) : r1 = r2 ∧ True := by
  have e1 := (Prod.mk.inj (Option.some.inj (k1.symm.trans (wt_145 hS)))).1
  have n := wt_no_fr hfr d
  refine ⟨?_, trivial⟩
  by_cases q : wt_no M d = 0
  · rw [if_pos q] at e1
    obtain ⟨hd, h1⟩ := wt_no0 q
    obtain ⟨-, h2, h3⟩ := hW d.toNat (by omega) h1
    have e2 := (Prod.mk.inj (Option.some.inj (k2.symm.trans (wt_265 (n.trans q) (hfr 199 d.toNat (by decide)) (hfr 201 d.toNat (by decide)) h3)))).1
    rw [e1, e2, h2]
  · rw [if_neg q] at e1
    have e2 := (Prod.mk.inj (Option.some.inj (k2.symm.trans (wt_265n (by rw [n]; exact q))))).1
    rw [e1, e2, n]
