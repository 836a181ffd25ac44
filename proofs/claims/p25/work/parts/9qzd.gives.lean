section
/-! what a PART gives at each PUSH, by the reference: exactly -/
def rx_B (f : Nat → Int) (x2 : Nat) (M M' : EM) : Prop := (∀ id k, id ≠ 205 → M' id k = M id k) ∧ (∀ u, u < x2 → M' 205 u = M 205 u) ∧ ∀ u, x2 ≤ u → u < 1000 → M' 205 u = M 205 u + (cu_cu f (u : Int) 99 : Int)
theorem rx_by_in {f : Nat → Int} {i : Nat} {x2 : Int} (hx : x2 = i) (hi : i < 1000) (H : ∀ (c : Nat) (x1 : Int) (M : EM), x1 = c → c ≤ 99 → (∀ k, k < 100 → M 206 k = f k) → (∀ u, i + 1 ≤ u → u < 1000 → 0 ≤ M 205 u ∧ M 205 u ≤ 100000) → (∀ c', c < c' → c' ≤ 99 → f c' < x2 + 1) → ∃ M', E_V 205 5 [192, x1, x2 + 1] M = some (0, M') ∧ rx_B f (i + 1) M M') : ∀ (c : Nat) (x1 : Int) (M : EM), x1 = c → c ≤ 99 → (∀ k, k < 100 → M 206 k = f k) → (∀ u, i ≤ u → u < 1000 → 0 ≤ M 205 u ∧ M 205 u ≤ 100000) → (∀ c', c < c' → c' ≤ 99 → f c' < x2) → ∃ M', E_V 205 12 [192, x1, x2] M = some (0, M') ∧ rx_B f i M M' := by
  have w2 : e_w (x2 + 1) = x2 + 1 := a_w_id (by omega) (by omega)
  have h2 : 0 ≤ x2 ∧ x2 < 1000 := by omega
  have et : x2.toNat = i := by omega
  have hend : ∀ (c : Nat) (x1 : Int) (M : EM), x1 = c → c ≤ 99 → (∀ k, k < 100 → M 206 k = f k) → (∀ u, i ≤ u → u < 1000 → 0 ≤ M 205 u ∧ M 205 u ≤ 100000) → (∀ c', c < c' → c' ≤ 99 → f c' < x2) → ¬ (0 < x1 ∧ M 206 x1.toNat < x2) → ∃ M', E_V 205 12 [192, x1, x2] M = some (0, M') ∧ rx_B f i M M' := by
    intro c x1 M hc h9 hf hb hl hq
    have g1 := r_rd6 (i := x1) (M := M) (by omega) (by omega)
    have g2 := r_rd5 (M := M) h2.1 h2.2
    have b := hb i (Nat.le_refl _) hi
    have w3 : e_w (M 205 i + x1) = M 205 i + x1 := a_w_id (by omega) (by omega)
    have ec : cu_cu f (i : Int) 99 = c := cu_cu_u (by
      by_cases z : c = 0
      · exact Or.inl z
      · refine Or.inr ?_
        have e : M 206 x1.toNat = f c := by rw [show x1.toNat = c by omega]; exact hf c (by omega)
        have : ¬ M 206 x1.toNat < x2 := fun e => hq ⟨by omega, e⟩
        omega) 99 h9 (fun c' a b => by have := hl c' a b; omega)
    obtain ⟨M', k, h1, h3, h4⟩ := H c x1 (e_up M 205 i (M 205 i + x1)) hc h9 (fun k hk => (c_up_n (by omega)).trans (hf k hk)) (fun u u1 u2 => by rw [c_up_n (by omega)]; exact hb u (by omega) u2) (fun c' a b => by have := hl c' a b; omega)
    refine ⟨M', ?_, fun id k hid => (h1 id k hid).trans (c_up_n (fun e => hid e.1)), fun u hu => (h3 u (by omega)).trans (c_up_n (by omega)), fun u u1 u2 => ?_⟩
    · rw [← et] at w3 k
      rcases x_lt 0 x1 with ⟨q, q_n⟩ | ⟨q, q_n⟩
      · have q1 : ¬ (M 206 x1.toNat < x2) := fun e => hq ⟨q, e⟩
        rw [E_V_eq]
        show e_tv E_C (E_V 205) e_t205_12 [192, x1, x2] M = _
        unfold e_t205_12
        simp [zq_a, zq_b, zq_c, zq_d, zq_e, zq_f, zq_g, zq_h, zq_i, zq_j, zq_k, zq_l, zq_m, zq_n, zq_o, zq_p, zq_q, zq_r, zq_s, zq_t, zq_u, zq_v, zq_w, zq_x, zq_y, zq_z, zq_A, zq_B, zq_C, zq_D, zq_E, zq_F, zq_G, zq_H, zq_I, zq_J, zq_K, zq_L, ↓zq_M, ↓zq_N, ↓zq_O, ↓zq_P, ↓zq_Q, ↓zq_R, zq_S, zq_T, zq_U, zq_V, zq_W, zq_X, zq_Y, zq_Z, zq_0, zq_1, zq_2, zq_3, zq_4, zq_5, ↓zq_6, ↓zq_7, ↓zq_8, ↓zq_9, ↓zq_aa, zq_ab, zq_ac, zq_ad, zq_ae, zq_af, zq_ag, ↓zq_ah, ↓zq_ai, ↓zq_aj, zq_ak, ↓zq_al, ↓zq_am, e_b1, e_b2, x_o1, x_o2, r_O25, r_O26, q, q_n, q1, g1, g2, r_st5 h2.1 h2.2, w2, w3, k]
      · rw [E_V_eq]
        show e_tv E_C (E_V 205) e_t205_12 [192, x1, x2] M = _
        unfold e_t205_12
        simp [zq_a, zq_b, zq_c, zq_d, zq_e, zq_f, zq_g, zq_h, zq_i, zq_j, zq_k, zq_l, zq_m, zq_n, zq_o, zq_p, zq_q, zq_r, zq_s, zq_t, zq_u, zq_v, zq_w, zq_x, zq_y, zq_z, zq_A, zq_B, zq_C, zq_D, zq_E, zq_F, zq_G, zq_H, zq_I, zq_J, zq_K, zq_L, ↓zq_M, ↓zq_N, ↓zq_O, ↓zq_P, ↓zq_Q, ↓zq_R, zq_S, zq_T, zq_U, zq_V, zq_W, zq_X, zq_Y, zq_Z, zq_0, zq_1, zq_2, zq_3, zq_4, zq_5, ↓zq_6, ↓zq_7, ↓zq_8, ↓zq_9, ↓zq_aa, zq_ab, zq_ac, zq_ad, zq_ae, zq_af, zq_ag, ↓zq_ah, ↓zq_ai, ↓zq_aj, zq_ak, ↓zq_al, ↓zq_am, e_b1, e_b2, x_o1, x_o2, r_O25, r_O26, q, q_n, g1, g2, r_st5 h2.1 h2.2, w2, w3, k]
    · by_cases e : u = i
      · subst e
        rw [h3 u (by omega), c_up_s, ec, hc]
      · rw [h4 u (by omega) u2, c_up_n (by omega)]
  intro c
  induction c with
  | zero => intro x1 M hc h9 hf hb hl; exact hend 0 x1 M hc h9 hf hb hl (by omega)
  | succ c ih =>
    intro x1 M hc h9 hf hb hl
    have g1 := r_rd6 (i := x1) (M := M) (by omega) (by omega)
    by_cases q : 0 < x1 ∧ M 206 x1.toNat < x2
    · obtain ⟨q, q1⟩ := q
      have w1 : e_w (x1 + -1) = x1 - 1 := (a_w_id (by omega) (by omega)).trans (by omega)
      obtain ⟨M', k, hM'⟩ := ih (x1 - 1) M (by omega) (by omega) hf hb (fun c' a b => by
        by_cases e : c' = c + 1
        · have e2 : M 206 x1.toNat = f c' := by rw [show x1.toNat = c + 1 by omega, e]; exact hf _ (by omega)
          omega
        · exact hl c' (by omega) b)
      refine ⟨M', ?_, hM'⟩
      rw [E_V_eq]
      show e_tv E_C (E_V 205) e_t205_12 [192, x1, x2] M = _
      unfold e_t205_12
      simp [zq_a, zq_b, zq_c, zq_d, zq_e, zq_f, zq_g, zq_h, zq_i, zq_j, zq_k, zq_l, zq_m, zq_n, zq_o, zq_p, zq_q, zq_r, zq_s, zq_t, zq_u, zq_v, zq_w, zq_x, zq_y, zq_z, zq_A, zq_B, zq_C, zq_D, zq_E, zq_F, zq_G, zq_H, zq_I, zq_J, zq_K, zq_L, ↓zq_M, ↓zq_N, ↓zq_O, ↓zq_P, ↓zq_Q, ↓zq_R, zq_S, zq_T, zq_U, zq_V, zq_W, zq_X, zq_Y, zq_Z, zq_0, zq_1, zq_2, zq_3, zq_4, zq_5, ↓zq_6, ↓zq_7, ↓zq_8, ↓zq_9, ↓zq_aa, zq_ab, zq_ac, zq_ad, zq_ae, zq_af, zq_ag, ↓zq_ah, ↓zq_ai, ↓zq_aj, zq_ak, ↓zq_al, ↓zq_am, e_b1, e_b2, x_o1, x_o2, r_O25, r_O26, q, q1, g1, w1, k]
    · exact hend (c + 1) x1 M hc h9 hf hb hl q
theorem rx_by_out {f : Nat → Int} : ∀ (d i c : Nat) (x1 x2 : Int) (M : EM), x2 = i → i + d = 1000 → x1 = c → c ≤ 99 → (∀ k, k < 100 → M 206 k = f k) → (∀ u, i ≤ u → u < 1000 → 0 ≤ M 205 u ∧ M 205 u ≤ 100000) → (∀ c', c < c' → c' ≤ 99 → f c' < x2) → ∃ M', E_V 205 5 [192, x1, x2] M = some (0, M') ∧ rx_B f i M M' := by
  intro d
  induction d with
  | zero =>
    intro i c x1 x2 M hx hi hc h9 hf hb hl
    have q : ¬ (x2 < 1000) := by omega
    refine ⟨M, ?_, fun _ _ _ => rfl, fun _ _ => rfl, fun u u1 u2 => by omega⟩
    rw [E_V_eq]
    show e_tv E_C (E_V 205) e_t205_5 [192, x1, x2] M = _
    unfold e_t205_5
    simp [zq_a, zq_b, zq_c, zq_d, zq_e, zq_f, zq_g, zq_h, zq_i, zq_j, zq_k, zq_l, zq_m, zq_n, zq_o, zq_p, zq_q, zq_r, zq_s, zq_t, zq_u, zq_v, zq_w, zq_x, zq_y, zq_z, zq_A, zq_B, zq_C, zq_D, zq_E, zq_F, zq_G, zq_H, zq_I, zq_J, zq_K, zq_L, ↓zq_M, ↓zq_N, ↓zq_O, ↓zq_P, ↓zq_Q, ↓zq_R, zq_S, zq_T, zq_U, zq_V, zq_W, zq_X, zq_Y, zq_Z, zq_0, zq_1, zq_2, zq_3, zq_4, zq_5, ↓zq_6, ↓zq_7, ↓zq_8, ↓zq_9, ↓zq_aa, zq_ab, zq_ac, zq_ad, zq_ae, zq_af, zq_ag, ↓zq_ah, ↓zq_ai, ↓zq_aj, zq_ak, ↓zq_al, ↓zq_am, e_b1, e_b2, x_o1, x_o2, q]
  | succ d ih =>
    intro i c x1 x2 M hx hi hc h9 hf hb hl
    have q : x2 < 1000 := by omega
    obtain ⟨M', k, hM'⟩ := rx_by_in hx (by omega) (fun c x1 M a b e g h => ih (i + 1) c x1 (x2 + 1) M (by omega) (by omega) a b e g h) c x1 M hc h9 hf hb hl
    refine ⟨M', ?_, hM'⟩
    rw [E_V_eq]
    show e_tv E_C (E_V 205) e_t205_5 [192, x1, x2] M = _
    unfold e_t205_5
    simp [zq_a, zq_b, zq_c, zq_d, zq_e, zq_f, zq_g, zq_h, zq_i, zq_j, zq_k, zq_l, zq_m, zq_n, zq_o, zq_p, zq_q, zq_r, zq_s, zq_t, zq_u, zq_v, zq_w, zq_x, zq_y, zq_z, zq_A, zq_B, zq_C, zq_D, zq_E, zq_F, zq_G, zq_H, zq_I, zq_J, zq_K, zq_L, ↓zq_M, ↓zq_N, ↓zq_O, ↓zq_P, ↓zq_Q, ↓zq_R, zq_S, zq_T, zq_U, zq_V, zq_W, zq_X, zq_Y, zq_Z, zq_0, zq_1, zq_2, zq_3, zq_4, zq_5, ↓zq_6, ↓zq_7, ↓zq_8, ↓zq_9, ↓zq_aa, zq_ab, zq_ac, zq_ad, zq_ae, zq_af, zq_ag, ↓zq_ah, ↓zq_ai, ↓zq_aj, zq_ak, ↓zq_al, ↓zq_am, e_b1, e_b2, x_o1, x_o2, q, k]
theorem rx_givesBy {f : Nat → Int} {M : EM} (hf : ∀ k, k < 100 → M 206 k = f k) (hb : ∀ u, u < 1000 → 0 ≤ M 205 u ∧ M 205 u ≤ 100000) : ∃ M', E_C 205 [192] M = some (0, M') ∧ rx_B f 0 M M' := by
  obtain ⟨M', k, hM'⟩ := rx_by_out (f := f) 1000 0 99 99 0 M rfl rfl rfl (Nat.le_refl _) hf (fun u _ => hb u) (fun c' a b => by omega)
  refine ⟨M', ?_, hM'⟩
  rw [r_ent (show e_rok 205 [192] = true from decide_eq_true r_ref)]
  show e_tv E_C (E_V 205) e_t205_0 [192, 0, 0] M = _
  unfold e_t205_0
  simp [zq_a, zq_b, zq_c, zq_d, zq_e, zq_f, zq_g, zq_h, zq_i, zq_j, zq_k, zq_l, zq_m, zq_n, zq_o, zq_p, zq_q, zq_r, zq_s, zq_t, zq_u, zq_v, zq_w, zq_x, zq_y, zq_z, zq_A, zq_B, zq_C, zq_D, zq_E, zq_F, zq_G, zq_H, zq_I, zq_J, zq_K, zq_L, ↓zq_M, ↓zq_N, ↓zq_O, ↓zq_P, ↓zq_Q, ↓zq_R, zq_S, zq_T, zq_U, zq_V, zq_W, zq_X, zq_Y, zq_Z, zq_0, zq_1, zq_2, zq_3, zq_4, zq_5, ↓zq_6, ↓zq_7, ↓zq_8, ↓zq_9, ↓zq_aa, zq_ab, zq_ac, zq_ad, zq_ae, zq_af, zq_ag, ↓zq_ah, ↓zq_ai, ↓zq_aj, zq_ak, ↓zq_al, ↓zq_am, e_b1, e_b2, x_o1, x_o2, k]
/-- nothing but given and pushes is written -/
def rx_sm (M M' : EM) : Prop := ∀ id k, id ≠ 205 → id ≠ 206 → M' id k = M id k
theorem rx_sm_tr {M M1 M2 : EM} (h : rx_sm M M1) (k : rx_sm M1 M2) : rx_sm M M2 := fun id j a b => (k id j a b).trans (h id j a b)
theorem rx_sm_G {M M' : EM} (h : rx_sm M M') : r_G M' = r_G M := funext fun i => h _ _ (by decide) (by decide)
def rx_MD (M : EM) (SH WM : Int → Int) (DI : Int → Nat → Int) : Prop := ∀ M', rx_sm M M' → rx_md M' SH WM DI
theorem rx_MD_sm {M M' : EM} {SH WM : Int → Int} {DI : Int → Nat → Int} (h : rx_MD M SH WM DI) (k : rx_sm M M') : rx_MD M' SH WM DI := fun M2 h2 => h M2 (rx_sm_tr k h2)
theorem rx_MD_md {M : EM} {SH WM : Int → Int} {DI : Int → Nat → Int} (h : rx_MD M SH WM DI) : rx_md M SH WM DI := h M (fun _ _ _ _ => rfl)
section RXG
variable {SH WM : Int → Int} {DI : Int → Nat → Int}
theorem rx_gm_fill_204 {b p : Int} {g : Int → Int} (hv : hd_cvs g) (hb : b ≤ 40) (hb1 : b ≤ g 1198) (hp : r_cl g b p ∨ r_rw g b p) : ∀ (d i : Nat) (x2 : Int) (M : EM), x2 = i → i + d = 100 → r_G M = g → rx_MD M SH WM DI → (∀ k, k < i → M 206 k = cu_low g SH WM DI p (k : Int)) → (∀ u, u < 1000 → 0 ≤ M 205 u ∧ M 205 u ≤ 100000) → ∃ M', E_V 204 48 [192, p, x2] M = some (0, M') ∧ rx_sm M M' ∧ ∀ u, u < 1000 → M' 205 u = M 205 u + (cu_cu (fun c : Nat => cu_low g SH WM DI p (c : Int)) (u : Int) 99 : Int) := by
  intro d
  induction d with
  | zero =>
    intro i x2 M hx hi hG hm hf hb5
    have q : ¬ (x2 < 100) := by omega
    obtain ⟨M', k, h1, h2, h3⟩ := rx_givesBy (f := (fun c : Nat => cu_low g SH WM DI p (c : Int))) (fun k hk => hf k (by omega)) hb5
    refine ⟨M', ?_, fun id k a _ => h1 id k a, fun u hu => h3 u (Nat.zero_le _) hu⟩
    rw [E_V_eq]
    show e_tv E_C (E_V 204) e_t204_48 [192, p, x2] M = _
    unfold e_t204_48
    simp [zq_a, zq_b, zq_c, zq_d, zq_e, zq_f, zq_g, zq_h, zq_i, zq_j, zq_k, zq_l, zq_m, zq_n, zq_o, zq_p, zq_q, zq_r, zq_s, zq_t, zq_u, zq_v, zq_w, zq_x, zq_y, zq_z, zq_A, zq_B, zq_C, zq_D, zq_E, zq_F, zq_G, zq_H, zq_I, zq_J, zq_K, zq_L, ↓zq_M, ↓zq_N, ↓zq_O, ↓zq_P, ↓zq_Q, ↓zq_R, zq_S, zq_T, zq_U, zq_V, zq_W, zq_X, zq_Y, zq_Z, zq_0, zq_1, zq_2, zq_3, zq_4, zq_5, ↓zq_6, ↓zq_7, ↓zq_8, ↓zq_9, ↓zq_aa, zq_ab, zq_ac, zq_ad, zq_ae, zq_af, zq_ag, ↓zq_ah, ↓zq_ai, ↓zq_aj, zq_ak, ↓zq_al, ↓zq_am, e_b1, e_b2, x_o1, x_o2, q, k]
  | succ d ih =>
    intro i x2 M hx hi hG hm hf hb5
    have q : x2 < 100 := by omega
    have h0 : 0 ≤ x2 := by omega
    have kl : E_C 201 [192, p, x2] M = some (cu_low g SH WM DI p x2, M) := by
      have k := rx_low (c := x2) (rx_MD_md hm) (by rw [hG]; exact hv) hb (by rw [hG]; exact hb1) (by rw [hG]; exact hp) ⟨h0, by omega⟩
      rw [hG] at k
      exact k
    have w4 : e_w (x2 + 1) = x2 + 1 := a_w_id (by omega) (by omega)
    have sm : rx_sm M (e_up M 206 x2.toNat (cu_low g SH WM DI p x2)) := fun id k _ h6 => c_up_n (fun e => h6 e.1)
    obtain ⟨M', k, h1, h2⟩ := ih (i + 1) (x2 + 1) (e_up M 206 x2.toNat (cu_low g SH WM DI p x2)) (by omega) (by omega) ((rx_sm_G sm).trans hG) (rx_MD_sm hm sm) (fun k hk => by
      by_cases e : k = i
      · rw [e, show x2.toNat = i by omega, c_up_s, hx]
      · rw [c_up_n (by omega)]
        exact hf k (by omega)) (fun u hu => by rw [c_up_n (by omega)]; exact hb5 u hu)
    refine ⟨M', ?_, rx_sm_tr sm h1, fun u hu => by rw [h2 u hu, c_up_n (by omega)]⟩
    rw [E_V_eq]
    show e_tv E_C (E_V 204) e_t204_48 [192, p, x2] M = _
    unfold e_t204_48
    simp [zq_a, zq_b, zq_c, zq_d, zq_e, zq_f, zq_g, zq_h, zq_i, zq_j, zq_k, zq_l, zq_m, zq_n, zq_o, zq_p, zq_q, zq_r, zq_s, zq_t, zq_u, zq_v, zq_w, zq_x, zq_y, zq_z, zq_A, zq_B, zq_C, zq_D, zq_E, zq_F, zq_G, zq_H, zq_I, zq_J, zq_K, zq_L, ↓zq_M, ↓zq_N, ↓zq_O, ↓zq_P, ↓zq_Q, ↓zq_R, zq_S, zq_T, zq_U, zq_V, zq_W, zq_X, zq_Y, zq_Z, zq_0, zq_1, zq_2, zq_3, zq_4, zq_5, ↓zq_6, ↓zq_7, ↓zq_8, ↓zq_9, ↓zq_aa, zq_ab, zq_ac, zq_ad, zq_ae, zq_af, zq_ag, ↓zq_ah, ↓zq_ai, ↓zq_aj, zq_ak, ↓zq_al, ↓zq_am, e_b1, e_b2, x_o1, x_o2, r_O26, q, kl, r_st6 h0 q, w4, k]
theorem rx_gm_lo_204 {b p : Int} {g : Int → Int} {M : EM} (hG : r_G M = g) (hm : rx_MD M SH WM DI) (hv : hd_cvs g) (hb : b ≤ 40) (hb1 : b ≤ g 1198) (hp : r_cl g b p ∨ r_rw g b p) (hb5 : ∀ u, u < 1000 → 0 ≤ M 205 u ∧ M 205 u ≤ 100000) : ∃ M', E_C 204 [192, p] M = some (0, M') ∧ rx_sm M M' ∧ ∀ u, u < 1000 → M' 205 u = M 205 u + (cu_cu (fun c : Nat => cu_low g SH WM DI p (c : Int)) (u : Int) 99 : Int) := by
  have h40 := r_lo_p hb hp
  have kk : E_C 170 [192, p] M = some (g (28 * p), M) := by rw [← hG]; exact r_kind h40
  obtain ⟨M', k, hM'⟩ := rx_gm_fill_204 hv hb hb1 hp 100 0 0 M rfl rfl hG hm (fun k hk => absurd hk (Nat.not_lt_zero _)) hb5
  refine ⟨M', ?_, hM'⟩
  rcases hp with hp | hp
  · have a3 := hp.2.2.1
    rw [r_ent (show e_rok 204 [192, p] = true from decide_eq_true r_ref)]
    show e_tv E_C (E_V 204) e_t204_0 [192, p, 0] M = _
    unfold e_t204_0
    simp [zq_a, zq_b, zq_c, zq_d, zq_e, zq_f, zq_g, zq_h, zq_i, zq_j, zq_k, zq_l, zq_m, zq_n, zq_o, zq_p, zq_q, zq_r, zq_s, zq_t, zq_u, zq_v, zq_w, zq_x, zq_y, zq_z, zq_A, zq_B, zq_C, zq_D, zq_E, zq_F, zq_G, zq_H, zq_I, zq_J, zq_K, zq_L, ↓zq_M, ↓zq_N, ↓zq_O, ↓zq_P, ↓zq_Q, ↓zq_R, zq_S, zq_T, zq_U, zq_V, zq_W, zq_X, zq_Y, zq_Z, zq_0, zq_1, zq_2, zq_3, zq_4, zq_5, ↓zq_6, ↓zq_7, ↓zq_8, ↓zq_9, ↓zq_aa, zq_ab, zq_ac, zq_ad, zq_ae, zq_af, zq_ag, ↓zq_ah, ↓zq_ai, ↓zq_aj, zq_ak, ↓zq_al, ↓zq_am, e_b1, e_b2, x_o1, x_o2, kk, a3, k]
  · have a3 := hp.2.2.1
    rw [r_ent (show e_rok 204 [192, p] = true from decide_eq_true r_ref)]
    show e_tv E_C (E_V 204) e_t204_0 [192, p, 0] M = _
    unfold e_t204_0
    simp [zq_a, zq_b, zq_c, zq_d, zq_e, zq_f, zq_g, zq_h, zq_i, zq_j, zq_k, zq_l, zq_m, zq_n, zq_o, zq_p, zq_q, zq_r, zq_s, zq_t, zq_u, zq_v, zq_w, zq_x, zq_y, zq_z, zq_A, zq_B, zq_C, zq_D, zq_E, zq_F, zq_G, zq_H, zq_I, zq_J, zq_K, zq_L, ↓zq_M, ↓zq_N, ↓zq_O, ↓zq_P, ↓zq_Q, ↓zq_R, zq_S, zq_T, zq_U, zq_V, zq_W, zq_X, zq_Y, zq_Z, zq_0, zq_1, zq_2, zq_3, zq_4, zq_5, ↓zq_6, ↓zq_7, ↓zq_8, ↓zq_9, ↓zq_aa, zq_ab, zq_ac, zq_ad, zq_ae, zq_af, zq_ag, ↓zq_ah, ↓zq_ai, ↓zq_aj, zq_ak, ↓zq_al, ↓zq_am, e_b1, e_b2, x_o1, x_o2, kk, a3, k]
theorem rx_gm_fill_308 {b p : Int} {g : Int → Int} (hv : hd_cvs g) (hb : b ≤ 40) (hb1 : b ≤ g 1198) (hp : r_cl g b p ∨ r_rw g b p) : ∀ (d i : Nat) (x2 : Int) (M : EM), x2 = i → i + d = 100 → r_G M = g → rx_MD M SH WM DI → (∀ k, k < i → M 206 k = cu_low g SH WM DI p (k : Int)) → (∀ u, u < 1000 → 0 ≤ M 205 u ∧ M 205 u ≤ 100000) → ∃ M', E_V 308 48 [192, p, x2] M = some (0, M') ∧ rx_sm M M' ∧ ∀ u, u < 1000 → M' 205 u = M 205 u + (cu_cu (fun c : Nat => cu_low g SH WM DI p (c : Int)) (u : Int) 99 : Int) := by
  intro d
  induction d with
  | zero =>
    intro i x2 M hx hi hG hm hf hb5
    have q : ¬ (x2 < 100) := by omega
    obtain ⟨M', k, h1, h2, h3⟩ := rx_givesBy (f := (fun c : Nat => cu_low g SH WM DI p (c : Int))) (fun k hk => hf k (by omega)) hb5
    refine ⟨M', ?_, fun id k a _ => h1 id k a, fun u hu => h3 u (Nat.zero_le _) hu⟩
    rw [E_V_eq]
    show e_tv E_C (E_V 308) e_t308_48 [192, p, x2] M = _
    unfold e_t308_48
    simp [zq_a, zq_b, zq_c, zq_d, zq_e, zq_f, zq_g, zq_h, zq_i, zq_j, zq_k, zq_l, zq_m, zq_n, zq_o, zq_p, zq_q, zq_r, zq_s, zq_t, zq_u, zq_v, zq_w, zq_x, zq_y, zq_z, zq_A, zq_B, zq_C, zq_D, zq_E, zq_F, zq_G, zq_H, zq_I, zq_J, zq_K, zq_L, ↓zq_M, ↓zq_N, ↓zq_O, ↓zq_P, ↓zq_Q, ↓zq_R, zq_S, zq_T, zq_U, zq_V, zq_W, zq_X, zq_Y, zq_Z, zq_0, zq_1, zq_2, zq_3, zq_4, zq_5, ↓zq_6, ↓zq_7, ↓zq_8, ↓zq_9, ↓zq_aa, zq_ab, zq_ac, zq_ad, zq_ae, zq_af, zq_ag, ↓zq_ah, ↓zq_ai, ↓zq_aj, zq_ak, ↓zq_al, ↓zq_am, e_b1, e_b2, x_o1, x_o2, q, k]
  | succ d ih =>
    intro i x2 M hx hi hG hm hf hb5
    have q : x2 < 100 := by omega
    have h0 : 0 ≤ x2 := by omega
    have kl : E_C 201 [192, p, x2] M = some (cu_low g SH WM DI p x2, M) := by
      have k := rx_low (c := x2) (rx_MD_md hm) (by rw [hG]; exact hv) hb (by rw [hG]; exact hb1) (by rw [hG]; exact hp) ⟨h0, by omega⟩
      rw [hG] at k
      exact k
    have w4 : e_w (x2 + 1) = x2 + 1 := a_w_id (by omega) (by omega)
    have sm : rx_sm M (e_up M 206 x2.toNat (cu_low g SH WM DI p x2)) := fun id k _ h6 => c_up_n (fun e => h6 e.1)
    obtain ⟨M', k, h1, h2⟩ := ih (i + 1) (x2 + 1) (e_up M 206 x2.toNat (cu_low g SH WM DI p x2)) (by omega) (by omega) ((rx_sm_G sm).trans hG) (rx_MD_sm hm sm) (fun k hk => by
      by_cases e : k = i
      · rw [e, show x2.toNat = i by omega, c_up_s, hx]
      · rw [c_up_n (by omega)]
        exact hf k (by omega)) (fun u hu => by rw [c_up_n (by omega)]; exact hb5 u hu)
    refine ⟨M', ?_, rx_sm_tr sm h1, fun u hu => by rw [h2 u hu, c_up_n (by omega)]⟩
    rw [E_V_eq]
    show e_tv E_C (E_V 308) e_t308_48 [192, p, x2] M = _
    unfold e_t308_48
    simp [zq_a, zq_b, zq_c, zq_d, zq_e, zq_f, zq_g, zq_h, zq_i, zq_j, zq_k, zq_l, zq_m, zq_n, zq_o, zq_p, zq_q, zq_r, zq_s, zq_t, zq_u, zq_v, zq_w, zq_x, zq_y, zq_z, zq_A, zq_B, zq_C, zq_D, zq_E, zq_F, zq_G, zq_H, zq_I, zq_J, zq_K, zq_L, ↓zq_M, ↓zq_N, ↓zq_O, ↓zq_P, ↓zq_Q, ↓zq_R, zq_S, zq_T, zq_U, zq_V, zq_W, zq_X, zq_Y, zq_Z, zq_0, zq_1, zq_2, zq_3, zq_4, zq_5, ↓zq_6, ↓zq_7, ↓zq_8, ↓zq_9, ↓zq_aa, zq_ab, zq_ac, zq_ad, zq_ae, zq_af, zq_ag, ↓zq_ah, ↓zq_ai, ↓zq_aj, zq_ak, ↓zq_al, ↓zq_am, e_b1, e_b2, x_o1, x_o2, r_O26, q, kl, r_st6 h0 q, w4, k]
theorem rx_gm_lo_308 {b p : Int} {g : Int → Int} {M : EM} (hG : r_G M = g) (hm : rx_MD M SH WM DI) (hv : hd_cvs g) (hb : b ≤ 40) (hb1 : b ≤ g 1198) (hp : r_cl g b p ∨ r_rw g b p) (hb5 : ∀ u, u < 1000 → 0 ≤ M 205 u ∧ M 205 u ≤ 100000) : ∃ M', E_C 308 [192, p] M = some (0, M') ∧ rx_sm M M' ∧ ∀ u, u < 1000 → M' 205 u = M 205 u + (cu_cu (fun c : Nat => cu_low g SH WM DI p (c : Int)) (u : Int) 99 : Int) := by
  have h40 := r_lo_p hb hp
  have kk : E_C 170 [192, p] M = some (g (28 * p), M) := by rw [← hG]; exact r_kind h40
  obtain ⟨M', k, hM'⟩ := rx_gm_fill_308 hv hb hb1 hp 100 0 0 M rfl rfl hG hm (fun k hk => absurd hk (Nat.not_lt_zero _)) hb5
  refine ⟨M', ?_, hM'⟩
  rcases hp with hp | hp
  · have a3 := hp.2.2.1
    rw [r_ent (show e_rok 308 [192, p] = true from decide_eq_true r_ref)]
    show e_tv E_C (E_V 308) e_t308_0 [192, p, 0] M = _
    unfold e_t308_0
    simp [zq_a, zq_b, zq_c, zq_d, zq_e, zq_f, zq_g, zq_h, zq_i, zq_j, zq_k, zq_l, zq_m, zq_n, zq_o, zq_p, zq_q, zq_r, zq_s, zq_t, zq_u, zq_v, zq_w, zq_x, zq_y, zq_z, zq_A, zq_B, zq_C, zq_D, zq_E, zq_F, zq_G, zq_H, zq_I, zq_J, zq_K, zq_L, ↓zq_M, ↓zq_N, ↓zq_O, ↓zq_P, ↓zq_Q, ↓zq_R, zq_S, zq_T, zq_U, zq_V, zq_W, zq_X, zq_Y, zq_Z, zq_0, zq_1, zq_2, zq_3, zq_4, zq_5, ↓zq_6, ↓zq_7, ↓zq_8, ↓zq_9, ↓zq_aa, zq_ab, zq_ac, zq_ad, zq_ae, zq_af, zq_ag, ↓zq_ah, ↓zq_ai, ↓zq_aj, zq_ak, ↓zq_al, ↓zq_am, e_b1, e_b2, x_o1, x_o2, kk, a3, k]
  · have a3 := hp.2.2.1
    rw [r_ent (show e_rok 308 [192, p] = true from decide_eq_true r_ref)]
    show e_tv E_C (E_V 308) e_t308_0 [192, p, 0] M = _
    unfold e_t308_0
    simp [zq_a, zq_b, zq_c, zq_d, zq_e, zq_f, zq_g, zq_h, zq_i, zq_j, zq_k, zq_l, zq_m, zq_n, zq_o, zq_p, zq_q, zq_r, zq_s, zq_t, zq_u, zq_v, zq_w, zq_x, zq_y, zq_z, zq_A, zq_B, zq_C, zq_D, zq_E, zq_F, zq_G, zq_H, zq_I, zq_J, zq_K, zq_L, ↓zq_M, ↓zq_N, ↓zq_O, ↓zq_P, ↓zq_Q, ↓zq_R, zq_S, zq_T, zq_U, zq_V, zq_W, zq_X, zq_Y, zq_Z, zq_0, zq_1, zq_2, zq_3, zq_4, zq_5, ↓zq_6, ↓zq_7, ↓zq_8, ↓zq_9, ↓zq_aa, zq_ab, zq_ac, zq_ad, zq_ae, zq_af, zq_ag, ↓zq_ah, ↓zq_ai, ↓zq_aj, zq_ak, ↓zq_al, ↓zq_am, e_b1, e_b2, x_o1, x_o2, kk, a3, k]
theorem rx_gm_fill_309 {b p : Int} {g : Int → Int} (hv : hd_cvs g) (hb : b ≤ 40) (hb1 : b ≤ g 1198) (hp : r_cl g b p ∨ r_rw g b p) : ∀ (d i : Nat) (x2 : Int) (M : EM), x2 = i → i + d = 100 → r_G M = g → rx_MD M SH WM DI → (∀ k, k < i → M 206 k = cu_low g SH WM DI p (k : Int)) → (∀ u, u < 1000 → 0 ≤ M 205 u ∧ M 205 u ≤ 100000) → ∃ M', E_V 309 48 [192, p, x2] M = some (0, M') ∧ rx_sm M M' ∧ ∀ u, u < 1000 → M' 205 u = M 205 u + (cu_cu (fun c : Nat => cu_low g SH WM DI p (c : Int)) (u : Int) 99 : Int) := by
  intro d
  induction d with
  | zero =>
    intro i x2 M hx hi hG hm hf hb5
    have q : ¬ (x2 < 100) := by omega
    obtain ⟨M', k, h1, h2, h3⟩ := rx_givesBy (f := (fun c : Nat => cu_low g SH WM DI p (c : Int))) (fun k hk => hf k (by omega)) hb5
    refine ⟨M', ?_, fun id k a _ => h1 id k a, fun u hu => h3 u (Nat.zero_le _) hu⟩
    rw [E_V_eq]
    show e_tv E_C (E_V 309) e_t309_48 [192, p, x2] M = _
    unfold e_t309_48
    simp [zq_a, zq_b, zq_c, zq_d, zq_e, zq_f, zq_g, zq_h, zq_i, zq_j, zq_k, zq_l, zq_m, zq_n, zq_o, zq_p, zq_q, zq_r, zq_s, zq_t, zq_u, zq_v, zq_w, zq_x, zq_y, zq_z, zq_A, zq_B, zq_C, zq_D, zq_E, zq_F, zq_G, zq_H, zq_I, zq_J, zq_K, zq_L, ↓zq_M, ↓zq_N, ↓zq_O, ↓zq_P, ↓zq_Q, ↓zq_R, zq_S, zq_T, zq_U, zq_V, zq_W, zq_X, zq_Y, zq_Z, zq_0, zq_1, zq_2, zq_3, zq_4, zq_5, ↓zq_6, ↓zq_7, ↓zq_8, ↓zq_9, ↓zq_aa, zq_ab, zq_ac, zq_ad, zq_ae, zq_af, zq_ag, ↓zq_ah, ↓zq_ai, ↓zq_aj, zq_ak, ↓zq_al, ↓zq_am, e_b1, e_b2, x_o1, x_o2, q, k]
  | succ d ih =>
    intro i x2 M hx hi hG hm hf hb5
    have q : x2 < 100 := by omega
    have h0 : 0 ≤ x2 := by omega
    have kl : E_C 201 [192, p, x2] M = some (cu_low g SH WM DI p x2, M) := by
      have k := rx_low (c := x2) (rx_MD_md hm) (by rw [hG]; exact hv) hb (by rw [hG]; exact hb1) (by rw [hG]; exact hp) ⟨h0, by omega⟩
      rw [hG] at k
      exact k
    have w4 : e_w (x2 + 1) = x2 + 1 := a_w_id (by omega) (by omega)
    have sm : rx_sm M (e_up M 206 x2.toNat (cu_low g SH WM DI p x2)) := fun id k _ h6 => c_up_n (fun e => h6 e.1)
    obtain ⟨M', k, h1, h2⟩ := ih (i + 1) (x2 + 1) (e_up M 206 x2.toNat (cu_low g SH WM DI p x2)) (by omega) (by omega) ((rx_sm_G sm).trans hG) (rx_MD_sm hm sm) (fun k hk => by
      by_cases e : k = i
      · rw [e, show x2.toNat = i by omega, c_up_s, hx]
      · rw [c_up_n (by omega)]
        exact hf k (by omega)) (fun u hu => by rw [c_up_n (by omega)]; exact hb5 u hu)
    refine ⟨M', ?_, rx_sm_tr sm h1, fun u hu => by rw [h2 u hu, c_up_n (by omega)]⟩
    rw [E_V_eq]
    show e_tv E_C (E_V 309) e_t309_48 [192, p, x2] M = _
    unfold e_t309_48
    simp [zq_a, zq_b, zq_c, zq_d, zq_e, zq_f, zq_g, zq_h, zq_i, zq_j, zq_k, zq_l, zq_m, zq_n, zq_o, zq_p, zq_q, zq_r, zq_s, zq_t, zq_u, zq_v, zq_w, zq_x, zq_y, zq_z, zq_A, zq_B, zq_C, zq_D, zq_E, zq_F, zq_G, zq_H, zq_I, zq_J, zq_K, zq_L, ↓zq_M, ↓zq_N, ↓zq_O, ↓zq_P, ↓zq_Q, ↓zq_R, zq_S, zq_T, zq_U, zq_V, zq_W, zq_X, zq_Y, zq_Z, zq_0, zq_1, zq_2, zq_3, zq_4, zq_5, ↓zq_6, ↓zq_7, ↓zq_8, ↓zq_9, ↓zq_aa, zq_ab, zq_ac, zq_ad, zq_ae, zq_af, zq_ag, ↓zq_ah, ↓zq_ai, ↓zq_aj, zq_ak, ↓zq_al, ↓zq_am, e_b1, e_b2, x_o1, x_o2, r_O26, q, kl, r_st6 h0 q, w4, k]
theorem rx_gm_lo_309 {b p : Int} {g : Int → Int} {M : EM} (hG : r_G M = g) (hm : rx_MD M SH WM DI) (hv : hd_cvs g) (hb : b ≤ 40) (hb1 : b ≤ g 1198) (hp : r_cl g b p ∨ r_rw g b p) (hb5 : ∀ u, u < 1000 → 0 ≤ M 205 u ∧ M 205 u ≤ 100000) : ∃ M', E_C 309 [192, p] M = some (0, M') ∧ rx_sm M M' ∧ ∀ u, u < 1000 → M' 205 u = M 205 u + (cu_cu (fun c : Nat => cu_low g SH WM DI p (c : Int)) (u : Int) 99 : Int) := by
  have h40 := r_lo_p hb hp
  have kk : E_C 170 [192, p] M = some (g (28 * p), M) := by rw [← hG]; exact r_kind h40
  obtain ⟨M', k, hM'⟩ := rx_gm_fill_309 hv hb hb1 hp 100 0 0 M rfl rfl hG hm (fun k hk => absurd hk (Nat.not_lt_zero _)) hb5
  refine ⟨M', ?_, hM'⟩
  rcases hp with hp | hp
  · have a3 := hp.2.2.1
    rw [r_ent (show e_rok 309 [192, p] = true from decide_eq_true r_ref)]
    show e_tv E_C (E_V 309) e_t309_0 [192, p, 0] M = _
    unfold e_t309_0
    simp [zq_a, zq_b, zq_c, zq_d, zq_e, zq_f, zq_g, zq_h, zq_i, zq_j, zq_k, zq_l, zq_m, zq_n, zq_o, zq_p, zq_q, zq_r, zq_s, zq_t, zq_u, zq_v, zq_w, zq_x, zq_y, zq_z, zq_A, zq_B, zq_C, zq_D, zq_E, zq_F, zq_G, zq_H, zq_I, zq_J, zq_K, zq_L, ↓zq_M, ↓zq_N, ↓zq_O, ↓zq_P, ↓zq_Q, ↓zq_R, zq_S, zq_T, zq_U, zq_V, zq_W, zq_X, zq_Y, zq_Z, zq_0, zq_1, zq_2, zq_3, zq_4, zq_5, ↓zq_6, ↓zq_7, ↓zq_8, ↓zq_9, ↓zq_aa, zq_ab, zq_ac, zq_ad, zq_ae, zq_af, zq_ag, ↓zq_ah, ↓zq_ai, ↓zq_aj, zq_ak, ↓zq_al, ↓zq_am, e_b1, e_b2, x_o1, x_o2, kk, a3, k]
  · have a3 := hp.2.2.1
    rw [r_ent (show e_rok 309 [192, p] = true from decide_eq_true r_ref)]
    show e_tv E_C (E_V 309) e_t309_0 [192, p, 0] M = _
    unfold e_t309_0
    simp [zq_a, zq_b, zq_c, zq_d, zq_e, zq_f, zq_g, zq_h, zq_i, zq_j, zq_k, zq_l, zq_m, zq_n, zq_o, zq_p, zq_q, zq_r, zq_s, zq_t, zq_u, zq_v, zq_w, zq_x, zq_y, zq_z, zq_A, zq_B, zq_C, zq_D, zq_E, zq_F, zq_G, zq_H, zq_I, zq_J, zq_K, zq_L, ↓zq_M, ↓zq_N, ↓zq_O, ↓zq_P, ↓zq_Q, ↓zq_R, zq_S, zq_T, zq_U, zq_V, zq_W, zq_X, zq_Y, zq_Z, zq_0, zq_1, zq_2, zq_3, zq_4, zq_5, ↓zq_6, ↓zq_7, ↓zq_8, ↓zq_9, ↓zq_aa, zq_ab, zq_ac, zq_ad, zq_ae, zq_af, zq_ag, ↓zq_ah, ↓zq_ai, ↓zq_aj, zq_ak, ↓zq_al, ↓zq_am, e_b1, e_b2, x_o1, x_o2, kk, a3, k]
theorem rx_gm_all_308 {p : Int} {g : Int → Int} {n : Nat} (hv : hd_cvs g) (hp : 0 ≤ p ∧ p < 40) (hp1 : p ≤ g 1198) (hk0 : g (28 * p) = 2) (hn : g (28 * p + 2) = n) (hn6 : n ≤ 6) (hk : ∀ k, 0 ≤ k → k < g (28 * p + 2) → r_cl g p (g (28 * p + 3 + k)) ∨ r_rw g p (g (28 * p + 3 + k))) : ∀ (d i : Nat) (x2 : Int) (M : EM), x2 = i → i + d = n → r_G M = g → rx_MD M SH WM DI → (∀ u, u < 1000 → M 205 u = cu_S (cu_F g SH WM DI p) (u : Int) i) → ∃ M', E_V 308 20 [192, p, x2] M = some (0, M') ∧ rx_sm M M' ∧ ∀ u, u < 1000 → M' 205 u = cu_S (cu_F g SH WM DI p) (u : Int) n := by
  intro d
  induction d with
  | zero =>
    intro i x2 M hx hi hG hm h5
    have e : i = n := by omega
    subst e
    have km : E_C 171 [192, p] M = some (g (28 * p + 2), M) := by rw [← hG]; exact r_many hp
    have q : ¬ (x2 < g (28 * p + 2)) := by omega
    refine ⟨M, ?_, fun _ _ _ _ => rfl, h5⟩
    rw [E_V_eq]
    show e_tv E_C (E_V 308) e_t308_20 [192, p, x2] M = _
    unfold e_t308_20
    simp [zq_a, zq_b, zq_c, zq_d, zq_e, zq_f, zq_g, zq_h, zq_i, zq_j, zq_k, zq_l, zq_m, zq_n, zq_o, zq_p, zq_q, zq_r, zq_s, zq_t, zq_u, zq_v, zq_w, zq_x, zq_y, zq_z, zq_A, zq_B, zq_C, zq_D, zq_E, zq_F, zq_G, zq_H, zq_I, zq_J, zq_K, zq_L, ↓zq_M, ↓zq_N, ↓zq_O, ↓zq_P, ↓zq_Q, ↓zq_R, zq_S, zq_T, zq_U, zq_V, zq_W, zq_X, zq_Y, zq_Z, zq_0, zq_1, zq_2, zq_3, zq_4, zq_5, ↓zq_6, ↓zq_7, ↓zq_8, ↓zq_9, ↓zq_aa, zq_ab, zq_ac, zq_ad, zq_ae, zq_af, zq_ag, ↓zq_ah, ↓zq_ai, ↓zq_aj, zq_ak, ↓zq_al, ↓zq_am, e_b1, e_b2, x_o1, x_o2, q, km]
  | succ d ih =>
    intro i x2 M hx hi hG hm h5
    have q : x2 < g (28 * p + 2) := by omega
    have km : E_C 171 [192, p] M = some (g (28 * p + 2), M) := by rw [← hG]; exact r_many hp
    have w4 : e_w (x2 + 1) = x2 + 1 := a_w_id (by omega) (by omega)
    have ko : E_C 172 [192, p, x2] M = some (g (28 * p + 3 + x2), M) := by rw [← hG]; exact r_of hp ⟨by omega, by omega⟩
    obtain ⟨M1, k1, e1, e2⟩ := rx_gm_lo_309 hG hm hv (show p ≤ 40 by omega) hp1 (hk x2 (by omega) q) (fun u hu => by
      have := cu_S_bd (F := cu_F g SH WM DI p) (u := (u : Int)) i
      rw [h5 u hu]
      omega)
    obtain ⟨M', k, h1, h2⟩ := ih (i + 1) (x2 + 1) M1 (by omega) (by omega) ((rx_sm_G e1).trans hG) (rx_MD_sm hm e1) (fun u hu => by
      rw [e2 u hu, h5 u hu]
      show _ = cu_S (cu_F g SH WM DI p) (u : Int) i + (cu_cu (cu_F g SH WM DI p i) (u : Int) 99 : Int)
      unfold cu_F cu_ln
      rw [if_pos hk0, hx])
    refine ⟨M', ?_, rx_sm_tr e1 h1, h2⟩
    rw [E_V_eq]
    show e_tv E_C (E_V 308) e_t308_20 [192, p, x2] M = _
    unfold e_t308_20
    simp [zq_a, zq_b, zq_c, zq_d, zq_e, zq_f, zq_g, zq_h, zq_i, zq_j, zq_k, zq_l, zq_m, zq_n, zq_o, zq_p, zq_q, zq_r, zq_s, zq_t, zq_u, zq_v, zq_w, zq_x, zq_y, zq_z, zq_A, zq_B, zq_C, zq_D, zq_E, zq_F, zq_G, zq_H, zq_I, zq_J, zq_K, zq_L, ↓zq_M, ↓zq_N, ↓zq_O, ↓zq_P, ↓zq_Q, ↓zq_R, zq_S, zq_T, zq_U, zq_V, zq_W, zq_X, zq_Y, zq_Z, zq_0, zq_1, zq_2, zq_3, zq_4, zq_5, ↓zq_6, ↓zq_7, ↓zq_8, ↓zq_9, ↓zq_aa, zq_ab, zq_ac, zq_ad, zq_ae, zq_af, zq_ag, ↓zq_ah, ↓zq_ai, ↓zq_aj, zq_ak, ↓zq_al, ↓zq_am, e_b1, e_b2, x_o1, x_o2, q, km, ko, k1, w4, k]
theorem rx_gm_nb_308 {b p : Int} {g : Int → Int} {M : EM} (hG : r_G M = g) (hm : rx_MD M SH WM DI) (hv : hd_cvs g) (hb : b ≤ 40) (hb1 : b ≤ g 1198) (hp : r_cl g b p ∨ r_rw g b p ∨ r_fd g b p) (h5 : ∀ u, u < 1000 → M 205 u = 0) : ∃ M', E_C 308 [192, p] M = some (0, M') ∧ rx_sm M M' ∧ ∀ u, u < 1000 → M' 205 u = cu_S (cu_F g SH WM DI p) (u : Int) (cu_nl g p) := by
  have low : ∀ hp : r_cl g b p ∨ r_rw g b p, ∃ M', E_C 308 [192, p] M = some (0, M') ∧ rx_sm M M' ∧ ∀ u, u < 1000 → M' 205 u = cu_S (cu_F g SH WM DI p) (u : Int) (cu_nl g p) := by
    intro hp
    have k0 : ¬ g (28 * p) = 2 := by
      rcases hp with hp | hp
      · have := hp.2.2.1; omega
      · have := hp.2.2.1; omega
    obtain ⟨M', k, h1, h2⟩ := rx_gm_lo_308 hG hm hv hb hb1 hp (fun u hu => by rw [h5 u hu]; decide)
    refine ⟨M', k, h1, fun u hu => ?_⟩
    rw [h2 u hu, h5 u hu]
    unfold cu_nl
    rw [if_neg k0]
    show _ = 0 + (cu_cu (cu_F g SH WM DI p 0) (u : Int) 99 : Int)
    unfold cu_F cu_ln
    rw [if_neg k0]
  rcases hp with hp | hp | hp
  · exact low (Or.inl hp)
  · exact low (Or.inr hp)
  · obtain ⟨a1, a2, a3, a4, a5, a6⟩ := hp
    obtain ⟨n, hn⟩ : ∃ n : Nat, g (28 * p + 2) = n := ⟨(g (28 * p + 2)).toNat, by omega⟩
    have kk : E_C 170 [192, p] M = some (g (28 * p), M) := by rw [← hG]; exact r_kind ⟨a1, by omega⟩
    obtain ⟨M', k, h1, h2⟩ := rx_gm_all_308 hv ⟨a1, by omega⟩ (show p ≤ g 1198 by omega) a3 hn (by omega) a6 n 0 0 M rfl (by omega) hG hm (fun u hu => h5 u hu)
    refine ⟨M', ?_, h1, fun u hu => ?_⟩
    · rw [r_ent (show e_rok 308 [192, p] = true from decide_eq_true r_ref)]
      show e_tv E_C (E_V 308) e_t308_0 [192, p, 0] M = _
      unfold e_t308_0
      simp [zq_a, zq_b, zq_c, zq_d, zq_e, zq_f, zq_g, zq_h, zq_i, zq_j, zq_k, zq_l, zq_m, zq_n, zq_o, zq_p, zq_q, zq_r, zq_s, zq_t, zq_u, zq_v, zq_w, zq_x, zq_y, zq_z, zq_A, zq_B, zq_C, zq_D, zq_E, zq_F, zq_G, zq_H, zq_I, zq_J, zq_K, zq_L, ↓zq_M, ↓zq_N, ↓zq_O, ↓zq_P, ↓zq_Q, ↓zq_R, zq_S, zq_T, zq_U, zq_V, zq_W, zq_X, zq_Y, zq_Z, zq_0, zq_1, zq_2, zq_3, zq_4, zq_5, ↓zq_6, ↓zq_7, ↓zq_8, ↓zq_9, ↓zq_aa, zq_ab, zq_ac, zq_ad, zq_ae, zq_af, zq_ag, ↓zq_ah, ↓zq_ai, ↓zq_aj, zq_ak, ↓zq_al, ↓zq_am, e_b1, e_b2, x_o1, x_o2, kk, a3, k]
    · rw [h2 u hu]
      unfold cu_nl
      rw [if_pos a3, hn, Int.toNat_natCast]
theorem rx_gm_all_204 {p : Int} {g : Int → Int} {n : Nat} (hv : hd_cvs g) (hp : 0 ≤ p ∧ p < 40) (hp1 : p ≤ g 1198) (hk0 : g (28 * p) = 2) (hn : g (28 * p + 2) = n) (hn6 : n ≤ 6) (hk : ∀ k, 0 ≤ k → k < g (28 * p + 2) → r_cl g p (g (28 * p + 3 + k)) ∨ r_rw g p (g (28 * p + 3 + k))) : ∀ (d i : Nat) (x2 : Int) (M : EM), x2 = i → i + d = n → r_G M = g → rx_MD M SH WM DI → (∀ u, u < 1000 → M 205 u = cu_S (cu_F g SH WM DI p) (u : Int) i) → ∃ M', E_V 204 20 [192, p, x2] M = some (0, M') ∧ rx_sm M M' ∧ ∀ u, u < 1000 → M' 205 u = cu_S (cu_F g SH WM DI p) (u : Int) n := by
  intro d
  induction d with
  | zero =>
    intro i x2 M hx hi hG hm h5
    have e : i = n := by omega
    subst e
    have km : E_C 171 [192, p] M = some (g (28 * p + 2), M) := by rw [← hG]; exact r_many hp
    have q : ¬ (x2 < g (28 * p + 2)) := by omega
    refine ⟨M, ?_, fun _ _ _ _ => rfl, h5⟩
    rw [E_V_eq]
    show e_tv E_C (E_V 204) e_t204_20 [192, p, x2] M = _
    unfold e_t204_20
    simp [zq_a, zq_b, zq_c, zq_d, zq_e, zq_f, zq_g, zq_h, zq_i, zq_j, zq_k, zq_l, zq_m, zq_n, zq_o, zq_p, zq_q, zq_r, zq_s, zq_t, zq_u, zq_v, zq_w, zq_x, zq_y, zq_z, zq_A, zq_B, zq_C, zq_D, zq_E, zq_F, zq_G, zq_H, zq_I, zq_J, zq_K, zq_L, ↓zq_M, ↓zq_N, ↓zq_O, ↓zq_P, ↓zq_Q, ↓zq_R, zq_S, zq_T, zq_U, zq_V, zq_W, zq_X, zq_Y, zq_Z, zq_0, zq_1, zq_2, zq_3, zq_4, zq_5, ↓zq_6, ↓zq_7, ↓zq_8, ↓zq_9, ↓zq_aa, zq_ab, zq_ac, zq_ad, zq_ae, zq_af, zq_ag, ↓zq_ah, ↓zq_ai, ↓zq_aj, zq_ak, ↓zq_al, ↓zq_am, e_b1, e_b2, x_o1, x_o2, q, km]
  | succ d ih =>
    intro i x2 M hx hi hG hm h5
    have q : x2 < g (28 * p + 2) := by omega
    have km : E_C 171 [192, p] M = some (g (28 * p + 2), M) := by rw [← hG]; exact r_many hp
    have w4 : e_w (x2 + 1) = x2 + 1 := a_w_id (by omega) (by omega)
    have ko : E_C 172 [192, p, x2] M = some (g (28 * p + 3 + x2), M) := by rw [← hG]; exact r_of hp ⟨by omega, by omega⟩
    obtain ⟨M1, k1, e1, e2⟩ := rx_gm_lo_308 hG hm hv (show p ≤ 40 by omega) hp1 (hk x2 (by omega) q) (fun u hu => by
      have := cu_S_bd (F := cu_F g SH WM DI p) (u := (u : Int)) i
      rw [h5 u hu]
      omega)
    obtain ⟨M', k, h1, h2⟩ := ih (i + 1) (x2 + 1) M1 (by omega) (by omega) ((rx_sm_G e1).trans hG) (rx_MD_sm hm e1) (fun u hu => by
      rw [e2 u hu, h5 u hu]
      show _ = cu_S (cu_F g SH WM DI p) (u : Int) i + (cu_cu (cu_F g SH WM DI p i) (u : Int) 99 : Int)
      unfold cu_F cu_ln
      rw [if_pos hk0, hx])
    refine ⟨M', ?_, rx_sm_tr e1 h1, h2⟩
    rw [E_V_eq]
    show e_tv E_C (E_V 204) e_t204_20 [192, p, x2] M = _
    unfold e_t204_20
    simp [zq_a, zq_b, zq_c, zq_d, zq_e, zq_f, zq_g, zq_h, zq_i, zq_j, zq_k, zq_l, zq_m, zq_n, zq_o, zq_p, zq_q, zq_r, zq_s, zq_t, zq_u, zq_v, zq_w, zq_x, zq_y, zq_z, zq_A, zq_B, zq_C, zq_D, zq_E, zq_F, zq_G, zq_H, zq_I, zq_J, zq_K, zq_L, ↓zq_M, ↓zq_N, ↓zq_O, ↓zq_P, ↓zq_Q, ↓zq_R, zq_S, zq_T, zq_U, zq_V, zq_W, zq_X, zq_Y, zq_Z, zq_0, zq_1, zq_2, zq_3, zq_4, zq_5, ↓zq_6, ↓zq_7, ↓zq_8, ↓zq_9, ↓zq_aa, zq_ab, zq_ac, zq_ad, zq_ae, zq_af, zq_ag, ↓zq_ah, ↓zq_ai, ↓zq_aj, zq_ak, ↓zq_al, ↓zq_am, e_b1, e_b2, x_o1, x_o2, q, km, ko, k1, w4, k]
theorem rx_gm_nb_204 {b p : Int} {g : Int → Int} {M : EM} (hG : r_G M = g) (hm : rx_MD M SH WM DI) (hv : hd_cvs g) (hb : b ≤ 40) (hb1 : b ≤ g 1198) (hp : r_cl g b p ∨ r_rw g b p ∨ r_fd g b p) (h5 : ∀ u, u < 1000 → M 205 u = 0) : ∃ M', E_C 204 [192, p] M = some (0, M') ∧ rx_sm M M' ∧ ∀ u, u < 1000 → M' 205 u = cu_S (cu_F g SH WM DI p) (u : Int) (cu_nl g p) := by
  have low : ∀ hp : r_cl g b p ∨ r_rw g b p, ∃ M', E_C 204 [192, p] M = some (0, M') ∧ rx_sm M M' ∧ ∀ u, u < 1000 → M' 205 u = cu_S (cu_F g SH WM DI p) (u : Int) (cu_nl g p) := by
    intro hp
    have k0 : ¬ g (28 * p) = 2 := by
      rcases hp with hp | hp
      · have := hp.2.2.1; omega
      · have := hp.2.2.1; omega
    obtain ⟨M', k, h1, h2⟩ := rx_gm_lo_204 hG hm hv hb hb1 hp (fun u hu => by rw [h5 u hu]; decide)
    refine ⟨M', k, h1, fun u hu => ?_⟩
    rw [h2 u hu, h5 u hu]
    unfold cu_nl
    rw [if_neg k0]
    show _ = 0 + (cu_cu (cu_F g SH WM DI p 0) (u : Int) 99 : Int)
    unfold cu_F cu_ln
    rw [if_neg k0]
  rcases hp with hp | hp | hp
  · exact low (Or.inl hp)
  · exact low (Or.inr hp)
  · obtain ⟨a1, a2, a3, a4, a5, a6⟩ := hp
    obtain ⟨n, hn⟩ : ∃ n : Nat, g (28 * p + 2) = n := ⟨(g (28 * p + 2)).toNat, by omega⟩
    have kk : E_C 170 [192, p] M = some (g (28 * p), M) := by rw [← hG]; exact r_kind ⟨a1, by omega⟩
    obtain ⟨M', k, h1, h2⟩ := rx_gm_all_204 hv ⟨a1, by omega⟩ (show p ≤ g 1198 by omega) a3 hn (by omega) a6 n 0 0 M rfl (by omega) hG hm (fun u hu => h5 u hu)
    refine ⟨M', ?_, h1, fun u hu => ?_⟩
    · rw [r_ent (show e_rok 204 [192, p] = true from decide_eq_true r_ref)]
      show e_tv E_C (E_V 204) e_t204_0 [192, p, 0] M = _
      unfold e_t204_0
      simp [zq_a, zq_b, zq_c, zq_d, zq_e, zq_f, zq_g, zq_h, zq_i, zq_j, zq_k, zq_l, zq_m, zq_n, zq_o, zq_p, zq_q, zq_r, zq_s, zq_t, zq_u, zq_v, zq_w, zq_x, zq_y, zq_z, zq_A, zq_B, zq_C, zq_D, zq_E, zq_F, zq_G, zq_H, zq_I, zq_J, zq_K, zq_L, ↓zq_M, ↓zq_N, ↓zq_O, ↓zq_P, ↓zq_Q, ↓zq_R, zq_S, zq_T, zq_U, zq_V, zq_W, zq_X, zq_Y, zq_Z, zq_0, zq_1, zq_2, zq_3, zq_4, zq_5, ↓zq_6, ↓zq_7, ↓zq_8, ↓zq_9, ↓zq_aa, zq_ab, zq_ac, zq_ad, zq_ae, zq_af, zq_ag, ↓zq_ah, ↓zq_ai, ↓zq_aj, zq_ak, ↓zq_al, ↓zq_am, e_b1, e_b2, x_o1, x_o2, kk, a3, k]
    · rw [h2 u hu]
      unfold cu_nl
      rw [if_pos a3, hn, Int.toNat_natCast]
theorem rx_givesMore {b p : Int} {g : Int → Int} {M : EM} (hG : r_G M = g) (hm : rx_MD M SH WM DI) (hv : hd_cvs g) (hb : b ≤ 40) (hb1 : b ≤ g 1198) (hp : r_pt g b p) (h5 : ∀ u, u < 1000 → M 205 u = 0) : ∃ M', E_C 204 [192, p] M = some (0, M') ∧ rx_sm M M' ∧ ∀ u, u < 1000 → M' 205 u = cu_S (cu_F g SH WM DI (cu_in g p)) (u : Int) (cu_nl g (cu_in g p)) := by
  have go : ∀ hp : r_cl g b p ∨ r_rw g b p ∨ r_fd g b p, ∃ M', E_C 204 [192, p] M = some (0, M') ∧ rx_sm M M' ∧ ∀ u, u < 1000 → M' 205 u = cu_S (cu_F g SH WM DI (cu_in g p)) (u : Int) (cu_nl g (cu_in g p)) := by
    intro hp
    have nb : ¬ g (28 * p) = 3 := by
      rcases hp with hp | hp | hp
      · have := hp.2.2.1; omega
      · have := hp.2.2.1; omega
      · have := hp.2.2.1; omega
    unfold cu_in
    rw [if_neg nb]
    exact rx_gm_nb_204 hG hm hv hb hb1 hp h5
  rcases hp with hp | hp | hp | hp
  · exact go (Or.inl hp)
  · exact go (Or.inr (Or.inl hp))
  · exact go (Or.inr (Or.inr hp))
  · obtain ⟨a1, a2, a3, a4, a5⟩ := hp
    have h40 : 0 ≤ p ∧ p < 40 := ⟨a1, by omega⟩
    have kk : E_C 170 [192, p] M = some (g (28 * p), M) := by rw [← hG]; exact r_kind h40
    have km : ∀ M1, r_G M1 = g → E_C 171 [192, p] M1 = some (1, M1) := fun M1 h => by
      have k := r_many (M := M1) (p := p) h40
      rw [show M1 193 (28 * p + 2).toNat = 1 from (congrFun h _).trans a4.1] at k
      exact k
    have ko : E_C 172 [192, p, 0] M = some (g (28 * p + 3), M) := by
      have h := r_of (M := M) (p := p) (k := 0) h40 ⟨by decide, by decide⟩
      rw [Int.add_zero, show M 193 (28 * p + 3).toNat = g (28 * p + 3) from congrFun hG _] at h
      exact h
    obtain ⟨M', k, h1, h2⟩ := rx_gm_nb_308 hG hm hv (show p ≤ 40 by omega) (show p ≤ g 1198 by omega) a5 h5
    have w1 : e_w 1 = 1 := a_w_id (by decide) (by decide)
    have k2 : E_V 204 20 [192, p, 1] M' = some (0, M') := by
      have km' := km M' ((rx_sm_G h1).trans hG)
      rw [E_V_eq]
      show e_tv E_C (E_V 204) e_t204_20 [192, p, 1] M' = _
      unfold e_t204_20
      simp [zq_a, zq_b, zq_c, zq_d, zq_e, zq_f, zq_g, zq_h, zq_i, zq_j, zq_k, zq_l, zq_m, zq_n, zq_o, zq_p, zq_q, zq_r, zq_s, zq_t, zq_u, zq_v, zq_w, zq_x, zq_y, zq_z, zq_A, zq_B, zq_C, zq_D, zq_E, zq_F, zq_G, zq_H, zq_I, zq_J, zq_K, zq_L, ↓zq_M, ↓zq_N, ↓zq_O, ↓zq_P, ↓zq_Q, ↓zq_R, zq_S, zq_T, zq_U, zq_V, zq_W, zq_X, zq_Y, zq_Z, zq_0, zq_1, zq_2, zq_3, zq_4, zq_5, ↓zq_6, ↓zq_7, ↓zq_8, ↓zq_9, ↓zq_aa, zq_ab, zq_ac, zq_ad, zq_ae, zq_af, zq_ag, ↓zq_ah, ↓zq_ai, ↓zq_aj, zq_ak, ↓zq_al, ↓zq_am, e_b1, e_b2, x_o1, x_o2, km']
    have k3 : E_V 204 20 [192, p, 0] M = some (0, M') := by
      have km' := km M hG
      rw [E_V_eq]
      show e_tv E_C (E_V 204) e_t204_20 [192, p, 0] M = _
      unfold e_t204_20
      simp [zq_a, zq_b, zq_c, zq_d, zq_e, zq_f, zq_g, zq_h, zq_i, zq_j, zq_k, zq_l, zq_m, zq_n, zq_o, zq_p, zq_q, zq_r, zq_s, zq_t, zq_u, zq_v, zq_w, zq_x, zq_y, zq_z, zq_A, zq_B, zq_C, zq_D, zq_E, zq_F, zq_G, zq_H, zq_I, zq_J, zq_K, zq_L, ↓zq_M, ↓zq_N, ↓zq_O, ↓zq_P, ↓zq_Q, ↓zq_R, zq_S, zq_T, zq_U, zq_V, zq_W, zq_X, zq_Y, zq_Z, zq_0, zq_1, zq_2, zq_3, zq_4, zq_5, ↓zq_6, ↓zq_7, ↓zq_8, ↓zq_9, ↓zq_aa, zq_ab, zq_ac, zq_ad, zq_ae, zq_af, zq_ag, ↓zq_ah, ↓zq_ai, ↓zq_aj, zq_ak, ↓zq_al, ↓zq_am, e_b1, e_b2, x_o1, x_o2, km', ko, k, w1, k2]
    unfold cu_in
    rw [if_pos a3]
    refine ⟨M', ?_, h1, h2⟩
    rw [r_ent (show e_rok 204 [192, p] = true from decide_eq_true r_ref)]
    show e_tv E_C (E_V 204) e_t204_0 [192, p, 0] M = _
    unfold e_t204_0
    simp [zq_a, zq_b, zq_c, zq_d, zq_e, zq_f, zq_g, zq_h, zq_i, zq_j, zq_k, zq_l, zq_m, zq_n, zq_o, zq_p, zq_q, zq_r, zq_s, zq_t, zq_u, zq_v, zq_w, zq_x, zq_y, zq_z, zq_A, zq_B, zq_C, zq_D, zq_E, zq_F, zq_G, zq_H, zq_I, zq_J, zq_K, zq_L, ↓zq_M, ↓zq_N, ↓zq_O, ↓zq_P, ↓zq_Q, ↓zq_R, zq_S, zq_T, zq_U, zq_V, zq_W, zq_X, zq_Y, zq_Z, zq_0, zq_1, zq_2, zq_3, zq_4, zq_5, ↓zq_6, ↓zq_7, ↓zq_8, ↓zq_9, ↓zq_aa, zq_ab, zq_ac, zq_ad, zq_ae, zq_af, zq_ag, ↓zq_ah, ↓zq_ai, ↓zq_aj, zq_ak, ↓zq_al, ↓zq_am, e_b1, e_b2, x_o1, x_o2, kk, a3, k3]
theorem rx_zero {p : Int} : ∀ (d i : Nat) (x2 : Int) (M : EM), x2 = i → i + d = 1000 → (∀ u, u < i → M 205 u = 0) → ∃ M0, E_V 203 2 [192, p, x2] M = (E_C 204 [192, p] M0).bind (fun r => some (0, r.2)) ∧ rx_sm M M0 ∧ ∀ u, u < 1000 → M0 205 u = 0 := by
  intro d
  induction d with
  | zero =>
    intro i x2 M hx hi h5
    have q : ¬ (x2 < 1000) := by omega
    refine ⟨M, ?_, fun _ _ _ _ => rfl, fun u hu => h5 u (by omega)⟩
    rw [E_V_eq]
    show e_tv E_C (E_V 203) e_t203_2 [192, p, x2] M = _
    unfold e_t203_2
    cases hc : E_C 204 [192, p] M with
    | none => simp [e_tv, e_ev, e_sv, e_b1, e_b2, x_o1, x_o2, q, hc]
    | some r => simp [e_tv, e_ev, e_sv, e_b1, e_b2, x_o1, x_o2, q, hc]
  | succ d ih =>
    intro i x2 M hx hi h5
    have q : x2 < 1000 := by omega
    have h0 : 0 ≤ x2 := by omega
    have w4 : e_w (x2 + 1) = x2 + 1 := a_w_id (by omega) (by omega)
    have sm : rx_sm M (e_up M 205 x2.toNat 0) := fun id k h5 _ => c_up_n (fun e => h5 e.1)
    obtain ⟨M0, k, h1, h2⟩ := ih (i + 1) (x2 + 1) (e_up M 205 x2.toNat 0) (by omega) (by omega) (fun u hu => by
      by_cases e : u = i
      · rw [e, show x2.toNat = i by omega, c_up_s]
      · rw [c_up_n (by omega)]
        exact h5 u (by omega))
    refine ⟨M0, ?_, rx_sm_tr sm h1, h2⟩
    rw [E_V_eq]
    show e_tv E_C (E_V 203) e_t203_2 [192, p, x2] M = _
    unfold e_t203_2
    simp [e_tv, e_ev, e_sv, e_b1, e_b2, x_o1, x_o2, r_O25, q, r_st5 h0 q, w4, k]
/-- what a PART gives -/
theorem rx_gives {b p : Int} {g : Int → Int} {M : EM} (hG : r_G M = g) (hm : rx_MD M SH WM DI) (hv : hd_cvs g) (hb : b ≤ 40) (hb1 : b ≤ g 1198) (hp : r_pt g b p) : ∃ M', E_C 203 [192, p] M = some (0, M') ∧ rx_sm M M' ∧ ∀ u, u < 1000 → M' 205 u = cu_S (cu_F g SH WM DI (cu_in g p)) (u : Int) (cu_nl g (cu_in g p)) := by
  obtain ⟨M0, k0, s0, z0⟩ := rx_zero (p := p) 1000 0 0 M rfl rfl (fun u hu => absurd hu (Nat.not_lt_zero _))
  obtain ⟨M', k, h1, h2⟩ := rx_givesMore ((rx_sm_G s0).trans hG) (rx_MD_sm hm s0) hv hb hb1 hp z0
  refine ⟨M', ?_, rx_sm_tr s0 h1, h2⟩
  rw [k] at k0
  have k1 : E_V 203 2 [192, p, 0] M = some (0, M') := k0
  rw [r_ent (show e_rok 203 [192, p] = true from decide_eq_true r_ref)]
  show e_tv E_C (E_V 203) e_t203_0 [192, p, 0] M = _
  unfold e_t203_0
  simp [zq_a, zq_b, zq_c, zq_d, zq_e, zq_f, zq_g, zq_h, zq_i, zq_j, zq_k, zq_l, zq_m, zq_n, zq_o, zq_p, zq_q, zq_r, zq_s, zq_t, zq_u, zq_v, zq_w, zq_x, zq_y, zq_z, zq_A, zq_B, zq_C, zq_D, zq_E, zq_F, zq_G, zq_H, zq_I, zq_J, zq_K, zq_L, ↓zq_M, ↓zq_N, ↓zq_O, ↓zq_P, ↓zq_Q, ↓zq_R, zq_S, zq_T, zq_U, zq_V, zq_W, zq_X, zq_Y, zq_Z, zq_0, zq_1, zq_2, zq_3, zq_4, zq_5, ↓zq_6, ↓zq_7, ↓zq_8, ↓zq_9, ↓zq_aa, zq_ab, zq_ac, zq_ad, zq_ae, zq_af, zq_ag, ↓zq_ah, ↓zq_ai, ↓zq_aj, zq_ak, ↓zq_al, ↓zq_am, e_b1, e_b2, x_o1, x_o2, k1]
end RXG
end
section
/-! numbers of a TEXT: 0 .. 99; a STATEMENT has one at least -/
section WNU
variable {b : Nat → Int} {n j k : Nat}
theorem w_mem8 : ∀ (n i : Nat), (i : Int) < w_T b n 8 → ∃ k, k < n ∧ w_N b k ∧ w_T b k 8 = i := by
  intro n
  induction n with
  | zero =>
    intro i hi
    have e : w_T b 0 8 = 0 := rfl
    omega
  | succ n ih =>
    intro i hi
    have e8 := w_nx8 (s := w_T b n) (c := b n)
    rw [← w_Tn] at e8
    by_cases q : w_T b n 2 = 1 ∧ 48 ≤ b n ∧ b n ≤ 57
    · rw [if_pos q] at e8
      rcases x_lt ((i : Int)) (w_T b n 8) with ⟨z, z_n⟩ | ⟨z, z_n⟩
      · obtain ⟨k, k1, k2⟩ := ih i z
        exact ⟨k, by omega, k2⟩
      · exact ⟨n, by omega, q, by omega⟩
    · rw [if_neg q] at e8
      obtain ⟨k, k1, k2⟩ := ih i (by omega)
      exact ⟨k, by omega, k2⟩
theorem w_vb (h : 48 ≤ b k ∧ b k ≤ 57) : 0 ≤ w_v b n k ∧ w_v b n k ≤ 99 := by
  unfold w_v
  by_cases q : b k ≠ 48 ∧ k + 1 < n ∧ 48 ≤ b (k + 1) ∧ b (k + 1) ≤ 57
  · rw [if_pos q]; omega
  · rw [if_neg q]; omega
theorem w_numb {M : EM} (hA : w_A b n) (hK : w_K b n M) {i : Nat} (hi : (i : Int) < w_T b n 8) : (0 ≤ M 167 i ∧ M 167 i ≤ 99) ∧ (M 169 i = 0 ∨ M 169 i = 1) := by
  obtain ⟨k, k1, k2, k3⟩ := w_mem8 n i hi
  obtain ⟨a1, a2, a3⟩ := hK.2.2.2 k k1 k2
  rw [k3, Int.toNat_natCast] at a1 a2 a3
  have I := w_Ii (w_Al hA (show k ≤ n by omega))
  unfold w_I at I
  rw [a1, a3]
  exact ⟨w_vb k2.2, I.2.2.2.2.2.2.1⟩
theorem w_in8 (hj : w_T b j 2 = 0) : ∀ d, w_A b (j + (d + 1)) → (∀ i, i < d → w_T b (j + (i + 1)) 2 ≠ 0) → w_T b (j + (d + 1)) 2 = 1 ∨ w_T b j 8 + 1 ≤ w_T b (j + (d + 1)) 8 := by
  intro d
  induction d with
  | zero =>
    intro _ _
    show w_T b (j + 1) 2 = 1 ∨ _
    rw [w_Tn, w_nx2, if_pos hj]
    exact Or.inl rfl
  | succ d ih =>
    intro hA hz
    have hA1 : w_A b (j + (d + 1) + 1) := hA
    have a2 := (w_A1 hA1).2
    have i := ih (w_Al hA (by omega)) (fun i hi => hz i (by omega))
    have z := hz d (by omega)
    have m := w_m8 (b := b) (show j ≤ j + (d + 1) by omega)
    show w_T b (j + (d + 1) + 1) 2 = 1 ∨ w_T b j 8 + 1 ≤ w_T b (j + (d + 1) + 1) 8
    have e2 := w_nx2 (s := w_T b (j + (d + 1))) (c := b (j + (d + 1)))
    have e8 := w_nx8 (s := w_T b (j + (d + 1))) (c := b (j + (d + 1)))
    rw [← w_Tn] at e2 e8
    generalize w_T b (j + (d + 1) + 1) = t at e2 e8 ⊢
    generalize w_T b (j + (d + 1)) = s at i z m a2 e2 e8
    generalize w_T b j 8 = v at i m ⊢
    generalize b (j + (d + 1)) = c at a2 e2 e8
    clear ih hA1 hA hz hj
    unfold w_ok at a2
    rw [if_neg z] at a2 e2
    by_cases q1 : s 2 = 1
    · rw [if_pos q1] at a2 e2
      by_cases dg : 48 ≤ c ∧ c ≤ 57
      · rw [if_pos ⟨q1, dg⟩] at e8
        exact Or.inr (by omega)
      · rw [if_neg dg] at e2
        exact Or.inl e2
    · rw [if_neg (fun e => q1 e.1)] at e8
      have := i.resolve_left q1
      exact Or.inr (by omega)
theorem w_ge1 (hA : w_A b k) (hj : w_T b j 2 = 0) (hjk : j < k) (hk : w_T b k 2 = 0) (h7 : w_T b k 7 = w_T b j 7 + 1) : w_T b j 8 + 1 ≤ w_T b k 8 := by
  have nn := w_nxt hA hj hjk hk h7
  have B := w_in8 hj (k - j - 1) (by rw [show j + (k - j - 1 + 1) = k by omega]; exact hA) (fun i hi => nn _ (by omega) (by omega))
  rw [show j + (k - j - 1 + 1) = k by omega] at B
  rcases B with B | B
  · omega
  · exact B
end WNU
end
