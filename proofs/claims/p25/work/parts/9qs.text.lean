section
/-! the two of them read one TEXT -/
theorem h_95e {d x3 x4 a c : Int} {R : EM} (q : ¬ R 192 15 < R 192 17) (l1 : e_op 60 [193, 1198] R = some a) (l2 : e_op 60 [204, 1198] R = some c) : E_V 190 95 [192, d, 0, x3, x4] R = some (e_w (a - c), R) := by
  rw [E_V_eq]
  show e_tv E_C (E_V 190) e_t190_95 [192, d, 0, x3, x4] R = _
  unfold e_t190_95
  simp [zq_a, zq_b, zq_c, zq_d, zq_e, zq_f, zq_g, zq_h, zq_i, zq_j, zq_k, zq_l, zq_m, zq_n, zq_o, zq_p, zq_q, zq_r, zq_s, zq_t, zq_u, zq_v, zq_w, zq_x, zq_y, zq_z, zq_A, zq_B, zq_C, zq_D, zq_E, zq_F, zq_G, zq_H, zq_I, zq_J, zq_K, zq_L, ↓zq_M, ↓zq_N, ↓zq_O, ↓zq_P, ↓zq_Q, ↓zq_R, zq_S, zq_T, zq_U, zq_V, zq_W, zq_X, zq_Y, zq_Z, zq_0, zq_1, zq_2, zq_3, zq_4, zq_5, ↓zq_6, ↓zq_7, ↓zq_8, ↓zq_9, ↓zq_aa, zq_ab, zq_ac, zq_ad, zq_ae, zq_af, zq_ag, ↓zq_ah, ↓zq_ai, ↓zq_aj, zq_ak, ↓zq_al, ↓zq_am, e_b1, e_b2, x_o1, x_o2, r_O0, r_O19, r_F15, r_F17, q, l1, l2]
theorem h_95y {d x3 x4 r : Int} {R R1 : EM} (q : R 192 15 < R 192 17) (k : E_C 188 [192] R = some (r, R1)) (hr : r ≠ 0) : E_V 190 95 [192, d, 0, x3, x4] R = E_V 190 95 [192, d, 0, R 192 15, x4] R1 := by
  rw [E_V_eq]
  show e_tv E_C (E_V 190) e_t190_95 [192, d, 0, x3, x4] R = _
  unfold e_t190_95
  simp [zq_a, zq_b, zq_c, zq_d, zq_e, zq_f, zq_g, zq_h, zq_i, zq_j, zq_k, zq_l, zq_m, zq_n, zq_o, zq_p, zq_q, zq_r, zq_s, zq_t, zq_u, zq_v, zq_w, zq_x, zq_y, zq_z, zq_A, zq_B, zq_C, zq_D, zq_E, zq_F, zq_G, zq_H, zq_I, zq_J, zq_K, zq_L, ↓zq_M, ↓zq_N, ↓zq_O, ↓zq_P, ↓zq_Q, ↓zq_R, zq_S, zq_T, zq_U, zq_V, zq_W, zq_X, zq_Y, zq_Z, zq_0, zq_1, zq_2, zq_3, zq_4, zq_5, ↓zq_6, ↓zq_7, ↓zq_8, ↓zq_9, ↓zq_aa, zq_ab, zq_ac, zq_ad, zq_ae, zq_af, zq_ag, ↓zq_ah, ↓zq_ai, ↓zq_aj, zq_ak, ↓zq_al, ↓zq_am, e_b1, e_b2, x_o1, x_o2, r_F15, r_F17, q, k, hr]
theorem h_95n {d x3 x4 : Int} {R R1 : EM} (q : R 192 15 < R 192 17) (k : E_C 188 [192] R = some (0, R1)) : E_V 190 95 [192, d, 0, x3, x4] R = some (e_w (-2000 - R 192 15), r_cp R1 204 193 0) := by
  have k2 := r_tx_124 (d := d) (x3 := R 192 15) 1330 0 R1 (by decide) (by decide)
  have k2' : E_V 190 124 [192, d, 0, R 192 15, 0] R1 = some (e_w (-2000 - R 192 15), r_cp R1 204 193 0) := k2
  rw [← k2']
  rw [E_V_eq]
  show e_tv E_C (E_V 190) e_t190_95 [192, d, 0, x3, x4] R = _
  unfold e_t190_95
  simp [zq_a, zq_b, zq_c, zq_d, zq_e, zq_f, zq_g, zq_h, zq_i, zq_j, zq_k, zq_l, zq_m, zq_n, zq_o, zq_p, zq_q, zq_r, zq_s, zq_t, zq_u, zq_v, zq_w, zq_x, zq_y, zq_z, zq_A, zq_B, zq_C, zq_D, zq_E, zq_F, zq_G, zq_H, zq_I, zq_J, zq_K, zq_L, ↓zq_M, ↓zq_N, ↓zq_O, ↓zq_P, ↓zq_Q, ↓zq_R, zq_S, zq_T, zq_U, zq_V, zq_W, zq_X, zq_Y, zq_Z, zq_0, zq_1, zq_2, zq_3, zq_4, zq_5, ↓zq_6, ↓zq_7, ↓zq_8, ↓zq_9, ↓zq_aa, zq_ab, zq_ac, zq_ad, zq_ae, zq_af, zq_ag, ↓zq_ah, ↓zq_ai, ↓zq_aj, zq_ak, ↓zq_al, ↓zq_am, e_b1, e_b2, x_o1, x_o2, r_F15, r_F17, q, k]
theorem h_uq {b : Nat → Int} {n j k : Nat} (hA : w_A b n) (hj : j ≤ n) (hk : k ≤ n) (j2 : w_T b j 2 = 0) (k2 : w_T b k 2 = 0) (e : w_T b j 7 = w_T b k 7) : j = k := by
  rcases Nat.lt_trichotomy j k with h | h | h
  · have := w_S7 (w_Al hA hk) h k2
    omega
  · exact h
  · have := w_S7 (w_Al hA hj) h j2
    omega
/-- the reference's way back -/
def h_bk (R R' : EM) : Prop := (∀ j, j < 1330 → R' 193 j = R 204 j) ∧ ∀ id i, id ≠ 193 → ¬ (id = 192 ∧ (i = 15 ∨ i = 18)) → R' id i = R id i
theorem h_bk_of {R R1 : EM} (h : y_fr R R1) : h_bk R (r_cp R1 204 193 0) := by
  refine ⟨fun j hj => (r_cp_t hj).trans (h 204 j (by decide) (by omega)), fun id i h1 h2 => (r_cp_n h1).trans (h id i h1 h2)⟩
theorem h_run {b : Nat → Int} {n : Nat} {N0 : EM} {p0 : Nat} (hA : w_A b n) (hz : w_T b n 2 = 0) (hn : n ≤ 120) (hK : w_K b n N0) : ∀ (d s : Nat) (M Mx R : EM) (k : Nat) (dd x3 x4 r : Int), w_run N0 p0 s d M Mx → (∀ id i, 162 ≤ id → id ≤ 169 → M id i = N0 id i) → h_B M 0 (r_G R) → r_G R 1198 = ((p0 + s : Nat) : Int) → R 204 1198 = p0 → y_B b n k R → w_T b k 2 = 0 → w_T b k 7 = s → (((s + d : Nat) : Int) = w_T b n 7 ∧ r = w_T b n 7) ∨ (((s + d : Nat) : Int) < w_T b n 7 ∧ ¬ w_tS N0 Mx p0 (s + d) ∧ r = -2000 - N0 163 (s + d)) → ∃ R', E_V 190 95 [192, dd, 0, x3, x4] R = some (r, R') ∧ (((s + d : Nat) : Int) = w_T b n 7 → h_B Mx 0 (r_G R') ∧ y_fr R R') ∧ (((s + d : Nat) : Int) < w_T b n 7 → h_bk R R') := by
  have hX : y_X b n (N0 167) := fun k hk hN => (hK.2.2.2 k hk hN).1
  have hXG : y_XG b n (N0 168) (N0 169) := fun k hk hN => (hK.2.2.2 k hk hN).2
  intro d
  induction d with
  | zero =>
    intro s M Mx R k dd x3 x4 r hrun hM hB hp hb4 yB k2 k7 ho
    have e : Mx = M := hrun
    subst e
    have hkn := yB.2.2.1
    have h15 := yB.2.1
    have h17 := yB.2.2.2.1
    rcases ho with ⟨o1, o2⟩ | ⟨o1, o2, o3⟩
    · have kn : k = n := h_uq hA hkn (Nat.le_refl _) k2 hz (by omega)
      subst kn
      have l1 : e_op 60 [193, 1198] R = some (((p0 + s : Nat) : Int)) := (r_rd (by decide) (by decide)).trans (congrArg some hp)
      have l2 : e_op 60 [204, 1198] R = some (p0 : Int) := (r_204 (by decide) (by decide)).trans (congrArg some hb4)
      have ww : e_w (((p0 + s : Nat) : Int) - (p0 : Int)) = r := by
        have hs : s ≤ 120 := by
          have := w_Ii hA
          unfold w_I at this
          omega
        have e : ((p0 + s : Nat) : Int) - (p0 : Int) = (s : Int) := by omega
        rw [e, o2, ← o1]
        clear e l1 l2 o1 o2 hp hb4 hB hK hX hXG
        exact (a_w_id (by omega) (by omega)).trans (by omega)
      refine ⟨R, ?_, fun _ => ⟨hB, fun _ _ _ _ => rfl⟩, fun h => by omega⟩
      rw [h_95e (by omega) l1 l2, ww]
    · have kn : k < n := by
        rcases Nat.lt_or_ge k n with h | h
        · exact h
        · have : k = n := by omega
          subst this
          omega
      obtain ⟨j, k1, u1, u2, u3, u4, u5, u6, u7, u8, u9, u10, u11, u12, u13, u14, u15⟩ := w_told hK hA hn hz (s := s) (by omega)
      have jk : j = k := h_uq hA (by omega) hkn u3 k2 (by omega)
      subst jk
      obtain ⟨f, hf⟩ : ∃ f : Nat, w_T b j 8 = f := ⟨(w_T b j 8).toNat, by omega⟩
      have e163 : e_w (-2000 - (j : Int)) = r := by
        have o3' : r = -2000 - N0 163 s := o3
        have : r = -2000 - (j : Int) := by omega
        rw [this]
        have hj : j ≤ 120 := by omega
        clear this o3 o3' u7 u8 u9 u10 u11 u12 u13 u14 u15 hf hB hp hb4 hK hX hXG o1 o2 k7 u5 u6 h15 h17
        exact a_w_id (by omega) (by omega)
      have hlt : R 192 15 < R 192 17 := by omega
      rcases y_makes (G := N0 168) (D := N0 169) hA hz hX hXG yB kn k2 hf hp (by have := hB.2.1.2; omega) with ⟨q1, q2⟩ | ⟨q1, r', R1, k', l, gr, m1, m2, m3, m4, m5, m6, m7, m8, m9⟩
      · refine ⟨_, ?_, fun h => by omega, fun _ => h_bk_of (fun _ _ _ _ => rfl)⟩
        rw [h_95n hlt q2, h15, e163]
      · have kk : k1 = k' := h_uq hA u2 m3.2.2.1 u4 m5 (by omega)
        subst kk
        have ef : (N0 165 s).toNat = f := by omega
        have el : (N0 165 (s + 1) - N0 165 s).toNat = l := by omega
        have eX : Mx 167 = N0 167 := funext fun i => hM 167 i (by decide) (by decide)
        have hc := hA j kn
        unfold w_ok at hc
        rw [if_pos k2] at hc
        have TL := h_tl (c := b j) (f := f) (n := l) hB hp (by
          rcases hc with hc | hc | hc | hc
          · exact Or.inl hc
          · exact Or.inr (Or.inl hc)
          · exact Or.inr (Or.inr (Or.inl hc))
          · refine Or.inr (Or.inr (Or.inr ⟨hc, ?_⟩))
            have := u15 (by omega) (by omega) (by omega)
            omega)
        rw [eX] at TL
        have nt : ¬ y_tl (r_G R) (p0 + s) (N0 167) (b j) f l := fun ht => o2 (by
          show w_tS N0 Mx p0 s
          unfold w_tS
          rw [ef, el, u8]
          exact TL.mpr ⟨q1, ht⟩)
        rcases m9 with ⟨-, m9, -⟩ | ⟨m9, -⟩
        · exact absurd m9 nt
        · subst m9
          refine ⟨_, ?_, fun h => by omega, fun _ => h_bk_of m2⟩
          rw [h_95n hlt m1, h15, e163]
  | succ d ih =>
    intro s M Mx R k dd x3 x4 r hrun hM hB hp hb4 yB k2 k7 ho
    obtain ⟨M1, t1, t2, t3⟩ := hrun
    have hkn := yB.2.2.1
    have h15 := yB.2.1
    have h17 := yB.2.2.2.1
    have sS : (s : Int) < w_T b n 7 := by
      rcases ho with ⟨o1, -⟩ | ⟨o1, -, -⟩ <;> omega
    have kn : k < n := by
      rcases Nat.lt_or_ge k n with h | h
      · exact h
      · have : k = n := by omega
        subst this
        omega
    obtain ⟨j, k1, u1, u2, u3, u4, u5, u6, u7, u8, u9, u10, u11, u12, u13, u14, u15⟩ := w_told hK hA hn hz (s := s) sS
    have jk : j = k := h_uq hA (by omega) hkn u3 k2 (by omega)
    subst jk
    obtain ⟨f, hf⟩ : ∃ f : Nat, w_T b j 8 = f := ⟨(w_T b j 8).toNat, by omega⟩
    have hlt : R 192 15 < R 192 17 := by omega
    rcases y_makes (G := N0 168) (D := N0 169) hA hz hX hXG yB kn k2 hf hp (by have := hB.2.1.2; omega) with ⟨q1, q2⟩ | ⟨q1, r', R1, k', l, gr, m1, m2, m3, m4, m5, m6, m7, m8, m9⟩
    · exact absurd t1.1 (by omega)
    · have kk : k1 = k' := h_uq hA u2 m3.2.2.1 u4 m5 (by omega)
      subst kk
      have ef : (N0 165 s).toNat = f := by omega
      have el : (N0 165 (s + 1) - N0 165 s).toNat = l := by omega
      have eX : M 167 = N0 167 := funext fun i => hM 167 i (by decide) (by decide)
      have hc := hA j kn
      unfold w_ok at hc
      rw [if_pos k2] at hc
      have TL := h_tl (c := b j) (f := f) (n := l) hB hp (by
        rcases hc with hc | hc | hc | hc
        · exact Or.inl hc
        · exact Or.inr (Or.inl hc)
        · exact Or.inr (Or.inr (Or.inl hc))
        · refine Or.inr (Or.inr (Or.inr ⟨hc, ?_⟩))
          have := u15 (by omega) (by omega) (by omega)
          omega)
      unfold w_tS at t1
      unfold w_oS at t2
      rw [ef, el, u8] at t1 t2
      rcases m9 with ⟨e, m9, m10⟩ | ⟨e, m9⟩
      · rw [← eX] at m9 m10
        have B1 := h_to hB hp t1 t2 m10 hc
        have kp := w_to_kp t2 t1
        have hp1 : r_G R1 1198 = ((p0 + (s + 1) : Nat) : Int) := by rw [m10.1]; omega
        have hb41 : R1 204 1198 = p0 := (m2 204 1198 (by decide) (by omega)).trans hb4
        obtain ⟨R', v1, v2, v3⟩ := ih (s + 1) M1 Mx R1 k1 dd (R 192 15) x4 r t3 (fun id i i0 i1 => (kp.1.2.2.2.2.1 id i (by omega) (by omega) (by omega)).trans (hM id i i0 i1)) B1 hp1 hb41 m3 m5 (by omega) (by
          rw [show s + 1 + d = s + (d + 1) by omega]
          exact ho)
        rw [show s + 1 + d = s + (d + 1) by omega] at v2 v3
        refine ⟨R', ?_, fun h => ⟨(v2 h).1, fun id i h1 h2 => ((v2 h).2 id i h1 h2).trans (m2 id i h1 h2)⟩, fun h => ⟨fun j hj => ((v3 h).1 j hj).trans (m2 204 j (by decide) (by omega)), fun id i h1 h2 => ((v3 h).2 id i h1 h2).trans (m2 id i h1 h2)⟩⟩
        rw [h_95y hlt m1 (by rw [e]; decide)]
        exact v1
      · rw [← eX] at m9
        exact absurd (TL.mp t1).2 m9
end
section
/-! one TEXT, with what is told of CELLS -/
theorem h_run2 {b : Nat → Int} {n : Nat} {N0 : EM} {p0 : Nat} (hA : w_A b n) (hz : w_T b n 2 = 0) (hn : n ≤ 120) (hK : w_K b n N0) : ∀ (d s : Nat) (M Mx R : EM) (k : Nat) (dd x3 x4 r : Int), w_run N0 p0 s d M Mx → (∀ id i, 162 ≤ id → id ≤ 169 → M id i = N0 id i) → h_B M 0 (r_G R) → h_C M 0 (r_G R) → r_G R 1198 = ((p0 + s : Nat) : Int) → R 204 1198 = p0 → y_B b n k R → w_T b k 2 = 0 → w_T b k 7 = s → (((s + d : Nat) : Int) = w_T b n 7 ∧ r = w_T b n 7) ∨ (((s + d : Nat) : Int) < w_T b n 7 ∧ ¬ w_tS N0 Mx p0 (s + d) ∧ r = -2000 - N0 163 (s + d)) → ∃ R', E_V 190 95 [192, dd, 0, x3, x4] R = some (r, R') ∧ (((s + d : Nat) : Int) = w_T b n 7 → h_B Mx 0 (r_G R') ∧ h_C Mx 0 (r_G R') ∧ y_fr R R') ∧ (((s + d : Nat) : Int) < w_T b n 7 → h_bk R R') := by
  have hX : y_X b n (N0 167) := fun k hk hN => (hK.2.2.2 k hk hN).1
  have hXG : y_XG b n (N0 168) (N0 169) := fun k hk hN => (hK.2.2.2 k hk hN).2
  intro d
  induction d with
  | zero =>
    intro s M Mx R k dd x3 x4 r hrun hM hB hC hp hb4 yB k2 k7 ho
    have e : Mx = M := hrun
    subst e
    have hkn := yB.2.2.1
    have h15 := yB.2.1
    have h17 := yB.2.2.2.1
    rcases ho with ⟨o1, o2⟩ | ⟨o1, o2, o3⟩
    · have kn : k = n := h_uq hA hkn (Nat.le_refl _) k2 hz (by omega)
      subst kn
      have l1 : e_op 60 [193, 1198] R = some (((p0 + s : Nat) : Int)) := (r_rd (by decide) (by decide)).trans (congrArg some hp)
      have l2 : e_op 60 [204, 1198] R = some (p0 : Int) := (r_204 (by decide) (by decide)).trans (congrArg some hb4)
      have ww : e_w (((p0 + s : Nat) : Int) - (p0 : Int)) = r := by
        have hs : s ≤ 120 := by
          have := w_Ii hA
          unfold w_I at this
          omega
        have e : ((p0 + s : Nat) : Int) - (p0 : Int) = (s : Int) := by omega
        rw [e, o2, ← o1]
        clear e l1 l2 o1 o2 hp hb4 hB hK hX hXG
        exact (a_w_id (by omega) (by omega)).trans (by omega)
      refine ⟨R, ?_, fun _ => ⟨hB, hC, fun _ _ _ _ => rfl⟩, fun h => by omega⟩
      rw [h_95e (by omega) l1 l2, ww]
    · have kn : k < n := by
        rcases Nat.lt_or_ge k n with h | h
        · exact h
        · have : k = n := by omega
          subst this
          omega
      obtain ⟨j, k1, u1, u2, u3, u4, u5, u6, u7, u8, u9, u10, u11, u12, u13, u14, u15⟩ := w_told hK hA hn hz (s := s) (by omega)
      have jk : j = k := h_uq hA (by omega) hkn u3 k2 (by omega)
      subst jk
      obtain ⟨f, hf⟩ : ∃ f : Nat, w_T b j 8 = f := ⟨(w_T b j 8).toNat, by omega⟩
      have e163 : e_w (-2000 - (j : Int)) = r := by
        have o3' : r = -2000 - N0 163 s := o3
        have : r = -2000 - (j : Int) := by omega
        rw [this]
        have hj : j ≤ 120 := by omega
        clear this o3 o3' u7 u8 u9 u10 u11 u12 u13 u14 u15 hf hB hp hb4 hK hX hXG o1 o2 k7 u5 u6 h15 h17
        exact a_w_id (by omega) (by omega)
      have hlt : R 192 15 < R 192 17 := by omega
      rcases y_makes (G := N0 168) (D := N0 169) hA hz hX hXG yB kn k2 hf hp (by have := hB.2.1.2; omega) with ⟨q1, q2⟩ | ⟨q1, r', R1, k', l, gr, m1, m2, m3, m4, m5, m6, m7, m8, m9⟩
      · refine ⟨_, ?_, fun h => by omega, fun _ => h_bk_of (fun _ _ _ _ => rfl)⟩
        rw [h_95n hlt q2, h15, e163]
      · have kk : k1 = k' := h_uq hA u2 m3.2.2.1 u4 m5 (by omega)
        subst kk
        have ef : (N0 165 s).toNat = f := by omega
        have el : (N0 165 (s + 1) - N0 165 s).toNat = l := by omega
        have eX : Mx 167 = N0 167 := funext fun i => hM 167 i (by decide) (by decide)
        have hc := hA j kn
        unfold w_ok at hc
        rw [if_pos k2] at hc
        have TL := h_tl (c := b j) (f := f) (n := l) hB hp (by
          rcases hc with hc | hc | hc | hc
          · exact Or.inl hc
          · exact Or.inr (Or.inl hc)
          · exact Or.inr (Or.inr (Or.inl hc))
          · refine Or.inr (Or.inr (Or.inr ⟨hc, ?_⟩))
            have := u15 (by omega) (by omega) (by omega)
            omega)
        rw [eX] at TL
        have nt : ¬ y_tl (r_G R) (p0 + s) (N0 167) (b j) f l := fun ht => o2 (by
          show w_tS N0 Mx p0 s
          unfold w_tS
          rw [ef, el, u8]
          exact TL.mpr ⟨q1, ht⟩)
        rcases m9 with ⟨-, m9, -⟩ | ⟨m9, -⟩
        · exact absurd m9 nt
        · subst m9
          refine ⟨_, ?_, fun h => by omega, fun _ => h_bk_of m2⟩
          rw [h_95n hlt m1, h15, e163]
  | succ d ih =>
    intro s M Mx R k dd x3 x4 r hrun hM hB hC hp hb4 yB k2 k7 ho
    obtain ⟨M1, t1, t2, t3⟩ := hrun
    have hkn := yB.2.2.1
    have h15 := yB.2.1
    have h17 := yB.2.2.2.1
    have sS : (s : Int) < w_T b n 7 := by
      rcases ho with ⟨o1, -⟩ | ⟨o1, -, -⟩ <;> omega
    have kn : k < n := by
      rcases Nat.lt_or_ge k n with h | h
      · exact h
      · have : k = n := by omega
        subst this
        omega
    obtain ⟨j, k1, u1, u2, u3, u4, u5, u6, u7, u8, u9, u10, u11, u12, u13, u14, u15⟩ := w_told hK hA hn hz (s := s) sS
    have jk : j = k := h_uq hA (by omega) hkn u3 k2 (by omega)
    subst jk
    obtain ⟨f, hf⟩ : ∃ f : Nat, w_T b j 8 = f := ⟨(w_T b j 8).toNat, by omega⟩
    have hlt : R 192 15 < R 192 17 := by omega
    rcases y_makes (G := N0 168) (D := N0 169) hA hz hX hXG yB kn k2 hf hp (by have := hB.2.1.2; omega) with ⟨q1, q2⟩ | ⟨q1, r', R1, k', l, gr, m1, m2, m3, m4, m5, m6, m7, m8, m9⟩
    · exact absurd t1.1 (by omega)
    · have kk : k1 = k' := h_uq hA u2 m3.2.2.1 u4 m5 (by omega)
      subst kk
      have ef : (N0 165 s).toNat = f := by omega
      have el : (N0 165 (s + 1) - N0 165 s).toNat = l := by omega
      have eX : M 167 = N0 167 := funext fun i => hM 167 i (by decide) (by decide)
      have hc := hA j kn
      unfold w_ok at hc
      rw [if_pos k2] at hc
      have TL := h_tl (c := b j) (f := f) (n := l) hB hp (by
        rcases hc with hc | hc | hc | hc
        · exact Or.inl hc
        · exact Or.inr (Or.inl hc)
        · exact Or.inr (Or.inr (Or.inl hc))
        · refine Or.inr (Or.inr (Or.inr ⟨hc, ?_⟩))
          have := u15 (by omega) (by omega) (by omega)
          omega)
      unfold w_tS at t1
      unfold w_oS at t2
      rw [ef, el, u8] at t1 t2
      rcases m9 with ⟨e, m9, m10⟩ | ⟨e, m9⟩
      · rw [← eX] at m9 m10
        have B1 := h_to hB hp t1 t2 m10 hc
        have C1 := h_Cto hC hp t1 t2 m10 hc
        have kp := w_to_kp t2 t1
        have hp1 : r_G R1 1198 = ((p0 + (s + 1) : Nat) : Int) := by rw [m10.1]; omega
        have hb41 : R1 204 1198 = p0 := (m2 204 1198 (by decide) (by omega)).trans hb4
        obtain ⟨R', v1, v2, v3⟩ := ih (s + 1) M1 Mx R1 k1 dd (R 192 15) x4 r t3 (fun id i i0 i1 => (kp.1.2.2.2.2.1 id i (by omega) (by omega) (by omega)).trans (hM id i i0 i1)) B1 C1 hp1 hb41 m3 m5 (by omega) (by
          rw [show s + 1 + d = s + (d + 1) by omega]
          exact ho)
        rw [show s + 1 + d = s + (d + 1) by omega] at v2 v3
        refine ⟨R', ?_, fun h => ⟨(v2 h).1, (v2 h).2.1, fun id i h1 h2 => ((v2 h).2.2 id i h1 h2).trans (m2 id i h1 h2)⟩, fun h => ⟨fun j hj => ((v3 h).1 j hj).trans (m2 204 j (by decide) (by omega)), fun id i h1 h2 => ((v3 h).2 id i h1 h2).trans (m2 id i h1 h2)⟩⟩
        rw [h_95y hlt m1 (by rw [e]; decide)]
        exact v1
      · rw [← eX] at m9
        exact absurd (TL.mp t1).2 m9
end
section
/-! SHELVES: class and reference; text, the class's answer -/
def h_S (M : EM) : Prop := ∀ d : Nat, d < 8 → (M 195 d = 0 ∧ M (146 + 2 * d) 0 = 0 ∧ M (146 + 2 * d) 1 = 0) ∨ (M 195 d = 1 ∧ M (146 + 2 * d) 0 = 1 ∧ M (146 + 2 * d) 1 = 0) ∨ (M 195 d = 2 ∧ M (146 + 2 * d) 0 = 0 ∧ M (146 + 2 * d) 1 = 1 ∧ M (146 + 2 * d) 4 = M 196 d ∧ M (146 + 2 * d) 5 = M 197 d ∧ ∀ i, i < 120 → M (147 + 2 * d) i = M 198 (120 * d + i))
theorem h_gr145 {d : Nat} (h : d < 8) : e_gr 145 d = ((146 + 2 * d : Nat) : Int) ∧ ((146 + 2 * d : Nat) : Int) ∈ a_SH := (by decide +kernel : ∀ i : Fin 8, e_gr 145 i.val = ((146 + 2 * i.val : Nat) : Int) ∧ ((146 + 2 * i.val : Nat) : Int) ∈ a_SH) ⟨d, h⟩
theorem h_rd145 {d : Nat} (h : d < 8) (M : EM) : e_op 62 [145, (d : Int)] M = some ((146 + 2 * d : Nat) : Int) := by
  have z1 : e_sz M 145 = 8 := (if_neg (by decide)).trans (by decide +kernel)
  have c : (0 : Int) ≤ 145 ∧ (145 : Int).toNat < e_N ∧ 102 ≤ (e_sh (145 : Int).toNat).1 ∧ 0 ≤ (d : Int) ∧ (d : Int).toNat < e_sz M (145 : Int).toNat := ⟨by decide, by decide +kernel, by decide +kernel, by omega, by show _ < e_sz M 145; omega⟩
  exact (if_pos c).trans (congrArg some ((congrArg (e_gr 145) (Int.toNat_natCast d)).trans (h_gr145 h).1))
theorem h_len145 (M : EM) : e_op 63 [145] M = some 8 := p_len (n := 8) (by decide +kernel) M
theorem h_707 (M : EM) : e_gf 707 [8] M = some 145 := p_g 707 8 145 M (by decide +kernel)
theorem h_708 (M : EM) : e_gf 708 [8] M = some 162 := p_g 708 8 162 M (by decide +kernel)
theorem h_154a {d s : Int} {M : EM} (h0 : 0 ≤ d) (h1 : d < 8) (h : e_op 62 [145, d] M = some s) : E_C 154 [8, d] M = some (s, M) := by
  have s0 : E_C 154 [8, d] M = e_tv E_C (E_V 154) e_t154_0 [8, d] M := r_ent (u := 154) (as := [8, d]) (M := M) (decide_eq_true c_this)
  have hl := h_len145 M
  have h0' : ¬ d < 0 := by omega
  rw [s0]
  unfold e_t154_0
  simp [zq_a, zq_b, zq_c, zq_d, zq_e, zq_f, zq_g, zq_h, zq_i, zq_j, zq_k, zq_l, zq_m, zq_n, zq_o, zq_p, zq_q, zq_r, zq_s, zq_t, zq_u, zq_v, zq_w, zq_x, zq_y, zq_z, zq_A, zq_B, zq_C, zq_D, zq_E, zq_F, zq_G, zq_H, zq_I, zq_J, zq_K, zq_L, ↓zq_M, ↓zq_N, ↓zq_O, ↓zq_P, ↓zq_Q, ↓zq_R, zq_S, zq_T, zq_U, zq_V, zq_W, zq_X, zq_Y, zq_Z, zq_0, zq_1, zq_2, zq_3, zq_4, zq_5, ↓zq_6, ↓zq_7, ↓zq_8, ↓zq_9, ↓zq_aa, zq_ab, zq_ac, zq_ad, zq_ae, zq_af, zq_ag, ↓zq_ah, ↓zq_ai, ↓zq_aj, zq_ak, ↓zq_al, ↓zq_am, e_b1, e_b2, x_o1, x_o2, h_707, hl, h0, h0', h1, h]
theorem h_154n {d : Int} {M : EM} (h : ¬ (0 ≤ d ∧ d < 8)) : E_C 154 [8, d] M = some (-1, M) := by
  have s0 : E_C 154 [8, d] M = e_tv E_C (E_V 154) e_t154_0 [8, d] M := r_ent (u := 154) (as := [8, d]) (M := M) (decide_eq_true c_this)
  have hl := h_len145 M
  rw [s0]
  unfold e_t154_0
  rcases x_le 0 d with ⟨q, q_n⟩ | ⟨q, q_n⟩
  · have q2 : ¬ d < 8 := fun e => h ⟨q, e⟩
    simp [zq_a, zq_b, zq_c, zq_d, zq_e, zq_f, zq_g, zq_h, zq_i, zq_j, zq_k, zq_l, zq_m, zq_n, zq_o, zq_p, zq_q, zq_r, zq_s, zq_t, zq_u, zq_v, zq_w, zq_x, zq_y, zq_z, zq_A, zq_B, zq_C, zq_D, zq_E, zq_F, zq_G, zq_H, zq_I, zq_J, zq_K, zq_L, ↓zq_M, ↓zq_N, ↓zq_O, ↓zq_P, ↓zq_Q, ↓zq_R, zq_S, zq_T, zq_U, zq_V, zq_W, zq_X, zq_Y, zq_Z, zq_0, zq_1, zq_2, zq_3, zq_4, zq_5, ↓zq_6, ↓zq_7, ↓zq_8, ↓zq_9, ↓zq_aa, zq_ab, zq_ac, zq_ad, zq_ae, zq_af, zq_ag, ↓zq_ah, ↓zq_ai, ↓zq_aj, zq_ak, ↓zq_al, ↓zq_am, e_b1, e_b2, x_o1, x_o2, h_707, hl, q, q_n, q2]
  · simp [zq_a, zq_b, zq_c, zq_d, zq_e, zq_f, zq_g, zq_h, zq_i, zq_j, zq_k, zq_l, zq_m, zq_n, zq_o, zq_p, zq_q, zq_r, zq_s, zq_t, zq_u, zq_v, zq_w, zq_x, zq_y, zq_z, zq_A, zq_B, zq_C, zq_D, zq_E, zq_F, zq_G, zq_H, zq_I, zq_J, zq_K, zq_L, ↓zq_M, ↓zq_N, ↓zq_O, ↓zq_P, ↓zq_Q, ↓zq_R, zq_S, zq_T, zq_U, zq_V, zq_W, zq_X, zq_Y, zq_Z, zq_0, zq_1, zq_2, zq_3, zq_4, zq_5, ↓zq_6, ↓zq_7, ↓zq_8, ↓zq_9, ↓zq_aa, zq_ab, zq_ac, zq_ad, zq_ae, zq_af, zq_ag, ↓zq_ah, ↓zq_ai, ↓zq_aj, zq_ak, ↓zq_al, ↓zq_am, e_b1, e_b2, x_o1, x_o2, h_707, hl, q, q_n]
theorem h_sf {h : Int} (hh : h ∈ a_SH) (M : EM) : e_gf 512 [h] M = some (M h.toNat 0) ∧ e_gf 513 [h] M = some (M h.toNat 1) ∧ e_gf 516 [h] M = some (M h.toNat 4) ∧ e_gf 517 [h] M = some (M h.toNat 5) := by
  obtain ⟨s1, -⟩ := w_sh hh
  exact ⟨c_gf s1 (by decide +kernel), c_gf s1 (by decide +kernel), c_gf s1 (by decide +kernel), c_gf s1 (by decide +kernel)⟩
theorem h_84 {h : Int} (hh : h ∈ a_SH) (M : EM) : E_C 84 [h] M = some (if M h.toNat 0 = 0 ∧ M h.toNat 1 = 0 then 1 else 0, M) := by
  obtain ⟨s1, -⟩ := w_sh hh
  obtain ⟨f0, f1, -, -⟩ := h_sf hh M
  rw [r_ent (show e_rok 84 [h] = true from decide_eq_true s1)]
  show e_tv E_C (E_V 84) e_t84_0 [h] M = _
  unfold e_t84_0
  generalize M h.toNat 0 = a at f0 ⊢
  generalize M h.toNat 1 = c at f1 ⊢
  by_cases q : a = 0
  · by_cases q2 : c = 0
    · rw [if_pos ⟨q, q2⟩]
      simp [zq_a, zq_b, zq_c, zq_d, zq_e, zq_f, zq_g, zq_h, zq_i, zq_j, zq_k, zq_l, zq_m, zq_n, zq_o, zq_p, zq_q, zq_r, zq_s, zq_t, zq_u, zq_v, zq_w, zq_x, zq_y, zq_z, zq_A, zq_B, zq_C, zq_D, zq_E, zq_F, zq_G, zq_H, zq_I, zq_J, zq_K, zq_L, ↓zq_M, ↓zq_N, ↓zq_O, ↓zq_P, ↓zq_Q, ↓zq_R, zq_S, zq_T, zq_U, zq_V, zq_W, zq_X, zq_Y, zq_Z, zq_0, zq_1, zq_2, zq_3, zq_4, zq_5, ↓zq_6, ↓zq_7, ↓zq_8, ↓zq_9, ↓zq_aa, zq_ab, zq_ac, zq_ad, zq_ae, zq_af, zq_ag, ↓zq_ah, ↓zq_ai, ↓zq_aj, zq_ak, ↓zq_al, ↓zq_am, e_b1, e_b2, x_o1, x_o2, f0, f1, q, q2]
    · rw [if_neg (fun e => q2 e.2)]
      simp [zq_a, zq_b, zq_c, zq_d, zq_e, zq_f, zq_g, zq_h, zq_i, zq_j, zq_k, zq_l, zq_m, zq_n, zq_o, zq_p, zq_q, zq_r, zq_s, zq_t, zq_u, zq_v, zq_w, zq_x, zq_y, zq_z, zq_A, zq_B, zq_C, zq_D, zq_E, zq_F, zq_G, zq_H, zq_I, zq_J, zq_K, zq_L, ↓zq_M, ↓zq_N, ↓zq_O, ↓zq_P, ↓zq_Q, ↓zq_R, zq_S, zq_T, zq_U, zq_V, zq_W, zq_X, zq_Y, zq_Z, zq_0, zq_1, zq_2, zq_3, zq_4, zq_5, ↓zq_6, ↓zq_7, ↓zq_8, ↓zq_9, ↓zq_aa, zq_ab, zq_ac, zq_ad, zq_ae, zq_af, zq_ag, ↓zq_ah, ↓zq_ai, ↓zq_aj, zq_ak, ↓zq_al, ↓zq_am, e_b1, e_b2, x_o1, x_o2, f0, f1, q, q2]
  · rw [if_neg (fun e => q e.1)]
    simp [zq_a, zq_b, zq_c, zq_d, zq_e, zq_f, zq_g, zq_h, zq_i, zq_j, zq_k, zq_l, zq_m, zq_n, zq_o, zq_p, zq_q, zq_r, zq_s, zq_t, zq_u, zq_v, zq_w, zq_x, zq_y, zq_z, zq_A, zq_B, zq_C, zq_D, zq_E, zq_F, zq_G, zq_H, zq_I, zq_J, zq_K, zq_L, ↓zq_M, ↓zq_N, ↓zq_O, ↓zq_P, ↓zq_Q, ↓zq_R, zq_S, zq_T, zq_U, zq_V, zq_W, zq_X, zq_Y, zq_Z, zq_0, zq_1, zq_2, zq_3, zq_4, zq_5, ↓zq_6, ↓zq_7, ↓zq_8, ↓zq_9, ↓zq_aa, zq_ab, zq_ac, zq_ad, zq_ae, zq_af, zq_ag, ↓zq_ah, ↓zq_ai, ↓zq_aj, zq_ak, ↓zq_al, ↓zq_am, e_b1, e_b2, x_o1, x_o2, f0, f1, q]
theorem h_156 {h w z a c s : Int} (hh : h ∈ a_SH) {M : EM} (h0 : M h.toNat 0 = a) (h1 : M h.toNat 1 = c) (h4 : M h.toNat 4 = s) (hz : z = if a = 0 ∧ c = 0 then -11 else if c ≠ 0 ∧ (w = -1 ∨ w = s) then 0 else -12) : E_C 156 [h, w] M = some (z, M) := by
  obtain ⟨s1, s2, s3, s4, s5, s6, s7⟩ := w_sh hh
  obtain ⟨f0, f1, f4, -⟩ := h_sf hh M
  have k := h_84 hh M
  rw [h0, h1] at k
  rw [h1] at f1
  rw [h4] at f4
  have hne : ¬ h = -1 := by omega
  rw [r_ent (show e_rok 156 [h, w] = true from rfl)]
  show e_tv E_C (E_V 156) e_t156_0 [h, w] M = _
  unfold e_t156_0
  by_cases q : a = 0 ∧ c = 0
  · rw [if_pos q] at k hz
    subst hz
    simp [zq_a, zq_b, zq_c, zq_d, zq_e, zq_f, zq_g, zq_h, zq_i, zq_j, zq_k, zq_l, zq_m, zq_n, zq_o, zq_p, zq_q, zq_r, zq_s, zq_t, zq_u, zq_v, zq_w, zq_x, zq_y, zq_z, zq_A, zq_B, zq_C, zq_D, zq_E, zq_F, zq_G, zq_H, zq_I, zq_J, zq_K, zq_L, ↓zq_M, ↓zq_N, ↓zq_O, ↓zq_P, ↓zq_Q, ↓zq_R, zq_S, zq_T, zq_U, zq_V, zq_W, zq_X, zq_Y, zq_Z, zq_0, zq_1, zq_2, zq_3, zq_4, zq_5, ↓zq_6, ↓zq_7, ↓zq_8, ↓zq_9, ↓zq_aa, zq_ab, zq_ac, zq_ad, zq_ae, zq_af, zq_ag, ↓zq_ah, ↓zq_ai, ↓zq_aj, zq_ak, ↓zq_al, ↓zq_am, e_b1, e_b2, x_o1, x_o2, hne, k]
  · rw [if_neg q] at k hz
    by_cases q1 : c = 0
    · rw [if_neg (fun e => e.1 q1)] at hz
      subst hz
      simp [zq_a, zq_b, zq_c, zq_d, zq_e, zq_f, zq_g, zq_h, zq_i, zq_j, zq_k, zq_l, zq_m, zq_n, zq_o, zq_p, zq_q, zq_r, zq_s, zq_t, zq_u, zq_v, zq_w, zq_x, zq_y, zq_z, zq_A, zq_B, zq_C, zq_D, zq_E, zq_F, zq_G, zq_H, zq_I, zq_J, zq_K, zq_L, ↓zq_M, ↓zq_N, ↓zq_O, ↓zq_P, ↓zq_Q, ↓zq_R, zq_S, zq_T, zq_U, zq_V, zq_W, zq_X, zq_Y, zq_Z, zq_0, zq_1, zq_2, zq_3, zq_4, zq_5, ↓zq_6, ↓zq_7, ↓zq_8, ↓zq_9, ↓zq_aa, zq_ab, zq_ac, zq_ad, zq_ae, zq_af, zq_ag, ↓zq_ah, ↓zq_ai, ↓zq_aj, zq_ak, ↓zq_al, ↓zq_am, e_b1, e_b2, x_o1, x_o2, hne, k, f1, q1]
    · by_cases q2 : w = -1
      · rw [if_pos ⟨q1, Or.inl q2⟩] at hz
        subst hz
        simp [zq_a, zq_b, zq_c, zq_d, zq_e, zq_f, zq_g, zq_h, zq_i, zq_j, zq_k, zq_l, zq_m, zq_n, zq_o, zq_p, zq_q, zq_r, zq_s, zq_t, zq_u, zq_v, zq_w, zq_x, zq_y, zq_z, zq_A, zq_B, zq_C, zq_D, zq_E, zq_F, zq_G, zq_H, zq_I, zq_J, zq_K, zq_L, ↓zq_M, ↓zq_N, ↓zq_O, ↓zq_P, ↓zq_Q, ↓zq_R, zq_S, zq_T, zq_U, zq_V, zq_W, zq_X, zq_Y, zq_Z, zq_0, zq_1, zq_2, zq_3, zq_4, zq_5, ↓zq_6, ↓zq_7, ↓zq_8, ↓zq_9, ↓zq_aa, zq_ab, zq_ac, zq_ad, zq_ae, zq_af, zq_ag, ↓zq_ah, ↓zq_ai, ↓zq_aj, zq_ak, ↓zq_al, ↓zq_am, e_b1, e_b2, x_o1, x_o2, hne, k, f1, q1, q2]
      · by_cases q3 : w = s
        · rw [if_pos ⟨q1, Or.inr q3⟩] at hz
          subst hz
          simp [zq_a, zq_b, zq_c, zq_d, zq_e, zq_f, zq_g, zq_h, zq_i, zq_j, zq_k, zq_l, zq_m, zq_n, zq_o, zq_p, zq_q, zq_r, zq_s, zq_t, zq_u, zq_v, zq_w, zq_x, zq_y, zq_z, zq_A, zq_B, zq_C, zq_D, zq_E, zq_F, zq_G, zq_H, zq_I, zq_J, zq_K, zq_L, ↓zq_M, ↓zq_N, ↓zq_O, ↓zq_P, ↓zq_Q, ↓zq_R, zq_S, zq_T, zq_U, zq_V, zq_W, zq_X, zq_Y, zq_Z, zq_0, zq_1, zq_2, zq_3, zq_4, zq_5, ↓zq_6, ↓zq_7, ↓zq_8, ↓zq_9, ↓zq_aa, zq_ab, zq_ac, zq_ad, zq_ae, zq_af, zq_ag, ↓zq_ah, ↓zq_ai, ↓zq_aj, zq_ak, ↓zq_al, ↓zq_am, e_b1, e_b2, x_o1, x_o2, hne, k, f1, f4, q1, q2, q3]
        · rw [if_neg (fun e => e.2.elim q2 q3)] at hz
          subst hz
          simp [zq_a, zq_b, zq_c, zq_d, zq_e, zq_f, zq_g, zq_h, zq_i, zq_j, zq_k, zq_l, zq_m, zq_n, zq_o, zq_p, zq_q, zq_r, zq_s, zq_t, zq_u, zq_v, zq_w, zq_x, zq_y, zq_z, zq_A, zq_B, zq_C, zq_D, zq_E, zq_F, zq_G, zq_H, zq_I, zq_J, zq_K, zq_L, ↓zq_M, ↓zq_N, ↓zq_O, ↓zq_P, ↓zq_Q, ↓zq_R, zq_S, zq_T, zq_U, zq_V, zq_W, zq_X, zq_Y, zq_Z, zq_0, zq_1, zq_2, zq_3, zq_4, zq_5, ↓zq_6, ↓zq_7, ↓zq_8, ↓zq_9, ↓zq_aa, zq_ab, zq_ac, zq_ad, zq_ae, zq_af, zq_ag, ↓zq_ah, ↓zq_ai, ↓zq_aj, zq_ak, ↓zq_al, ↓zq_am, e_b1, e_b2, x_o1, x_o2, hne, k, f1, f4, q1, q2, q3]
/-- the refusal of SHELF d where a ROW of sort w (any: -1) is wanted -/
def h_no (M : EM) (d w : Int) : Int := if 0 ≤ d ∧ d < 8 then (if M 195 d.toNat = 0 then -11 else if M 195 d.toNat = 2 ∧ (w = -1 ∨ w = M 196 d.toNat) then 0 else -12) else -1
theorem h_ref {M : EM} (hS : h_S M) {d w : Int} (hd : 0 ≤ d ∧ d < 8) : E_C 154 [8, d] M = some (((146 + 2 * d.toNat : Nat) : Int), M) ∧ E_C 156 [((146 + 2 * d.toNat : Nat) : Int), w] M = some (h_no M d w, M) := by
  obtain ⟨n, rfl⟩ : ∃ n : Nat, d = n := ⟨d.toNat, by omega⟩
  rw [Int.toNat_natCast]
  have hn : n < 8 := by omega
  have hh := (h_gr145 hn).2
  refine ⟨h_154a hd.1 hd.2 (h_rd145 hn M), ?_⟩
  unfold h_no
  rw [if_pos hd, Int.toNat_natCast]
  rcases hS n hn with ⟨a, c, e⟩ | ⟨a, c, e⟩ | ⟨a, c, e, f, -⟩
  · refine h_156 hh c e rfl ?_
    rw [if_pos a, if_pos ⟨rfl, rfl⟩]
  · refine h_156 hh c e rfl ?_
    rw [a, if_neg (by decide), if_neg (fun q => absurd q.1 (by decide)), if_neg (fun q => absurd q.1 (by decide)), if_neg (fun q => q.1 rfl)]
  · refine h_156 hh c e f ?_
    rw [a]
    have n1 : ¬ ((2 : Int) = 0) := by decide
    have n2 : ¬ ((0 : Int) = 0 ∧ (1 : Int) = 0) := by decide
    rw [if_neg n1, if_neg n2]
    by_cases q : w = -1 ∨ w = M 196 n
    · have q1 : (2 : Int) = 2 ∧ (w = -1 ∨ w = M 196 n) := ⟨rfl, q⟩
      have q2 : (1 : Int) ≠ 0 ∧ (w = -1 ∨ w = M 196 n) := ⟨by decide, q⟩
      rw [if_pos q1, if_pos q2]
    · have q1 : ¬ ((2 : Int) = 2 ∧ (w = -1 ∨ w = M 196 n)) := fun e => q e.2
      have q2 : ¬ ((1 : Int) ≠ 0 ∧ (w = -1 ∨ w = M 196 n)) := fun e => q e.2
      rw [if_neg q1, if_neg q2]
theorem h_ref1 {d w : Int} {M : EM} (hd : ¬ (0 ≤ d ∧ d < 8)) : E_C 154 [8, d] M = some (-1, M) ∧ E_C 156 [-1, w] M = some (-1, M) ∧ h_no M d w = -1 := by
  refine ⟨h_154n hd, ?_, if_neg hd⟩
  rw [r_ent (show e_rok 156 [-1, w] = true from rfl)]
  show e_tv E_C (E_V 156) e_t156_0 [-1, w] M = _
  unfold e_t156_0
  simp [zq_a, zq_b, zq_c, zq_d, zq_e, zq_f, zq_g, zq_h, zq_i, zq_j, zq_k, zq_l, zq_m, zq_n, zq_o, zq_p, zq_q, zq_r, zq_s, zq_t, zq_u, zq_v, zq_w, zq_x, zq_y, zq_z, zq_A, zq_B, zq_C, zq_D, zq_E, zq_F, zq_G, zq_H, zq_I, zq_J, zq_K, zq_L, ↓zq_M, ↓zq_N, ↓zq_O, ↓zq_P, ↓zq_Q, ↓zq_R, zq_S, zq_T, zq_U, zq_V, zq_W, zq_X, zq_Y, zq_Z, zq_0, zq_1, zq_2, zq_3, zq_4, zq_5, ↓zq_6, ↓zq_7, ↓zq_8, ↓zq_9, ↓zq_aa, zq_ab, zq_ac, zq_ad, zq_ae, zq_af, zq_ag, ↓zq_ah, ↓zq_ai, ↓zq_aj, zq_ak, ↓zq_al, ↓zq_am, e_b1, e_b2, x_o1, x_o2]
/-- the reference's refusal is the same -/
theorem h_189 {d w : Int} {M : EM} (hw : -1 ≤ w) : E_C 189 [192, d, w] M = some (h_no M d w, M) := by
  have s0 : E_C 189 [192, d, w] M = e_tv E_C (E_V 189) e_t189_0 [192, d, w] M := r_ent (u := 189) (as := [192, d, w]) (M := M) (decide_eq_true r_ref)
  rw [s0]
  unfold e_t189_0 h_no
  by_cases hd : 0 ≤ d ∧ d < 8
  · rw [if_pos hd]
    have i1 : E_C 173 [d] M = some (1, M) := by
      have k := r_in1 (M := M) (x := d) (lo := 0) (hi := 7) ⟨hd.1, by omega⟩
      rw [r_ent (show e_rok 173 [d] = true from rfl)]
      show e_tv E_C (E_V 173) e_t173_0 [d] M = _
      unfold e_t173_0
      simp [zq_a, zq_b, zq_c, zq_d, zq_e, zq_f, zq_g, zq_h, zq_i, zq_j, zq_k, zq_l, zq_m, zq_n, zq_o, zq_p, zq_q, zq_r, zq_s, zq_t, zq_u, zq_v, zq_w, zq_x, zq_y, zq_z, zq_A, zq_B, zq_C, zq_D, zq_E, zq_F, zq_G, zq_H, zq_I, zq_J, zq_K, zq_L, ↓zq_M, ↓zq_N, ↓zq_O, ↓zq_P, ↓zq_Q, ↓zq_R, zq_S, zq_T, zq_U, zq_V, zq_W, zq_X, zq_Y, zq_Z, zq_0, zq_1, zq_2, zq_3, zq_4, zq_5, ↓zq_6, ↓zq_7, ↓zq_8, ↓zq_9, ↓zq_aa, zq_ab, zq_ac, zq_ad, zq_ae, zq_af, zq_ag, ↓zq_ah, ↓zq_ai, ↓zq_aj, zq_ak, ↓zq_al, ↓zq_am, e_b1, e_b2, x_o1, x_o2, k]
    obtain ⟨l5, l6, -⟩ := r_isD d M ⟨hd.1, by omega⟩
    generalize M 195 d.toNat = a at l5 ⊢
    generalize M 196 d.toNat = s at l6 ⊢
    by_cases q : a = 0
    · rw [if_pos q]
      simp [zq_a, zq_b, zq_c, zq_d, zq_e, zq_f, zq_g, zq_h, zq_i, zq_j, zq_k, zq_l, zq_m, zq_n, zq_o, zq_p, zq_q, zq_r, zq_s, zq_t, zq_u, zq_v, zq_w, zq_x, zq_y, zq_z, zq_A, zq_B, zq_C, zq_D, zq_E, zq_F, zq_G, zq_H, zq_I, zq_J, zq_K, zq_L, ↓zq_M, ↓zq_N, ↓zq_O, ↓zq_P, ↓zq_Q, ↓zq_R, zq_S, zq_T, zq_U, zq_V, zq_W, zq_X, zq_Y, zq_Z, zq_0, zq_1, zq_2, zq_3, zq_4, zq_5, ↓zq_6, ↓zq_7, ↓zq_8, ↓zq_9, ↓zq_aa, zq_ab, zq_ac, zq_ad, zq_ae, zq_af, zq_ag, ↓zq_ah, ↓zq_ai, ↓zq_aj, zq_ak, ↓zq_al, ↓zq_am, e_b1, e_b2, x_o1, x_o2, r_O2, r_O3, i1, l5, q]
    · rw [if_neg q]
      by_cases q2 : a = 2
      · rcases x_le 0 w with ⟨q3, q3_n⟩ | ⟨q3, q3_n⟩
        · have w1 : ¬ w = -1 := by omega
          by_cases q4 : s = w
          · rw [if_pos ⟨q2, Or.inr q4.symm⟩]
            simp [zq_a, zq_b, zq_c, zq_d, zq_e, zq_f, zq_g, zq_h, zq_i, zq_j, zq_k, zq_l, zq_m, zq_n, zq_o, zq_p, zq_q, zq_r, zq_s, zq_t, zq_u, zq_v, zq_w, zq_x, zq_y, zq_z, zq_A, zq_B, zq_C, zq_D, zq_E, zq_F, zq_G, zq_H, zq_I, zq_J, zq_K, zq_L, ↓zq_M, ↓zq_N, ↓zq_O, ↓zq_P, ↓zq_Q, ↓zq_R, zq_S, zq_T, zq_U, zq_V, zq_W, zq_X, zq_Y, zq_Z, zq_0, zq_1, zq_2, zq_3, zq_4, zq_5, ↓zq_6, ↓zq_7, ↓zq_8, ↓zq_9, ↓zq_aa, zq_ab, zq_ac, zq_ad, zq_ae, zq_af, zq_ag, ↓zq_ah, ↓zq_ai, ↓zq_aj, zq_ak, ↓zq_al, ↓zq_am, e_b1, e_b2, x_o1, x_o2, r_O2, r_O3, i1, l5, l6, q2, q3, q3_n, q4]
          · rw [if_neg (fun e => e.2.elim w1 (fun e => q4 e.symm))]
            simp [zq_a, zq_b, zq_c, zq_d, zq_e, zq_f, zq_g, zq_h, zq_i, zq_j, zq_k, zq_l, zq_m, zq_n, zq_o, zq_p, zq_q, zq_r, zq_s, zq_t, zq_u, zq_v, zq_w, zq_x, zq_y, zq_z, zq_A, zq_B, zq_C, zq_D, zq_E, zq_F, zq_G, zq_H, zq_I, zq_J, zq_K, zq_L, ↓zq_M, ↓zq_N, ↓zq_O, ↓zq_P, ↓zq_Q, ↓zq_R, zq_S, zq_T, zq_U, zq_V, zq_W, zq_X, zq_Y, zq_Z, zq_0, zq_1, zq_2, zq_3, zq_4, zq_5, ↓zq_6, ↓zq_7, ↓zq_8, ↓zq_9, ↓zq_aa, zq_ab, zq_ac, zq_ad, zq_ae, zq_af, zq_ag, ↓zq_ah, ↓zq_ai, ↓zq_aj, zq_ak, ↓zq_al, ↓zq_am, e_b1, e_b2, x_o1, x_o2, r_O2, r_O3, i1, l5, l6, q2, q3, q3_n, q4]
        · have w1 : w = -1 := by omega
          rw [if_pos ⟨q2, Or.inl w1⟩]
          simp [zq_a, zq_b, zq_c, zq_d, zq_e, zq_f, zq_g, zq_h, zq_i, zq_j, zq_k, zq_l, zq_m, zq_n, zq_o, zq_p, zq_q, zq_r, zq_s, zq_t, zq_u, zq_v, zq_w, zq_x, zq_y, zq_z, zq_A, zq_B, zq_C, zq_D, zq_E, zq_F, zq_G, zq_H, zq_I, zq_J, zq_K, zq_L, ↓zq_M, ↓zq_N, ↓zq_O, ↓zq_P, ↓zq_Q, ↓zq_R, zq_S, zq_T, zq_U, zq_V, zq_W, zq_X, zq_Y, zq_Z, zq_0, zq_1, zq_2, zq_3, zq_4, zq_5, ↓zq_6, ↓zq_7, ↓zq_8, ↓zq_9, ↓zq_aa, zq_ab, zq_ac, zq_ad, zq_ae, zq_af, zq_ag, ↓zq_ah, ↓zq_ai, ↓zq_aj, zq_ak, ↓zq_al, ↓zq_am, e_b1, e_b2, x_o1, x_o2, r_O2, r_O3, i1, l5, l6, q2, q3, q3_n]
      · rw [if_neg (fun e => q2 e.1)]
        simp [zq_a, zq_b, zq_c, zq_d, zq_e, zq_f, zq_g, zq_h, zq_i, zq_j, zq_k, zq_l, zq_m, zq_n, zq_o, zq_p, zq_q, zq_r, zq_s, zq_t, zq_u, zq_v, zq_w, zq_x, zq_y, zq_z, zq_A, zq_B, zq_C, zq_D, zq_E, zq_F, zq_G, zq_H, zq_I, zq_J, zq_K, zq_L, ↓zq_M, ↓zq_N, ↓zq_O, ↓zq_P, ↓zq_Q, ↓zq_R, zq_S, zq_T, zq_U, zq_V, zq_W, zq_X, zq_Y, zq_Z, zq_0, zq_1, zq_2, zq_3, zq_4, zq_5, ↓zq_6, ↓zq_7, ↓zq_8, ↓zq_9, ↓zq_aa, zq_ab, zq_ac, zq_ad, zq_ae, zq_af, zq_ag, ↓zq_ah, ↓zq_ai, ↓zq_aj, zq_ak, ↓zq_al, ↓zq_am, e_b1, e_b2, x_o1, x_o2, r_O2, r_O3, i1, l5, q, q2]
  · rw [if_neg hd]
    have i1 : E_C 173 [d] M = some (0, M) := by
      have k := r_in0 (M := M) (x := d) (lo := 0) (hi := 7) (fun e => hd ⟨e.1, by omega⟩)
      rw [r_ent (show e_rok 173 [d] = true from rfl)]
      show e_tv E_C (E_V 173) e_t173_0 [d] M = _
      unfold e_t173_0
      simp [zq_a, zq_b, zq_c, zq_d, zq_e, zq_f, zq_g, zq_h, zq_i, zq_j, zq_k, zq_l, zq_m, zq_n, zq_o, zq_p, zq_q, zq_r, zq_s, zq_t, zq_u, zq_v, zq_w, zq_x, zq_y, zq_z, zq_A, zq_B, zq_C, zq_D, zq_E, zq_F, zq_G, zq_H, zq_I, zq_J, zq_K, zq_L, ↓zq_M, ↓zq_N, ↓zq_O, ↓zq_P, ↓zq_Q, ↓zq_R, zq_S, zq_T, zq_U, zq_V, zq_W, zq_X, zq_Y, zq_Z, zq_0, zq_1, zq_2, zq_3, zq_4, zq_5, ↓zq_6, ↓zq_7, ↓zq_8, ↓zq_9, ↓zq_aa, zq_ab, zq_ac, zq_ad, zq_ae, zq_af, zq_ag, ↓zq_ah, ↓zq_ai, ↓zq_aj, zq_ak, ↓zq_al, ↓zq_am, e_b1, e_b2, x_o1, x_o2, k]
    simp [zq_a, zq_b, zq_c, zq_d, zq_e, zq_f, zq_g, zq_h, zq_i, zq_j, zq_k, zq_l, zq_m, zq_n, zq_o, zq_p, zq_q, zq_r, zq_s, zq_t, zq_u, zq_v, zq_w, zq_x, zq_y, zq_z, zq_A, zq_B, zq_C, zq_D, zq_E, zq_F, zq_G, zq_H, zq_I, zq_J, zq_K, zq_L, ↓zq_M, ↓zq_N, ↓zq_O, ↓zq_P, ↓zq_Q, ↓zq_R, zq_S, zq_T, zq_U, zq_V, zq_W, zq_X, zq_Y, zq_Z, zq_0, zq_1, zq_2, zq_3, zq_4, zq_5, ↓zq_6, ↓zq_7, ↓zq_8, ↓zq_9, ↓zq_aa, zq_ab, zq_ac, zq_ad, zq_ae, zq_af, zq_ag, ↓zq_ah, ↓zq_ai, ↓zq_aj, zq_ak, ↓zq_al, ↓zq_am, e_b1, e_b2, x_o1, x_o2, i1]
end
section
/-! text: the two answers, and what they leave -/
/-- what the class's text leaves, from M -/
def h_tx (M : EM) (d r : Int) (M1 : EM) : Prop := (h_no M d 0 ≠ 0 ∧ r = h_no M d 0 ∧ M1 = M) ∨ (h_no M d 0 = 0 ∧ ∃ (b : Nat → Int) (n p : Nat) (N0 : EM), b = M (147 + 2 * d.toNat) ∧ (n : Int) = M (146 + 2 * d.toNat) 5 ∧ n ≤ 120 ∧ M 10 0 = p ∧ (∀ id i, id < 162 ∨ 169 < id → N0 id i = M id i) ∧ M1 165 0 = 0 ∧ ((∃ k : Nat, w_F b n k ∧ r = -1000 - (k : Int) ∧ M1 = N0) ∨ (w_A b n ∧ w_T b n 2 = 0 ∧ 0 < w_T b n 7 ∧ w_K b n N0 ∧ ∃ dd Mx, w_run N0 p 0 dd N0 Mx ∧ ((((0 + dd : Nat) : Int) = w_T b n 7 ∧ M1 = Mx ∧ r = w_T b n 7) ∨ (((0 + dd : Nat) : Int) < w_T b n 7 ∧ ¬ w_tS N0 Mx p (0 + dd) ∧ r = -2000 - N0 163 (0 + dd) ∧ w_back N0 M1 p)))))
theorem h_run_kp {N0 : EM} {p : Nat} : ∀ (d s : Nat) (M Mx : EM), w_run N0 p s d M Mx → w_kp M Mx (p + s) := by
  intro d
  induction d with
  | zero =>
    intro s M Mx h
    have e : Mx = M := h
    rw [e]
    exact w_kp_rf _ _
  | succ d ih =>
    intro s M Mx h
    obtain ⟨M1, t1, t2, t3⟩ := h
    exact w_kp_tr (by omega) (w_to_kp t2 t1).1 (ih (s + 1) M1 Mx t3)
theorem h_58a {s k pl : Int} {M M1 : EM} (k1 : E_C 59 [162, s] M = some (0, M1)) (h1 : M1 162 1 = pl) (w : e_w (-1000 - pl) = k) : E_C 58 [162, s, 9] M = some (k, M1) := by
  have s0 : E_C 58 [162, s, 9] M = e_tv E_C (E_V 58) e_t58_0 [162, s, 9, 0, 0] M := r_ent (u := 58) (as := [162, s, 9]) (M := M) (decide_eq_true c_rd5)
  rw [s0]
  unfold e_t58_0
  simp [zq_a, zq_b, zq_c, zq_d, zq_e, zq_f, zq_g, zq_h, zq_i, zq_j, zq_k, zq_l, zq_m, zq_n, zq_o, zq_p, zq_q, zq_r, zq_s, zq_t, zq_u, zq_v, zq_w, zq_x, zq_y, zq_z, zq_A, zq_B, zq_C, zq_D, zq_E, zq_F, zq_G, zq_H, zq_I, zq_J, zq_K, zq_L, ↓zq_M, ↓zq_N, ↓zq_O, ↓zq_P, ↓zq_Q, ↓zq_R, zq_S, zq_T, zq_U, zq_V, zq_W, zq_X, zq_Y, zq_Z, zq_0, zq_1, zq_2, zq_3, zq_4, zq_5, ↓zq_6, ↓zq_7, ↓zq_8, ↓zq_9, ↓zq_aa, zq_ab, zq_ac, zq_ad, zq_ae, zq_af, zq_ag, ↓zq_ah, ↓zq_ai, ↓zq_aj, zq_ak, ↓zq_al, ↓zq_am, e_b1, e_b2, x_o1, x_o2, w_f1, k1, h1, w]
theorem h_58b {s p : Int} {M M1 : EM} {o : EO} (k1 : E_C 59 [162, s] M = some (1, M1)) (h1 : M1 10 0 = p) (k2 : E_V 58 28 [162, s, 9, p, 0] M1 = o) : E_C 58 [162, s, 9] M = o := by
  have s0 : E_C 58 [162, s, 9] M = e_tv E_C (E_V 58) e_t58_0 [162, s, 9, 0, 0] M := r_ent (u := 58) (as := [162, s, 9]) (M := M) (decide_eq_true c_rd5)
  rw [s0]
  unfold e_t58_0
  simp [zq_a, zq_b, zq_c, zq_d, zq_e, zq_f, zq_g, zq_h, zq_i, zq_j, zq_k, zq_l, zq_m, zq_n, zq_o, zq_p, zq_q, zq_r, zq_s, zq_t, zq_u, zq_v, zq_w, zq_x, zq_y, zq_z, zq_A, zq_B, zq_C, zq_D, zq_E, zq_F, zq_G, zq_H, zq_I, zq_J, zq_K, zq_L, ↓zq_M, ↓zq_N, ↓zq_O, ↓zq_P, ↓zq_Q, ↓zq_R, zq_S, zq_T, zq_U, zq_V, zq_W, zq_X, zq_Y, zq_Z, zq_0, zq_1, zq_2, zq_3, zq_4, zq_5, ↓zq_6, ↓zq_7, ↓zq_8, ↓zq_9, ↓zq_aa, zq_ab, zq_ac, zq_ad, zq_ae, zq_af, zq_ag, ↓zq_ah, ↓zq_ai, ↓zq_aj, zq_ak, ↓zq_al, ↓zq_am, e_b1, e_b2, x_o1, x_o2, w_H0, w_P0, k1, h1, k2]
theorem h_104n {d x z : Int} {M : EM} (k1 : E_C 154 [8, d] M = some (x, M)) (k2 : E_C 156 [x, 0] M = some (z, M)) (hz : z ≠ 0) : E_C 104 [8, d] M = some (z, M) := by
  have s0 : E_C 104 [8, d] M = e_tv E_C (E_V 104) e_t104_0 [8, d, 0, 0] M := r_ent (u := 104) (as := [8, d]) (M := M) (decide_eq_true c_this)
  rw [s0]
  unfold e_t104_0
  simp [zq_a, zq_b, zq_c, zq_d, zq_e, zq_f, zq_g, zq_h, zq_i, zq_j, zq_k, zq_l, zq_m, zq_n, zq_o, zq_p, zq_q, zq_r, zq_s, zq_t, zq_u, zq_v, zq_w, zq_x, zq_y, zq_z, zq_A, zq_B, zq_C, zq_D, zq_E, zq_F, zq_G, zq_H, zq_I, zq_J, zq_K, zq_L, ↓zq_M, ↓zq_N, ↓zq_O, ↓zq_P, ↓zq_Q, ↓zq_R, zq_S, zq_T, zq_U, zq_V, zq_W, zq_X, zq_Y, zq_Z, zq_0, zq_1, zq_2, zq_3, zq_4, zq_5, ↓zq_6, ↓zq_7, ↓zq_8, ↓zq_9, ↓zq_aa, zq_ab, zq_ac, zq_ad, zq_ae, zq_af, zq_ag, ↓zq_ah, ↓zq_ai, ↓zq_aj, zq_ak, ↓zq_al, ↓zq_am, e_b1, e_b2, x_o1, x_o2, k1, k2, hz]
theorem h_104y {d x : Int} {M : EM} {o : EO} (k1 : E_C 154 [8, d] M = some (x, M)) (k2 : E_C 156 [x, 0] M = some (0, M)) (hx : x ≠ -1) (k3 : E_C 58 [162, x, 9] M = o) : E_C 104 [8, d] M = o := by
  have s0 : E_C 104 [8, d] M = e_tv E_C (E_V 104) e_t104_0 [8, d, 0, 0] M := r_ent (u := 104) (as := [8, d]) (M := M) (decide_eq_true c_this)
  rw [s0]
  unfold e_t104_0
  cases o <;> simp [e_tv, e_ev, e_sv, e_b1, e_b2, x_o1, x_o2, p_704, h_708, k1, k2, hx, k3]
theorem h_class {d : Int} {M : EM} (hJ : r_J M) (hB : h_B M 0 (r_G M)) (hS : h_S M) (h0 : M 165 0 = 0) : ∃ r M1, E_C 104 [8, d] M = some (r, M1) ∧ h_tx M d r M1 := by
  by_cases hd : 0 ≤ d ∧ d < 8
  · obtain ⟨k1, k2⟩ := h_ref (w := 0) hS hd
    by_cases q : h_no M d 0 = 0
    · rw [q] at k2
      obtain ⟨n, hn⟩ : ∃ n : Nat, d.toNat = n := ⟨_, rfl⟩
      have n8 : n < 8 := by omega
      have hh := (h_gr145 n8).2
      have kept : M 195 n = 2 := by
        unfold h_no at q
        rw [if_pos hd, hn] at q
        by_cases c : M 195 n = 0
        · rw [if_pos c] at q; exact absurd q (by decide)
        · rw [if_neg c] at q
          by_cases c2 : M 195 n = 2 ∧ ((0 : Int) = -1 ∨ 0 = M 196 n)
          · exact c2.1
          · rw [if_neg c2] at q; exact absurd q (by decide)
      rcases hS n n8 with ⟨a, -⟩ | ⟨a, -⟩ | ⟨a, -, -, -, e5, -⟩
      · omega
      · omega
      · have sz := hJ.2.1 n n8
        rw [hn] at k1 k2
        have hsn : (((146 + 2 * n : Nat) : Int)).toNat = 146 + 2 * n := Int.toNat_natCast _
        have hsn1 : (((146 + 2 * n : Nat) : Int) + 1).toNat = 147 + 2 * n := by omega
        obtain ⟨r, N0, k3, rs⟩ := w_readShape hh hJ.1 h0 (by rw [hsn, e5]; exact sz)
        rw [hsn, hsn1, e5] at rs
        obtain ⟨f1, f2, f3⟩ := rs
        obtain ⟨m, hm⟩ : ∃ m : Nat, M 197 n = m := ⟨(M 197 n).toNat, by omega⟩
        rw [hm, Int.toNat_natCast] at f3
        have m120 : m ≤ 120 := by omega
        obtain ⟨p, hp⟩ : ∃ p : Nat, r_G M 1198 = p := ⟨(r_G M 1198).toNat, by have := hB.2.1; omega⟩
        obtain ⟨b1, b2⟩ := h_B0 hB hp
        have hp40 : p ≤ 40 := by have := hB.2.1; omega
        have hx1 : ((146 + 2 * n : Nat) : Int) ≠ -1 := by omega
        rcases f3 with ⟨e, g1, g2, g3, g4⟩ | ⟨e, k', g1, g2⟩
        · subst e
          have n10 : N0 10 0 = p := (f1 _ _ (by omega)).trans b1
          obtain ⟨r, M1, c1, dd, Mx, c2, c3⟩ := w_58l (h := ((146 + 2 * n : Nat) : Int)) hp40 g4 g1 m120 g2 n10 (fun q hq => by
            have := b2 q hq
            rw [f1 _ _ (by omega)]
            omega) (w_T (M (147 + 2 * n)) m 7).toNat 0 N0 (by omega) (w_kp_rf _ _) n10
          have c1' : E_V 58 28 [162, ((146 + 2 * n : Nat) : Int), 9, (p : Int), 0] N0 = some (r, M1) := c1
          refine ⟨r, M1, h_104y k1 k2 hx1 (h_58b k3 n10 c1'), Or.inr ⟨q, M (147 + 2 * n), m, p, N0, by rw [hn], by rw [hn, e5, hm], m120, b1, f1, ?_, Or.inr ⟨g1, g2, g3, g4, dd, Mx, c2, c3⟩⟩⟩
          rcases c3 with ⟨-, z, -⟩ | ⟨-, -, -, z⟩
          · rw [z, (h_run_kp dd 0 N0 Mx c2).2.2.2.2.1 _ _ (by omega) (by omega) (by omega)]
            exact f2
          · rw [z.2.2.2.2 _ _ (by omega) (by omega) (by omega)]
            exact f2
        · subst e
          have w1 : e_w (-1000 - (k' : Int)) = -1000 - (k' : Int) := by
            have := g2.2.1
            clear k1 k2 k3 hB hS hJ f1 f2 b1 b2 hm hsn hsn1 q a e5 sz hp g1 g2
            exact a_w_id (by omega) (by omega)
          exact ⟨_, N0, h_104y k1 k2 hx1 (h_58a k3 g1 w1), Or.inr ⟨q, M (147 + 2 * n), m, p, N0, by rw [hn], by rw [hn, e5, hm], m120, b1, f1, f2, Or.inl ⟨k', g2, rfl, rfl⟩⟩⟩
    · exact ⟨_, M, h_104n k1 k2 q, Or.inl ⟨q, rfl, rfl⟩⟩
  · obtain ⟨k1, k2, k3⟩ := h_ref1 (w := 0) (M := M) hd
    exact ⟨-1, M, h_104n k1 k2 (by decide), Or.inl ⟨by rw [k3]; decide, k3.symm, rfl⟩⟩
end
