/-! the two of them read one TEXT -/
theorem h_95e {d x3 x4 a c : Int} {R : EM} (q : ¬ R 192 15 < R 192 17) (l1 : e_op 60 [193, 1198] R = some a) (l2 : e_op 60 [204, 1198] R = some c) : E_V 190 95 [192, d, 0, x3, x4] R = some (e_w (a - c), R) := by
  rw [E_V_eq]
  show e_tv E_C (E_V 190) e_t190_95 [192, d, 0, x3, x4] R = _
  unfold e_t190_95
  simp [e_tv, e_ev, e_sv, e_b1, e_b2, x_o1, x_o2, r_O0, r_O19, r_F15, r_F17, q, l1, l2]
theorem h_95y {d x3 x4 r : Int} {R R1 : EM} (q : R 192 15 < R 192 17) (k : E_C 188 [192] R = some (r, R1)) (hr : r ≠ 0) : E_V 190 95 [192, d, 0, x3, x4] R = E_V 190 95 [192, d, 0, R 192 15, x4] R1 := by
  rw [E_V_eq]
  show e_tv E_C (E_V 190) e_t190_95 [192, d, 0, x3, x4] R = _
  unfold e_t190_95
  simp [e_tv, e_ev, e_sv, e_b1, e_b2, x_o1, x_o2, r_F15, r_F17, q, k, hr]
theorem h_95n {d x3 x4 : Int} {R R1 : EM} (q : R 192 15 < R 192 17) (k : E_C 188 [192] R = some (0, R1)) : E_V 190 95 [192, d, 0, x3, x4] R = some (e_w (-2000 - R 192 15), r_cp R1 204 193 0) := by
  have k2 := r_tx_124 (d := d) (x3 := R 192 15) 1330 0 R1 (by decide) (by decide)
  have k2' : E_V 190 124 [192, d, 0, R 192 15, 0] R1 = some (e_w (-2000 - R 192 15), r_cp R1 204 193 0) := k2
  rw [← k2']
  rw [E_V_eq]
  show e_tv E_C (E_V 190) e_t190_95 [192, d, 0, x3, x4] R = _
  unfold e_t190_95
  simp [e_tv, e_ev, e_sv, e_b1, e_b2, x_o1, x_o2, r_F15, r_F17, q, k]
theorem h_uq {b : Nat → Int} {n j k : Nat} (hA : w_A b n) (hj : j ≤ n) (hk : k ≤ n) (j2 : w_T b j 2 = 0) (k2 : w_T b k 2 = 0) (e : w_T b j 7 = w_T b k 7) : j = k := by
  rcases Nat.lt_trichotomy j k with h | h | h
  · have := w_S7 (w_Al hA hk) h k2
    omega
  · exact h
  · have := w_S7 (w_Al hA hj) h j2
    omega
/-- the reference's way back -/
def h_bk (R R' : EM) : Prop := (∀ j, j < 1330 → R' 193 j = R 204 j) ∧ ∀ id i, id ≠ 193 → ¬ (id = 192 ∧ (i = 15 ∨ i = 18)) → R' id i = R id i
theorem h_bk_of {R R1 : EM} (h : y_fr R R1) : h_bk R (r_cp R1 204 193 0) := by
  refine ⟨fun j hj => (r_cp_t hj).trans (h 204 j (by decide) (by omega)), fun id i h1 h2 => (r_cp_n h1).trans (h id i h1 h2)⟩
theorem h_run {b : Nat → Int} {n : Nat} {N0 : EM} {p0 : Nat} (hA : w_A b n) (hz : w_T b n 2 = 0) (hn : n ≤ 120) (hK : w_K b n N0) : ∀ (d s : Nat) (M Mx R : EM) (k : Nat) (dd x3 x4 r : Int), w_run N0 p0 s d M Mx → (∀ id i, 162 ≤ id → id ≤ 169 → M id i = N0 id i) → h_B M 0 (r_G R) → r_G R 1198 = ((p0 + s : Nat) : Int) → R 204 1198 = p0 → y_B b n k R → w_T b k 2 = 0 → w_T b k 7 = s → (((s + d : Nat) : Int) = w_T b n 7 ∧ r = w_T b n 7) ∨ (((s + d : Nat) : Int) < w_T b n 7 ∧ ¬ w_tS N0 Mx p0 (s + d) ∧ r = -2000 - N0 163 (s + d)) → ∃ R', E_V 190 95 [192, dd, 0, x3, x4] R = some (r, R') ∧ (((s + d : Nat) : Int) = w_T b n 7 → h_B Mx 0 (r_G R') ∧ y_fr R R') ∧ (((s + d : Nat) : Int) < w_T b n 7 → h_bk R R') := by
  have hX : y_X b n (N0 167) := fun k hk hN => (hK.2.2.2 k hk hN).1
  have hXG : y_XG b n (N0 168) (N0 169) := fun k hk hN => (hK.2.2.2 k hk hN).2
  intro d
  induction d with
  | zero =>
    intro s M Mx R k dd x3 x4 r hrun hM hB hp hb4 yB k2 k7 ho
    have e : Mx = M := hrun
    subst e
    have hkn := yB.2.2.1
    have h15 := yB.2.1
    have h17 := yB.2.2.2.1
    rcases ho with ⟨o1, o2⟩ | ⟨o1, o2, o3⟩
    · have kn : k = n := h_uq hA hkn (Nat.le_refl _) k2 hz (by omega)
      subst kn
      have l1 : e_op 60 [193, 1198] R = some (((p0 + s : Nat) : Int)) := (r_rd (by decide) (by decide)).trans (congrArg some hp)
      have l2 : e_op 60 [204, 1198] R = some (p0 : Int) := (r_204 (by decide) (by decide)).trans (congrArg some hb4)
      have ww : e_w (((p0 + s : Nat) : Int) - (p0 : Int)) = r := by
        have hs : s ≤ 120 := by
          have := w_Ii hA
          unfold w_I at this
          omega
        have e : ((p0 + s : Nat) : Int) - (p0 : Int) = (s : Int) := by omega
        rw [e, o2, ← o1]
        clear e l1 l2 o1 o2 hp hb4 hB hK hX hXG
        exact (a_w_id (by omega) (by omega)).trans (by omega)
      refine ⟨R, ?_, fun _ => ⟨hB, fun _ _ _ _ => rfl⟩, fun h => by omega⟩
      rw [h_95e (by omega) l1 l2, ww]
    · have kn : k < n := by
        rcases Nat.lt_or_ge k n with h | h
        · exact h
        · have : k = n := by omega
          subst this
          omega
      obtain ⟨j, k1, u1, u2, u3, u4, u5, u6, u7, u8, u9, u10, u11, u12, u13, u14, u15⟩ := w_told hK hA hn hz (s := s) (by omega)
      have jk : j = k := h_uq hA (by omega) hkn u3 k2 (by omega)
      subst jk
      obtain ⟨f, hf⟩ : ∃ f : Nat, w_T b j 8 = f := ⟨(w_T b j 8).toNat, by omega⟩
      have e163 : e_w (-2000 - (j : Int)) = r := by
        have o3' : r = -2000 - N0 163 s := o3
        have : r = -2000 - (j : Int) := by omega
        rw [this]
        have hj : j ≤ 120 := by omega
        clear this o3 o3' u7 u8 u9 u10 u11 u12 u13 u14 u15 hf hB hp hb4 hK hX hXG o1 o2 k7 u5 u6 h15 h17
        exact a_w_id (by omega) (by omega)
      have hlt : R 192 15 < R 192 17 := by omega
      rcases y_makes (G := N0 168) (D := N0 169) hA hz hX hXG yB kn k2 hf hp (by have := hB.2.1.2; omega) with ⟨q1, q2⟩ | ⟨q1, r', R1, k', l, gr, m1, m2, m3, m4, m5, m6, m7, m8, m9⟩
      · refine ⟨_, ?_, fun h => by omega, fun _ => h_bk_of (fun _ _ _ _ => rfl)⟩
        rw [h_95n hlt q2, h15, e163]
      · have kk : k1 = k' := h_uq hA u2 m3.2.2.1 u4 m5 (by omega)
        subst kk
        have ef : (N0 165 s).toNat = f := by omega
        have el : (N0 165 (s + 1) - N0 165 s).toNat = l := by omega
        have eX : Mx 167 = N0 167 := funext fun i => hM 167 i (by decide) (by decide)
        have hc := hA j kn
        unfold w_ok at hc
        rw [if_pos k2] at hc
        have TL := h_tl (c := b j) (f := f) (n := l) hB hp (by
          rcases hc with hc | hc | hc | hc
          · exact Or.inl hc
          · exact Or.inr (Or.inl hc)
          · exact Or.inr (Or.inr (Or.inl hc))
          · refine Or.inr (Or.inr (Or.inr ⟨hc, ?_⟩))
            have := u15 (by omega) (by omega) (by omega)
            omega)
        rw [eX] at TL
        have nt : ¬ y_tl (r_G R) (p0 + s) (N0 167) (b j) f l := fun ht => o2 (by
          show w_tS N0 Mx p0 s
          unfold w_tS
          rw [ef, el, u8]
          exact TL.mpr ⟨q1, ht⟩)
        rcases m9 with ⟨-, m9, -⟩ | ⟨m9, -⟩
        · exact absurd m9 nt
        · subst m9
          refine ⟨_, ?_, fun h => by omega, fun _ => h_bk_of m2⟩
          rw [h_95n hlt m1, h15, e163]
  | succ d ih =>
    intro s M Mx R k dd x3 x4 r hrun hM hB hp hb4 yB k2 k7 ho
    obtain ⟨M1, t1, t2, t3⟩ := hrun
    have hkn := yB.2.2.1
    have h15 := yB.2.1
    have h17 := yB.2.2.2.1
    have sS : (s : Int) < w_T b n 7 := by
      rcases ho with ⟨o1, -⟩ | ⟨o1, -, -⟩ <;> omega
    have kn : k < n := by
      rcases Nat.lt_or_ge k n with h | h
      · exact h
      · have : k = n := by omega
        subst this
        omega
    obtain ⟨j, k1, u1, u2, u3, u4, u5, u6, u7, u8, u9, u10, u11, u12, u13, u14, u15⟩ := w_told hK hA hn hz (s := s) sS
    have jk : j = k := h_uq hA (by omega) hkn u3 k2 (by omega)
    subst jk
    obtain ⟨f, hf⟩ : ∃ f : Nat, w_T b j 8 = f := ⟨(w_T b j 8).toNat, by omega⟩
    have hlt : R 192 15 < R 192 17 := by omega
    rcases y_makes (G := N0 168) (D := N0 169) hA hz hX hXG yB kn k2 hf hp (by have := hB.2.1.2; omega) with ⟨q1, q2⟩ | ⟨q1, r', R1, k', l, gr, m1, m2, m3, m4, m5, m6, m7, m8, m9⟩
    · exact absurd t1.1 (by omega)
    · have kk : k1 = k' := h_uq hA u2 m3.2.2.1 u4 m5 (by omega)
      subst kk
      have ef : (N0 165 s).toNat = f := by omega
      have el : (N0 165 (s + 1) - N0 165 s).toNat = l := by omega
      have eX : M 167 = N0 167 := funext fun i => hM 167 i (by decide) (by decide)
      have hc := hA j kn
      unfold w_ok at hc
      rw [if_pos k2] at hc
      have TL := h_tl (c := b j) (f := f) (n := l) hB hp (by
        rcases hc with hc | hc | hc | hc
        · exact Or.inl hc
        · exact Or.inr (Or.inl hc)
        · exact Or.inr (Or.inr (Or.inl hc))
        · refine Or.inr (Or.inr (Or.inr ⟨hc, ?_⟩))
          have := u15 (by omega) (by omega) (by omega)
          omega)
      unfold w_tS at t1
      unfold w_oS at t2
      rw [ef, el, u8] at t1 t2
      rcases m9 with ⟨e, m9, m10⟩ | ⟨e, m9⟩
      · rw [← eX] at m9 m10
        have B1 := h_to hB hp t1 t2 m10 hc
        have kp := w_to_kp t2 t1
        have hp1 : r_G R1 1198 = ((p0 + (s + 1) : Nat) : Int) := by rw [m10.1]; omega
        have hb41 : R1 204 1198 = p0 := (m2 204 1198 (by decide) (by omega)).trans hb4
        obtain ⟨R', v1, v2, v3⟩ := ih (s + 1) M1 Mx R1 k1 dd (R 192 15) x4 r t3 (fun id i i0 i1 => (kp.1.2.2.2.2.1 id i (by omega) (by omega) (by omega)).trans (hM id i i0 i1)) B1 hp1 hb41 m3 m5 (by omega) (by
          rw [show s + 1 + d = s + (d + 1) by omega]
          exact ho)
        rw [show s + 1 + d = s + (d + 1) by omega] at v2 v3
        refine ⟨R', ?_, fun h => ⟨(v2 h).1, fun id i h1 h2 => ((v2 h).2 id i h1 h2).trans (m2 id i h1 h2)⟩, fun h => ⟨fun j hj => ((v3 h).1 j hj).trans (m2 204 j (by decide) (by omega)), fun id i h1 h2 => ((v3 h).2 id i h1 h2).trans (m2 id i h1 h2)⟩⟩
        rw [h_95y hlt m1 (by rw [e]; decide)]
        exact v1
      · rw [← eX] at m9
        exact absurd (TL.mp t1).2 m9
