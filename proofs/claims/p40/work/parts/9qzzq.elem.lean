section
/-! element: class and reference, what is thrown too -/
theorem el_142s {d i : Int} {M : EM} : E_C 142 [8, d, i] M = e_tv E_C (E_V 142) e_t142_0 [8, d, i, 0] M := by
  unfold E_C
  rw [if_pos (show e_rok 142 [8, d, i] = true from decide_eq_true c_this), E_V_eq]
  rfl
theorem el_142a {d i : Int} {M : EM} (hd : ¬ (0 ≤ d ∧ d < 8)) : E_C 142 [8, d, i] M = some (e_TH, c_thr M) := by
  have c0 : E_C 154 [8, d] M = some (-1, M) := h_154n hd
  rw [el_142s]
  unfold e_t142_0
  simp [e_tv, e_ev, e_sv, e_b1, e_b2, x_o1, x_o2, c0, c_thr]
theorem el_142b {i a n : Int} {m : Nat} {M : EM} (hm : m < 8) (h1 : M (146 + 2 * m) 1 = a) (h5 : M (146 + 2 * m) 5 = n) (h : a = 0 ∨ ¬ (0 ≤ i ∧ i < n)) : E_C 142 [8, (m : Int), i] M = some (e_TH + 1, c_thr M) := by
  have hh := (h_gr145 hm).2
  have c0 : E_C 154 [8, (m : Int)] M = some (((146 + 2 * m : Nat) : Int), M) := h_154a (by omega) (by omega) (h_rd145 hm M)
  obtain ⟨f0, f1, f4, f5⟩ := h_sf hh M
  rw [Int.toNat_natCast, h1] at f1
  rw [Int.toNat_natCast, h5] at f5
  have hs : ¬ ((146 + 2 * m : Nat) : Int) = -1 := by omega
  rw [el_142s]
  unfold e_t142_0
  clear f0 f4 h1 h5 hh
  generalize ((146 + 2 * m : Nat) : Int) = x at *
  generalize (m : Int) = mm at *
  by_cases q1 : a = 0
  · simp [e_tv, e_ev, e_sv, e_b1, e_b2, x_o1, x_o2, c0, hs, f1, q1, c_thr]
  · rcases x_le 0 i with ⟨q2, q2n⟩ | ⟨q2, q2n⟩
    · have q3 : n ≤ i := by omega
      have q3n : ¬ i < n := by omega
      simp [e_tv, e_ev, e_sv, e_b1, e_b2, x_o1, x_o2, c0, hs, f1, f5, q1, q2, q2n, q3, q3n, c_thr]
    · simp [e_tv, e_ev, e_sv, e_b1, e_b2, x_o1, x_o2, c0, hs, f1, q1, q2, q2n, c_thr]
theorem el_142c {i a n v : Int} {m : Nat} {M : EM} (hm : m < 8) (h1 : M (146 + 2 * m) 1 = a) (h5 : M (146 + 2 * m) 5 = n) (ha : a ≠ 0) (hi : 0 ≤ i ∧ i < n) (hn : n ≤ 120) (hv : M (147 + 2 * m) i.toNat = v) : E_C 142 [8, (m : Int), i] M = some (v, M) := by
  have hh := (h_gr145 hm).2
  have c0 : E_C 154 [8, (m : Int)] M = some (((146 + 2 * m : Nat) : Int), M) := h_154a (by omega) (by omega) (h_rd145 hm M)
  obtain ⟨f0, f1, f4, f5⟩ := h_sf hh M
  rw [Int.toNat_natCast, h1] at f1
  rw [Int.toNat_natCast, h5] at f5
  obtain ⟨s1, s2, s3, s4, s5, s6, s7⟩ := w_sh hh
  have f6 : e_gf 518 [((146 + 2 * m : Nat) : Int)] M = some (((146 + 2 * m : Nat) : Int) + 1) := (c_gr s1 (by decide +kernel)).trans (congrArg some s5)
  have hat : E_C 146 [((146 + 2 * m : Nat) : Int) + 1, i] M = some (v, M) := (w_atN (a := ((146 + 2 * m : Nat) : Int) + 1) (n := 120) ⟨s2, s3, s4⟩ (j := i.toNat) (by omega) (by omega) M).trans (by rw [← hv, show (((146 + 2 * m : Nat) : Int) + 1).toNat = 147 + 2 * m by omega])
  have hs : ¬ ((146 + 2 * m : Nat) : Int) = -1 := by omega
  rw [el_142s]
  unfold e_t142_0
  have q2 := hi.1
  have q2n : ¬ i < 0 := by omega
  have q3 : ¬ n ≤ i := by omega
  have q3n := hi.2
  clear f0 f4 h1 h5 hh hv s1 s2 s3 s4 s5 s6 s7
  generalize ((146 + 2 * m : Nat) : Int) = x at *
  generalize (m : Int) = mm at *
  simp [e_tv, e_ev, e_sv, e_b1, e_b2, x_o1, x_o2, c0, hs, f1, f5, f6, ha, q2, q2n, q3, q3n, hat]
theorem el_273a {d i : Int} {M : EM} (k : E_C 142 [8, d, i] M = some (e_TH, c_thr M)) : E_C 273 [8, d, i, 213] M = some (1, c_thr M) := by
  rw [l_ent (show e_rok 273 [8, d, i, 213] = true from rfl)]
  show e_tv E_C (E_V 273) e_t273_0 [8, d, i, 213, 0] M = _
  unfold e_t273_0
  simp [e_tv, e_ev, e_sv, e_b1, e_b2, x_o1, x_o2, k]
theorem el_273b {d i : Int} {M : EM} (k : E_C 142 [8, d, i] M = some (e_TH + 1, c_thr M)) : E_C 273 [8, d, i, 213] M = some (2, c_thr M) := by
  have e10 : ¬ (e_TH + 1 = e_TH) := by unfold e_TH; decide
  rw [l_ent (show e_rok 273 [8, d, i, 213] = true from rfl)]
  show e_tv E_C (E_V 273) e_t273_0 [8, d, i, 213, 0] M = _
  unfold e_t273_0
  simp [e_tv, e_ev, e_sv, e_b1, e_b2, x_o1, x_o2, k, e10]
theorem el_273c {d i v : Int} {M : EM} (hv : -9223372036854775808 ≤ v ∧ v ≤ 9223372036854775807) (k : E_C 142 [8, d, i] M = some (v, M)) : E_C 273 [8, d, i, 213] M = some (0, e_up M 213 0 v) := by
  have j16 : ∀ M1, E_V 273 20 [8, d, i, 213, 0] M1 = some (0, M1) := by
    intro M1
    rw [E_V_eq]
    show e_tv E_C (E_V 273) e_t273_20 [8, d, i, 213, 0] M1 = _
    unfold e_t273_20
    simp [e_tv, e_ev, e_sv, e_b1, e_b2, x_o1, x_o2]
  have n := l_TH v hv
  rw [l_ent (show e_rok 273 [8, d, i, 213] = true from rfl)]
  show e_tv E_C (E_V 273) e_t273_0 [8, d, i, 213, 0] M = _
  unfold e_t273_0
  simp [e_tv, e_ev, e_sv, e_b1, e_b2, x_o1, x_o2, k, n.1, n.2, l_st213, j16]
theorem el_261a {d i : Int} {M : EM} (hd : ¬ (0 ≤ d ∧ d < 8)) : E_C 261 [192, d, i] M = some (0, e_up M 192 10 1) := by
  have i0 := h_is (d := d) M
  rw [if_neg hd] at i0
  have z : (e_up M 192 10 1) 192 10 = 1 := c_up_s
  rw [r_ent (show e_rok 261 [192, d, i] = true from decide_eq_true r_ref)]
  show e_tv E_C (E_V 261) e_t261_0 [192, d, i] M = _
  unfold e_t261_0
  simp [e_tv, e_ev, e_sv, e_b1, e_b2, x_o1, x_o2, r_F10, r_P10, i0, z]
theorem el_261b {i a n : Int} {m : Nat} {M : EM} (hm : m < 8) (ha : M 195 m = a) (hn : M 197 m = n) (hn0 : 0 ≤ n ∧ n ≤ 120) (h : a ≠ 2 ∨ ¬ (0 ≤ i ∧ i ≤ n - 1)) : E_C 261 [192, (m : Int), i] M = some (0, e_up M 192 10 2) := by
  have i0 := h_is (d := (m : Int)) M
  rw [if_pos ⟨by omega, by omega⟩] at i0
  obtain ⟨l2, -, l4, -⟩ := r_isD (m : Int) M ⟨by omega, by omega⟩
  rw [Int.toNat_natCast, ha] at l2
  rw [Int.toNat_natCast, hn] at l4
  have z : (e_up M 192 10 2) 192 10 = 2 := c_up_s
  clear ha hn hm
  generalize (m : Int) = mm at *
  by_cases q : a = 2
  · have kin := r_in0 (M := M) (x := i) (lo := 0) (hi := n - 1) (h.resolve_left (fun e => e q))
    subst q
    have w1 : e_w (n - 1) = n - 1 := a_w_id (by omega) (by omega)
    rw [r_ent (show e_rok 261 [192, mm, i] = true from decide_eq_true r_ref)]
    show e_tv E_C (E_V 261) e_t261_0 [192, mm, i] M = _
    unfold e_t261_0
    simp [e_tv, e_ev, e_sv, e_b1, e_b2, x_o1, x_o2, r_F10, r_P10, r_O2, r_O4, i0, l2, l4, w1, kin, z]
  · rw [r_ent (show e_rok 261 [192, mm, i] = true from decide_eq_true r_ref)]
    show e_tv E_C (E_V 261) e_t261_0 [192, mm, i] M = _
    unfold e_t261_0
    simp [e_tv, e_ev, e_sv, e_b1, e_b2, x_o1, x_o2, r_F10, r_P10, r_O2, i0, l2, q, z]
theorem el_w {d i n : Int} (b : 0 ≤ d ∧ d < 8) (hn0 : 0 ≤ n ∧ n ≤ 120) (hi : 0 ≤ i ∧ i ≤ n - 1) : e_w (n - 1) = n - 1 ∧ e_w (120 * d) = 120 * d ∧ e_w (120 * d + i) = 120 * d + i := ⟨a_w_id (by omega) (by omega), a_w_id (by omega) (by omega), a_w_id (by omega) (by omega)⟩
theorem el_n {i n : Int} {m : Nat} (hm : m < 8) (hn0 : 0 ≤ n ∧ n ≤ 120) (hi : 0 ≤ i ∧ i ≤ n - 1) : (120 * (m : Int) + i).toNat = 120 * m + i.toNat ∧ 0 ≤ 120 * (m : Int) + i ∧ 120 * (m : Int) + i < 960 := by omega
theorem el_rd {i v : Int} {m : Nat} {M : EM} (e : (120 * (m : Int) + i).toNat = 120 * m + i.toNat ∧ 0 ≤ 120 * (m : Int) + i ∧ 120 * (m : Int) + i < 960) (hv : M 198 (120 * m + i.toNat) = v) : e_op 60 [198, 120 * (m : Int) + i] (e_up M 192 10 0) = some v := by
  rw [r_rdE e.2.1 e.2.2, e.1]
  refine congrArg some (Eq.trans (c_up_n ?_) hv)
  exact fun h => absurd h.1 (by decide)
theorem el_261s {d i n n1 b1 b2 v : Int} {M A : EM} (i0 : E_C 173 [d] M = some (1, M)) (l2 : e_op 60 [195, d] M = some 2) (l4 : e_op 60 [197, d] M = some n) (w1 : e_w (n - 1) = n1) (kin : E_C 168 [i, 0, n1] M = some (1, M)) (hA : e_up M 192 10 0 = A) (z : A 192 10 = 0) (w2 : e_w (120 * d) = b1) (w3 : e_w (b1 + i) = b2) (rd : e_op 60 [198, b2] A = some v) : E_C 261 [192, d, i] M = some (v, A) := by
  rw [r_ent (show e_rok 261 [192, d, i] = true from decide_eq_true r_ref)]
  show e_tv E_C (E_V 261) e_t261_0 [192, d, i] M = _
  unfold e_t261_0
  simp [e_tv, e_ev, e_sv, e_b1, e_b2, x_o1, x_o2, r_F10, r_P10, r_O2, r_O4, r_O5, i0, l2, l4, w1, kin, hA, z, w2, w3, rd]
theorem el_261c {i n v : Int} {m : Nat} {M : EM} (hm : m < 8) (ha : M 195 m = 2) (hn : M 197 m = n) (hn0 : 0 ≤ n ∧ n ≤ 120) (hi : 0 ≤ i ∧ i ≤ n - 1) (hv : M 198 (120 * m + i.toNat) = v) : E_C 261 [192, (m : Int), i] M = some (v, e_up M 192 10 0) := by
  have b : 0 ≤ (m : Int) ∧ (m : Int) < 8 := ⟨by omega, by omega⟩
  have i0 := h_is (d := (m : Int)) M
  rw [if_pos b] at i0
  obtain ⟨l2, -, l4, -⟩ := r_isD (m : Int) M ⟨b.1, by omega⟩
  rw [Int.toNat_natCast, ha] at l2
  rw [Int.toNat_natCast, hn] at l4
  obtain ⟨w1, w2, w3⟩ := el_w b hn0 hi
  exact el_261s i0 l2 l4 w1 (r_in1 (M := M) (x := i) (lo := 0) (hi := n - 1) hi) rfl c_up_s w2 w3 (el_rd (el_n hm hn0 hi) hv)
theorem ax_element {d i r1 r2 : Int} {M M1 M2 : EM} (hJ : r_J M) (hS : h_S M) (k1 : E_C 273 [8, d, i, 213] M = some (r1, M1)) (k2 : E_C 261 [192, d, i] M1 = some (r2, M2)) : M2 192 10 = r1 ∧ ((r1 = 1 ∨ r1 = 2) ∨ (r1 = 0 ∧ M2 213 0 = r2)) := by
  by_cases hd : 0 ≤ d ∧ d < 8
  · obtain ⟨m, rfl⟩ : ∃ m : Nat, d = m := ⟨d.toNat, by omega⟩
    have m8 : m < 8 := by omega
    have sz := hJ.2.1 m m8
    obtain ⟨a, ha⟩ : ∃ a, M 195 m = a := ⟨_, rfl⟩
    obtain ⟨n, hn⟩ : ∃ n, M 197 m = n := ⟨_, rfl⟩
    rw [hn] at sz
    have hn0 : 0 ≤ n ∧ n ≤ 120 := by omega
    have row : (a = 2 ∧ M (146 + 2 * m) 1 = 1 ∧ M (146 + 2 * m) 5 = n ∧ ∀ j, j < 120 → M (147 + 2 * m) j = M 198 (120 * m + j)) ∨ (a ≠ 2 ∧ M (146 + 2 * m) 1 = 0) := by
      rcases hS m m8 with ⟨b1, -, b3⟩ | ⟨b1, -, b3⟩ | ⟨b1, -, b3, -, b5, b6⟩
      · exact Or.inr ⟨by omega, b3⟩
      · exact Or.inr ⟨by omega, b3⟩
      · exact Or.inl ⟨by omega, b3, b5.trans hn, b6⟩
    by_cases q : a = 2 ∧ 0 ≤ i ∧ i ≤ n - 1
    · obtain ⟨q1, q2, q3⟩ := q
      obtain ⟨-, g1, g5, g6⟩ := row.resolve_right (fun e => e.1 q1)
      have kv := el_142c (i := i) m8 g1 g5 (by decide) ⟨q2, by omega⟩ hn0.2 rfl
      have bv := c_M32 (id := 147 + 2 * m) (k := i.toNat) hJ.1 (by omega) (fun e => by
        have e0 : e_OUT = 213 := by decide +kernel
        omega)
      obtain ⟨e1, e2⟩ := Prod.mk.inj (Option.some.inj (k1.symm.trans (el_273c (by omega) kv)))
      have f : ∀ id k, id ≠ 213 → M1 id k = M id k := fun id k h => by
        rw [e2]
        exact c_up_n (fun e => h e.1)
      obtain ⟨e3, e4⟩ := Prod.mk.inj (Option.some.inj (k2.symm.trans (el_261c m8 ((f _ _ (by decide)).trans (ha.trans q1)) ((f _ _ (by decide)).trans hn) hn0 ⟨q2, q3⟩ (f _ _ (by decide)))))
      refine ⟨by rw [e4, c_up_s, e1], Or.inr ⟨e1, ?_⟩⟩
      rw [e4, c_up_n (by omega), e2, c_up_s, e3]
      exact g6 _ (by omega)
    · have kv : E_C 142 [8, (m : Int), i] M = some (e_TH + 1, c_thr M) := by
        rcases row with ⟨g0, g1, g5, -⟩ | ⟨g0, g1⟩
        · exact el_142b m8 g1 g5 (Or.inr (by omega))
        · exact el_142b m8 g1 rfl (Or.inl rfl)
      obtain ⟨e1, e2⟩ := Prod.mk.inj (Option.some.inj (k1.symm.trans (el_273b kv)))
      have f : ∀ id k, 192 ≤ id → M1 id k = M id k := fun id k h => by
        rw [e2]
        exact c_up_n (by omega)
      obtain ⟨e3, e4⟩ := Prod.mk.inj (Option.some.inj (k2.symm.trans (el_261b m8 ((f _ _ (by decide)).trans ha) ((f _ _ (by decide)).trans hn) hn0 (by omega))))
      exact ⟨by rw [e4, c_up_s, e1], Or.inl (Or.inr e1)⟩
  · obtain ⟨e1, e2⟩ := Prod.mk.inj (Option.some.inj (k1.symm.trans (el_273a (el_142a hd))))
    obtain ⟨e3, e4⟩ := Prod.mk.inj (Option.some.inj (k2.symm.trans (el_261a hd)))
    exact ⟨by rw [e4, c_up_s, e1], Or.inl (Or.inl e1)⟩
end
section
/-! what the reference calls thrown; what the law's row holds -/
theorem t_275 {M : EM} : E_C 275 [192] M = some (M 192 10, M) := by
  rw [r_ent (show e_rok 275 [192] = true from decide_eq_true r_ref)]
  show e_tv E_C (E_V 275) e_t275_0 [192] M = _
  unfold e_t275_0
  simp [e_tv, e_ev, e_sv, e_b1, e_b2, x_o1, x_o2, r_F10]
theorem t_213 (M : EM) : e_op 61 [213, 0] M = some (M 213 0) := by
  have hz : e_sz M 213 = 1 := by
    unfold e_sz
    rw [if_neg (by decide)]
    decide +kernel
  have c : e_in2 M 101 213 0 := by
    refine ⟨by decide, by decide +kernel, by decide +kernel, by decide, ?_⟩
    show 0 < e_sz M 213
    rw [hz]
    decide
  have e : (if e_in2 M 101 213 0 then some (M (213 : Int).toNat (0 : Int).toNat) else none) = some (M (213 : Int).toNat (0 : Int).toNat) := if_pos c
  exact e
theorem t_frw {W : AW} {M M1 : EM} (h : a_fr W M M1) {id : Nat} (hW : (W.all fun w => decide (w.1 ≠ id)) = true) (k : Nat) : M1 id k = M id k := h id k (fun w hw hc => by
  have h := List.all_eq_true.mp hW w hw
  simp only [decide_eq_true_eq] at h
  omega)
end
