theorem w_58l {h : Int} {b : Nat → Int} {n : Nat} {N : EM} {p : Nat} (hp : p ≤ 40) (hK : w_K b n N) (hA : w_A b n) (hn : n ≤ 120) (hz : w_T b n 2 = 0) (h10 : N 10 0 = p) (hw : ∀ q, q < p → -1 ≤ N 13 q ∧ N 13 q < p) : ∀ (m s : Nat) (M : EM), (s : Int) + m = w_T b n 7 → w_kp N M p → M 10 0 = ((p + s : Nat) : Int) → ∃ r M', E_V 58 28 [162, h, 9, (p : Int), (s : Int)] M = some (r, M') ∧ ∃ d Mx, w_run N p s d M Mx ∧ ((((s + d : Nat) : Int) = w_T b n 7 ∧ M' = Mx ∧ r = w_T b n 7) ∨ (((s + d : Nat) : Int) < w_T b n 7 ∧ ¬ w_tS N Mx p (s + d) ∧ r = -2000 - N 163 (s + d) ∧ w_back N M' p)) := by
  intro m
  induction m with
  | zero =>
    intro s M hs hk h0
    have k5 := hk.2.2.2.2.1
    have e7 : M 162 7 = w_T b n 7 := (k5 _ _ (by omega) (by omega) (by omega)).trans hK.1.2.1
    have q : ¬ ((s : Int) < M 162 7) := by omega
    have hs' : (s : Int) = w_T b n 7 := by omega
    have s120 : s ≤ 120 := by
      have := w_Ii hA
      unfold w_I at this
      omega
    refine ⟨w_T b n 7, M, ?_, 0, M, rfl, Or.inl ⟨hs', rfl, rfl⟩⟩
    rw [← hs'] at e7 ⊢
    have w0 : ((p + s : Nat) : Int) - (p : Int) = (s : Int) := by omega
    have w1 : e_w (((p + s : Nat) : Int) - (p : Int)) = (s : Int) := by
      rw [w0]
      clear w0 q hs' e7 k5 hk hw h10 hz hA hK hs h0
      exact a_w_id (by omega) (by omega)
    clear w0
    generalize ((p + s : Nat) : Int) = y at w1 h0
    rw [E_V_eq]
    show e_tv E_C (E_V 58) e_t58_28 [162, h, 9, (p : Int), (s : Int)] M = _
    unfold e_t58_28
    simp [e_tv, e_ev, e_sv, e_b1, e_b2, x_o1, x_o2, w_f7, w_H0, w_P0, e7, h0, w1]
  | succ m ih =>
    intro s M hs hk h0
    have k5 := hk.2.2.2.2.1
    have kk : ∀ id i, 162 ≤ id → M id i = N id i := fun id i h => k5 _ _ (by omega) (by omega) (by omega)
    have e7 : M 162 7 = w_T b n 7 := (kk _ _ (by omega)).trans hK.1.2.1
    have q : (s : Int) < w_T b n 7 := by omega
    have s120 : s < 120 := by
      have := w_Ii hA
      unfold w_I at this
      omega
    obtain ⟨j, k, u1, u2, u3, u4, u5, u6, u7, u8, u9, u10, u11, u12, u13, u14, u15⟩ := w_told hK hA hn hz q
    obtain ⟨f, hf⟩ : ∃ f : Nat, w_T b j 8 = f := ⟨(w_T b j 8).toNat, by omega⟩
    obtain ⟨l, hl⟩ : ∃ l : Nat, w_T b k 8 = ((f + l : Nat) : Int) := ⟨(w_T b k 8 - w_T b j 8).toNat, by omega⟩
    rw [hf] at u9 u12 u13 u15
    rw [hl] at u10 u13 u14 u15
    have ef : (N 165 s).toNat = f := by rw [u9]; omega
    have el : (N 165 (s + 1) - N 165 s).toNat = l := by rw [u9, u10]; omega
    obtain ⟨r, M1, k1, k2, k3⟩ := w_68 (p := p + s) (f := f) (n := l) (c := N 164 s) (g := N 166 s) (s := s) (M := M) h0 s120 (by rw [kk _ _ (by omega)]; exact u9) (by rw [kk _ _ (by omega)]; exact u10) (kk _ _ (by omega)) (kk _ _ (by omega)) (by omega) (fun h1 h2 h3 => by have := u15 h1 h2 h3; omega)
    rcases k3 with ⟨e1, t1, t2⟩ | ⟨e1, t1⟩
    · obtain ⟨-, z10⟩ := w_to_kp t2 t1
      obtain ⟨r', M', g1, d, Mx, g2, g3⟩ := ih (s + 1) M1 (by omega) (w_kp_tr (by omega) hk k2) (by rw [z10]; omega)
      refine ⟨r', M', ?_, d + 1, Mx, ⟨M1, ?_, ?_, g2⟩, ?_⟩
      · subst e1
        have w1 : e_w ((s : Int) + 1) = ((s + 1 : Nat) : Int) := by
          clear k1 k2 t1 t2 g1 g2 g3 u1 u2 u3 u4 u5 u6 u7 u8 u9 u10 u11 u12 u13 u14 u15 hw hK hA hz hs h0 q e7
          exact (a_w_id (by omega) (by omega)).trans (by omega)
        generalize ((s + 1 : Nat) : Int) = y at w1 g1
        rw [E_V_eq]
        show e_tv E_C (E_V 58) e_t58_28 [162, h, 9, (p : Int), (s : Int)] M = _
        unfold e_t58_28
        simp [e_tv, e_ev, e_sv, e_b1, e_b2, x_o1, x_o2, w_f7, e7, q, k1, w1, g1]
      · unfold w_tS
        rw [ef, el]
        exact t1
      · unfold w_oS
        rw [ef, el]
        exact t2
      · rw [show s + (d + 1) = s + 1 + d by omega]
        exact g3
    · obtain ⟨M', g1, g2, g3, g4⟩ := w_55 hp M1
      have kp1 := w_kp_tr (by omega) hk k2
      have t9 := w_atN (a := 163) (i := (s : Int)) (n := 120) (by decide +kernel) (j := s) rfl s120 M'
      have z163 : M' 163 s = N 163 s := by
        rw [g4 _ _ (by decide), c_up_n (by omega)]
        exact kp1.2.2.2.2.1 _ _ (by omega) (by omega) (by omega)
      have t9' : E_C 146 [163, (s : Int)] M' = some (N 163 s, M') := t9.trans (congrArg some (congrArg (·, M') z163))
      refine ⟨-2000 - N 163 s, M', ?_, 0, M, rfl, Or.inr ⟨by omega, ?_, rfl, ?_⟩⟩
      · subst e1
        have w2 : e_w (-2000 - N 163 s) = -2000 - N 163 s := by
          rw [u7]
          have uj : j ≤ 120 := by omega
          clear k1 k2 t1 t9 t9' g1 g2 g3 g4 z163 kp1 u1 u2 u3 u4 u5 u6 u7 u8 u9 u10 u11 u12 u13 u14 u15 hw hK hA hz hs h0 q e7
          exact a_w_id (by omega) (by omega)
        rw [E_V_eq]
        show e_tv E_C (E_V 58) e_t58_28 [162, h, 9, (p : Int), (s : Int)] M = _
        unfold e_t58_28
        simp [e_tv, e_ev, e_sv, e_b1, e_b2, x_o1, x_o2, w_f7, w_H0, w_a9, e7, q, k1, g1, t9', w2]
      · unfold w_tS
        rw [show s + 0 = s from rfl, ef, el]
        exact t1
      · obtain ⟨a1, a2, a3, a4, a5, a6⟩ := kp1
        refine ⟨fun q hq => ?_, fun q hq => ?_, fun q hq => ?_, fun q hq => ?_, fun id k h1 h2 h3 => ?_⟩
        · obtain ⟨c1, c2, c3, c4, c5, c6, c7⟩ := a1 q hq
          have hwq := hw q hq
          refine ⟨?_, ?_, ?_, ?_, ?_, ?_, ?_⟩
          · rw [g4 _ _ (by decide), c_up_n (by omega)]; exact c1
          · rw [g4 _ _ (by decide), c_up_n (by omega)]; exact c2
          · rw [g2 q hq, c_up_n (by omega)]
            rcases c7 with c7 | ⟨c7, c8⟩
            · rw [c7, if_neg (by omega)]
            · rw [if_pos c8]; omega
          · rw [g4 _ _ (by decide), c_up_n (by omega)]; exact c3
          · rw [g4 _ _ (by decide), c_up_n (by omega)]; exact c4
          · rw [g4 _ _ (by decide), c_up_n (by omega)]; exact c5
          · rw [g4 _ _ (by decide), c_up_n (by omega)]; exact c6
        · rw [g4 _ _ (by decide), c_up_n (by omega), g4 _ _ (by decide), c_up_n (by omega), g4 _ _ (by decide), c_up_n (by omega)]
          exact a2 q hq
        · rw [g4 _ _ (by decide), c_up_n (by omega)]
          exact a3 q hq
        · rw [g4 _ _ (by decide), c_up_n (by omega), g4 _ _ (by decide), c_up_n (by omega)]
          exact a4 q hq
        · rw [g4 _ _ (by omega)]
          by_cases e : id = 10 ∧ k = 0
          · obtain ⟨rfl, rfl⟩ := e
            rw [c_up_s]
            exact h10.symm
          · rw [c_up_n e]
            by_cases e2 : id = 10
            · subst e2
              exact a6 k (fun hk => e ⟨rfl, hk⟩)
            · exact a5 id k (by omega) h2 h3

