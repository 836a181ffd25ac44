/-! the bench drawn: exactly -/
def bx_DC (g : Int → Int) (SH WM : Int → Int) (M M' : EM) (j : Nat) (q : Int) : Prop := (∀ c : Nat, c < 100 → M' 179 (40 * c + j) = cu_v g SH WM q (c : Int)) ∧ ∀ id k, ¬ ((id = 177 ∨ id = 178) ∧ 6 * j ≤ k ∧ k < 6 * j + 6) → ¬ (id = 179 ∧ k % 40 = j ∧ k < 4000) → M' id k = M id k
section BXD
variable {g : Int → Int} {SH WM : Int → Int}
/-- behind drawPoints a CELL's PUSH is known -/
theorem bx_pc {M N : EM} {j q : Nat} {j0 c : Int} (hj0 : j0 = j) (hj : j < 40) (hq : q < 40) (h174 : N 174 j = q) (h12 : N 12 q = M 12 q) (hd : hd_d0 M 0 g q) (hP : ∀ n : Nat, g (28 * (q : Int) + 2) = n → ∀ i, i < n → N 177 (6 * j + i) = cu_pv g (WM q) q i ∧ N 178 (6 * j + i) = cu_cv g (SH q) q i) (hs : 0 ≤ SH q ∧ SH q ≤ 100) (hw : 0 ≤ WM q ∧ WM q ≤ 100) (hc : 0 ≤ c ∧ c ≤ 2000) : E_C 13 [170, j0, c] N = some (cu_v g SH WM q c, N) := by
  obtain ⟨hv, d2, d3⟩ := hd
  obtain ⟨n, hn⟩ : ∃ n : Nat, g (28 * (q : Int) + 2) = n := by
    obtain ⟨n, h⟩ := hv
    exact ⟨n, h.2.2.1⟩
  obtain ⟨n2, n6, -, -, -, -⟩ := hd_cv_bd hv hn
  obtain ⟨v1, v2⟩ := cu_vok (s := SH q) (w := WM q) hv hn hs hw
  have d2' : M 12 q = g (28 * (q : Int) + 2) := d2
  have k := bx_13 (n := n) (P := cu_pv g (WM q) q) (C := cu_cv g (SH q) q) hj0 hj hq h174 (by rw [h12, d2', hn]) (by omega) n6 hc (hP n hn) v2 (fun i hi => (v1.2.2.2.2 i hi).1)
  unfold cu_v
  rw [hn, Int.toNat_natCast]
  exact k
theorem bx_10l {M N : EM} {j q : Nat} {j0 : Int} (hj0 : j0 = j) (hj : j < 40) (hq : q < 40) (h174 : N 174 j = q) (h12 : N 12 q = M 12 q) (hd : hd_d0 M 0 g q) (hP : ∀ n : Nat, g (28 * (q : Int) + 2) = n → ∀ i, i < n → N 177 (6 * j + i) = cu_pv g (WM q) q i ∧ N 178 (6 * j + i) = cu_cv g (SH q) q i) (hs : 0 ≤ SH q ∧ SH q ≤ 100) (hw : 0 ≤ WM q ∧ WM q ≤ 100) : ∀ (d c : Nat) (x2 : Int) (K : EM), x2 = c → c + d = 100 → (∀ c', c' < c → K 179 (40 * c' + j) = cu_v g SH WM q (c' : Int)) → (∀ id k, ¬ (id = 179 ∧ k % 40 = j ∧ k < 4000) → K id k = N id k) → ∃ K', E_V 10 7 [170, j0, x2] K = some (0, K') ∧ (∀ c', c' < 100 → K' 179 (40 * c' + j) = cu_v g SH WM q (c' : Int)) ∧ ∀ id k, ¬ (id = 179 ∧ k % 40 = j ∧ k < 4000) → K' id k = N id k := by
  intro d
  induction d with
  | zero =>
    intro c x2 K hx hc h1 h2
    have q2 : ¬ (x2 < 100) := by omega
    refine ⟨K, ?_, fun c' h => h1 c' (by omega), h2⟩
    rw [E_V_eq]
    show e_tv E_C (E_V 10) e_t10_7 [170, j0, x2] K = _
    unfold e_t10_7
    simp [e_tv, e_ev, e_sv, e_b1, e_b2, x_o1, x_o2, q2]
  | succ d ih =>
    intro c x2 K hx hc h1 h2
    have q2 : x2 < 100 := by omega
    have i1 : x2 * 40 + j0 = ((40 * c + j : Nat) : Int) := by omega
    have i2 : 40 * c + j < 4040 := by omega
    have i3 : (40 * c + j) % 40 = j := by omega
    have i4 : 40 * c + j < 4000 := by omega
    have kp := bx_pc (c := x2) (M := M) (N := K) hj0 hj hq ((h2 _ _ (by omega)).trans h174) ((h2 _ _ (by omega)).trans h12) hd (fun n hn i hi => by
      obtain ⟨p1, p2⟩ := hP n hn i hi
      exact ⟨(h2 _ _ (by omega)).trans p1, (h2 _ _ (by omega)).trans p2⟩) hs hw ⟨by omega, by omega⟩
    have l := w_layN (a := 179) (i := x2 * 40 + j0) (n := 4040) (by decide +kernel) (j := 40 * c + j) i1 i2 (cu_v g SH WM q x2) K
    have l' : E_C 147 [179, x2 * 40 + j0, cu_v g SH WM q x2] K = some (0, e_up K 179 (40 * c + j) (cu_v g SH WM q x2)) := l
    obtain ⟨K', k, k2, k3⟩ := ih (c + 1) (x2 + 1) (e_up K 179 (40 * c + j) (cu_v g SH WM q x2)) (by omega) (by omega) (fun c' h => by
      by_cases e : c' = c
      · rw [e, c_up_s, hx]
      · rw [c_up_n (by omega)]
        exact h1 c' (by omega)) (fun id k h => by
      rw [c_up_n (fun e => h ⟨e.1, by rw [e.2]; exact i3, by rw [e.2]; exact i4⟩)]
      exact h2 id k h)
    refine ⟨K', ?_, k2, k3⟩
    clear ih h1 h2 k2 k3 hP hd
    have w1 : e_w (x2 * 40) = x2 * 40 := a_w_id (by omega) (by omega)
    have w2 : e_w (x2 * 40 + j0) = x2 * 40 + j0 := a_w_id (by omega) (by omega)
    have w3 : e_w (x2 + 1) = x2 + 1 := a_w_id (by omega) (by omega)
    rw [E_V_eq]
    show e_tv E_C (E_V 10) e_t10_7 [170, j0, x2] K = _
    unfold e_t10_7
    simp [e_tv, e_ev, e_sv, e_b1, e_b2, x_o1, x_o2, bx_Gg, q2, w1, w2, w3, kp, l', k]
/-- one CELL's SHARE and WARM, from what is known of it -/
theorem bx_dp {M : EM} {j : Nat} {j0 : Int} (hj0 : j0 = j) (hj : j < 40) (h40 : g 1198 ≤ 40) (hd : ∀ q : Nat, (q : Int) < g 1198 → g (28 * (q : Int)) = 0 → hd_d0 M 0 g q) (hk : bx_kn g SH WM M j) : ∃ q : Nat, M 174 j = q ∧ q < 40 ∧ (0 ≤ SH q ∧ SH q ≤ 100) ∧ (0 ≤ WM q ∧ WM q ≤ 100) ∧ hd_d0 M 0 g q ∧ ∃ N, E_C 9 [170, j0] M = some (0, N) ∧ (∀ n : Nat, g (28 * (q : Int) + 2) = n → ∀ i, i < n → N 177 (6 * j + i) = cu_pv g (WM q) q i ∧ N 178 (6 * j + i) = cu_cv g (SH q) q i) ∧ ∀ id k, ¬ ((id = 177 ∨ id = 178) ∧ 6 * j ≤ k ∧ k < 6 * j + 6) → N id k = M id k := by
  obtain ⟨q, q1, q2, q3, q4, q5, q6⟩ := hk
  have dd := hd q q2 q3
  obtain ⟨n, hn⟩ : ∃ n : Nat, g (28 * (q : Int) + 2) = n := by
    obtain ⟨⟨n, h⟩, -⟩ := dd
    exact ⟨n, h.2.2.1⟩
  obtain ⟨s1, N, k, k2, k3⟩ := bx_9 hj0 hj (show q < 40 by omega) q1 dd hn q4
  have a3 := q4 3 (by decide)
  rw [q5] at s1 k2
  rw [q6] at a3 k2
  refine ⟨q, q1, by omega, s1, a3, dd, N, k, fun m hm i hi => ?_, k3⟩
  exact k2 i (by omega)
theorem bx_10 {M : EM} {j : Nat} {j0 : Int} (hj0 : j0 = j) (hj : j < 40) (h40 : g 1198 ≤ 40) (hd : ∀ q : Nat, (q : Int) < g 1198 → g (28 * (q : Int)) = 0 → hd_d0 M 0 g q) (hk : bx_kn g SH WM M j) : ∃ M', E_C 10 [170, j0] M = some (0, M') ∧ bx_DC g SH WM M M' j (M 174 j) := by
  obtain ⟨q, q1, q2, s, w, dd, N, k, k2, k3⟩ := bx_dp hj0 hj h40 hd hk
  obtain ⟨K', z, z2, z3⟩ := bx_10l (M := M) (N := N) hj0 hj q2 ((k3 _ _ (by omega)).trans q1) (k3 _ _ (by omega)) dd k2 s w 100 0 0 N rfl rfl (fun c' h => absurd h (Nat.not_lt_zero _)) (fun _ _ _ => rfl)
  refine ⟨K', ?_, by rw [q1]; exact z2, fun id k h1 h2 => (z3 id k h2).trans (k3 id k h1)⟩
  rw [r_ent (show e_rok 10 [170, j0] = true from bx_r (M := M) rfl (by decide +kernel))]
  show e_tv E_C (E_V 10) e_t10_0 [170, j0, 0] M = _
  unfold e_t10_0
  simp [e_tv, e_ev, e_sv, e_b1, e_b2, x_o1, x_o2, k, z]
theorem bx_kn_cg {M N : EM} {j : Nat} (h : bx_kn g SH WM M j) (e : ∀ id k, 174 ≤ id → id ≤ 176 → N id k = M id k) : bx_kn g SH WM N j := by
  obtain ⟨q, q1, q2, q3, q4, q5, q6⟩ := h
  refine ⟨q, (e _ _ (by decide) (by decide)).trans q1, q2, q3, fun a ha => by rw [e _ _ (by decide) (by decide)]; exact q4 a ha, ?_, (e _ _ (by decide) (by decide)).trans q6⟩
  unfold bx_sh at q5 ⊢
  rw [e 176 _ (by decide) (by decide), e 175 _ (by decide) (by decide), e 175 _ (by decide) (by decide), e 175 _ (by decide) (by decide)]
  exact q5
theorem bx_d0_cg {M N : EM} (e : ∀ id, id < 162 → N id = M id) {q : Nat} (h : hd_d0 M 0 g q) : hd_d0 N 0 g q := by
  unfold hd_d0 at h ⊢
  rw [e (12 + 0) (by decide), e (19 + 0) (by decide), e (20 + 0) (by decide)]
  exact h
theorem bx_11 {M : EM} {n : Nat} (hn : M 170 0 = n) (hn40 : n ≤ 40) (h40 : g 1198 ≤ 40) (hd : ∀ q : Nat, (q : Int) < g 1198 → g (28 * (q : Int)) = 0 → hd_d0 M 0 g q) (hk : ∀ j, j < n → bx_kn g SH WM M j) : ∃ M', E_C 11 [170] M = some (0, M') ∧ (∀ j c : Nat, j < n → c < 100 → M' 179 (40 * c + j) = cu_v g SH WM (M 174 j) (c : Int)) ∧ ∀ id k, ¬ (177 ≤ id ∧ id ≤ 179) → M' id k = M id k := by
  have lp : ∀ (d j : Nat) (x1 : Int) (N : EM), x1 = j → j + d = n → (∀ j' c : Nat, j' < j → c < 100 → N 179 (40 * c + j') = cu_v g SH WM (M 174 j') (c : Int)) → (∀ id k, ¬ (177 ≤ id ∧ id ≤ 179) → N id k = M id k) → ∃ M', E_V 11 2 [170, x1] N = some (0, M') ∧ (∀ j c : Nat, j < n → c < 100 → M' 179 (40 * c + j) = cu_v g SH WM (M 174 j) (c : Int)) ∧ ∀ id k, ¬ (177 ≤ id ∧ id ≤ 179) → M' id k = M id k := by
    intro d
    induction d with
    | zero =>
      intro j x1 N hx hj h1 h2
      have z := (h2 170 0 (by decide)).trans hn
      obtain ⟨nn, hnn⟩ : ∃ nn : Int, (n : Int) = nn := ⟨_, rfl⟩
      rw [hnn] at z
      have q : ¬ (x1 < nn) := by omega
      refine ⟨N, ?_, fun j' c hj' hc => h1 j' c (by omega) hc, h2⟩
      rw [E_V_eq]
      show e_tv E_C (E_V 11) e_t11_2 [170, x1] N = _
      unfold e_t11_2
      simp [e_tv, e_ev, e_sv, e_b1, e_b2, x_o1, x_o2, bx_F0, z, q]
    | succ d ih =>
      intro j x1 N hx hj h1 h2
      have z := (h2 170 0 (by decide)).trans hn
      obtain ⟨nn, hnn⟩ : ∃ nn : Int, (n : Int) = nn := ⟨_, rfl⟩
      rw [hnn] at z
      have q : x1 < nn := by omega
      obtain ⟨N1, k, k2, k3⟩ := bx_10 (M := N) hx (by omega) h40 (fun q hq h0 => bx_d0_cg (fun id hid => funext fun k => h2 _ _ (by omega)) (hd q hq h0)) (bx_kn_cg (hk j (by omega)) (fun id k a b => h2 _ _ (by omega)))
      obtain ⟨M', m, m2, m3⟩ := ih (j + 1) (x1 + 1) N1 (by omega) (by omega) (fun j' c hj' hc => by
        by_cases e : j' = j
        · subst e
          rw [k2 c hc, h2 174 _ (by decide)]
        · rw [k3 _ _ (by omega) (fun e2 => by
            have := e2.2.1
            omega)]
          exact h1 j' c (by omega) hc) (fun id k h => (k3 _ _ (by omega) (by omega)).trans (h2 id k h))
      refine ⟨M', ?_, m2, m3⟩
      clear ih h1 h2 k2 k3 m2 m3 hd hk
      have w : e_w (x1 + 1) = x1 + 1 := a_w_id (by omega) (by omega)
      rw [E_V_eq]
      show e_tv E_C (E_V 11) e_t11_2 [170, x1] N = _
      unfold e_t11_2
      simp [e_tv, e_ev, e_sv, e_b1, e_b2, x_o1, x_o2, bx_F0, z, q, w, k, m]
  obtain ⟨M', k, kk⟩ := lp n 0 0 M rfl (by omega) (fun j' c h => absurd h (Nat.not_lt_zero _)) (fun _ _ _ => rfl)
  refine ⟨M', ?_, kk⟩
  rw [r_ent (show e_rok 11 [170] = true from bx_r (M := M) rfl (by decide +kernel))]
  show e_tv E_C (E_V 11) e_t11_0 [170, 0] M = _
  unfold e_t11_0
  simp [e_tv, e_ev, e_sv, e_b1, e_b2, x_o1, x_o2, k]
/-- the column behind all others -/
theorem bx_12 {M : EM} {n : Nat} {c : Int} (hc : 0 ≤ c ∧ c ≤ 2000) (hn : M 170 0 = n) (hn40 : n ≤ 40) (h40 : g 1198 ≤ 40) (hd : ∀ q : Nat, (q : Int) < g 1198 → g (28 * (q : Int)) = 0 → hd_d0 M 0 g q) (hk : ∀ j, j < n → bx_kn g SH WM M j) : ∃ M', E_C 12 [170, c] M = some (0, M') ∧ (∀ j : Nat, j < n → M' 179 (4000 + j) = cu_v g SH WM (M 174 j) c ∧ M' 178 (6 * j) = cu_cv g (SH (M 174 j)) (M 174 j) 0) ∧ ∀ id k, ¬ (177 ≤ id ∧ id ≤ 179) → M' id k = M id k := by
  have lp : ∀ (d j : Nat) (x2 : Int) (N : EM), x2 = j → j + d = n → (∀ j' : Nat, j' < j → N 179 (4000 + j') = cu_v g SH WM (M 174 j') c ∧ N 178 (6 * j') = cu_cv g (SH (M 174 j')) (M 174 j') 0) → (∀ id k, ¬ (177 ≤ id ∧ id ≤ 179) → N id k = M id k) → ∃ M', E_V 12 2 [170, c, x2] N = some (0, M') ∧ (∀ j : Nat, j < n → M' 179 (4000 + j) = cu_v g SH WM (M 174 j) c ∧ M' 178 (6 * j) = cu_cv g (SH (M 174 j)) (M 174 j) 0) ∧ ∀ id k, ¬ (177 ≤ id ∧ id ≤ 179) → M' id k = M id k := by
    intro d
    induction d with
    | zero =>
      intro j x2 N hx hj h1 h2
      have z := (h2 170 0 (by decide)).trans hn
      obtain ⟨nn, hnn⟩ : ∃ nn : Int, (n : Int) = nn := ⟨_, rfl⟩
      rw [hnn] at z
      have q : ¬ (x2 < nn) := by omega
      refine ⟨N, ?_, fun j' hj' => h1 j' (by omega), h2⟩
      rw [E_V_eq]
      show e_tv E_C (E_V 12) e_t12_2 [170, c, x2] N = _
      unfold e_t12_2
      simp [e_tv, e_ev, e_sv, e_b1, e_b2, x_o1, x_o2, bx_F0, z, q]
    | succ d ih =>
      intro j x2 N hx hj h1 h2
      have z := (h2 170 0 (by decide)).trans hn
      obtain ⟨nn, hnn⟩ : ∃ nn : Int, (n : Int) = nn := ⟨_, rfl⟩
      rw [hnn] at z
      have q : x2 < nn := by omega
      have e : ∀ id, id < 162 → N id = M id := fun id hid => funext fun k => h2 _ _ (by omega)
      obtain ⟨q0, q1, q2, s, w, dd, N1, k, k2, k3⟩ := bx_dp (M := N) hx (by omega) h40 (fun q hq h0 => bx_d0_cg e (hd q hq h0)) (bx_kn_cg (hk j (by omega)) (fun id k a b => h2 _ _ (by omega)))
      have q1' : M 174 j = q0 := (h2 _ _ (by decide)).symm.trans q1
      have kp := bx_pc (c := c) (M := N) (N := N1) hx (by omega) q2 ((k3 _ _ (by omega)).trans q1) (k3 _ _ (by omega)) dd k2 s w hc
      have i1 : 4000 + x2 = ((4000 + j : Nat) : Int) := by omega
      have l := w_layN (a := 179) (i := 4000 + x2) (n := 4040) (by decide +kernel) (j := 4000 + j) i1 (by omega) (cu_v g SH WM q0 c) N1
      have l' : E_C 147 [179, 4000 + x2, cu_v g SH WM q0 c] N1 = some (0, e_up N1 179 (4000 + j) (cu_v g SH WM q0 c)) := l
      obtain ⟨M', m, m2, m3⟩ := ih (j + 1) (x2 + 1) (e_up N1 179 (4000 + j) (cu_v g SH WM q0 c)) (by omega) (by omega) (fun j' hj' => by
        by_cases e : j' = j
        · subst e
          obtain ⟨n', hn'⟩ : ∃ n' : Nat, g (28 * (q0 : Int) + 2) = n' := by
            obtain ⟨⟨n', h⟩, -⟩ := dd
            exact ⟨n', h.2.2.1⟩
          have n2 := (hd_cv_bd dd.1 hn').1
          rw [q1']
          refine ⟨c_up_s, ?_⟩
          rw [c_up_n (by omega)]
          exact (k2 n' hn' 0 (by omega)).2
        · obtain ⟨z1, z2⟩ := h1 j' (by omega)
          refine ⟨?_, ?_⟩
          · rw [c_up_n (by omega), k3 _ _ (by omega)]; exact z1
          · rw [c_up_n (by omega), k3 _ _ (by omega)]; exact z2) (fun id k h => by
        rw [c_up_n (by omega), k3 _ _ (by omega)]
        exact h2 id k h)
      refine ⟨M', ?_, m2, m3⟩
      clear ih h1 h2 k2 k3 m2 m3 hd hk dd
      have w1 : e_w (x2 + 1) = x2 + 1 := a_w_id (by omega) (by omega)
      have w2 : e_w (4000 + x2) = 4000 + x2 := a_w_id (by omega) (by omega)
      rw [E_V_eq]
      show e_tv E_C (E_V 12) e_t12_2 [170, c, x2] N = _
      unfold e_t12_2
      simp [e_tv, e_ev, e_sv, e_b1, e_b2, x_o1, x_o2, bx_F0, bx_Gg, z, q, w1, w2, k, kp, l', m]
  obtain ⟨M', k, kk⟩ := lp n 0 0 M rfl (by omega) (fun j' h => absurd h (Nat.not_lt_zero _)) (fun _ _ _ => rfl)
  refine ⟨M', ?_, kk⟩
  rw [r_ent (show e_rok 12 [170, c] = true from bx_r (M := M) rfl (by decide +kernel))]
  show e_tv E_C (E_V 12) e_t12_0 [170, c, 0] M = _
  unfold e_t12_0
  simp [e_tv, e_ev, e_sv, e_b1, e_b2, x_o1, x_o2, k]
end BXD
