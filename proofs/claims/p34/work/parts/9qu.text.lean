/-! text: the two answers, and what they leave -/
/-- what the class's text leaves, from M -/
def h_tx (M : EM) (d r : Int) (M1 : EM) : Prop := (h_no M d 0 ≠ 0 ∧ r = h_no M d 0 ∧ M1 = M) ∨ (h_no M d 0 = 0 ∧ ∃ (b : Nat → Int) (n p : Nat) (N0 : EM), b = M (147 + 2 * d.toNat) ∧ (n : Int) = M (146 + 2 * d.toNat) 5 ∧ n ≤ 120 ∧ M 10 0 = p ∧ (∀ id i, id < 162 ∨ 169 < id → N0 id i = M id i) ∧ M1 165 0 = 0 ∧ ((∃ k : Nat, w_F b n k ∧ r = -1000 - (k : Int) ∧ M1 = N0) ∨ (w_A b n ∧ w_T b n 2 = 0 ∧ 0 < w_T b n 7 ∧ w_K b n N0 ∧ ∃ dd Mx, w_run N0 p 0 dd N0 Mx ∧ ((((0 + dd : Nat) : Int) = w_T b n 7 ∧ M1 = Mx ∧ r = w_T b n 7) ∨ (((0 + dd : Nat) : Int) < w_T b n 7 ∧ ¬ w_tS N0 Mx p (0 + dd) ∧ r = -2000 - N0 163 (0 + dd) ∧ w_back N0 M1 p)))))
theorem h_run_kp {N0 : EM} {p : Nat} : ∀ (d s : Nat) (M Mx : EM), w_run N0 p s d M Mx → w_kp M Mx (p + s) := by
  intro d
  induction d with
  | zero =>
    intro s M Mx h
    have e : Mx = M := h
    rw [e]
    exact w_kp_rf _ _
  | succ d ih =>
    intro s M Mx h
    obtain ⟨M1, t1, t2, t3⟩ := h
    exact w_kp_tr (by omega) (w_to_kp t2 t1).1 (ih (s + 1) M1 Mx t3)
theorem h_58a {s k pl : Int} {M M1 : EM} (k1 : E_C 59 [162, s] M = some (0, M1)) (h1 : M1 162 1 = pl) (w : e_w (-1000 - pl) = k) : E_C 58 [162, s, 9] M = some (k, M1) := by
  have s0 : E_C 58 [162, s, 9] M = e_tv E_C (E_V 58) e_t58_0 [162, s, 9, 0, 0] M := r_ent (u := 58) (as := [162, s, 9]) (M := M) (decide_eq_true c_rd5)
  rw [s0]
  unfold e_t58_0
  simp [e_tv, e_ev, e_sv, e_b1, e_b2, x_o1, x_o2, w_f1, k1, h1, w]
theorem h_58b {s p : Int} {M M1 : EM} {o : EO} (k1 : E_C 59 [162, s] M = some (1, M1)) (h1 : M1 10 0 = p) (k2 : E_V 58 28 [162, s, 9, p, 0] M1 = o) : E_C 58 [162, s, 9] M = o := by
  have s0 : E_C 58 [162, s, 9] M = e_tv E_C (E_V 58) e_t58_0 [162, s, 9, 0, 0] M := r_ent (u := 58) (as := [162, s, 9]) (M := M) (decide_eq_true c_rd5)
  rw [s0]
  unfold e_t58_0
  simp [e_tv, e_ev, e_sv, e_b1, e_b2, x_o1, x_o2, w_H0, w_P0, k1, h1, k2]
theorem h_104n {d x z : Int} {M : EM} (k1 : E_C 154 [8, d] M = some (x, M)) (k2 : E_C 156 [x, 0] M = some (z, M)) (hz : z ≠ 0) : E_C 104 [8, d] M = some (z, M) := by
  have s0 : E_C 104 [8, d] M = e_tv E_C (E_V 104) e_t104_0 [8, d, 0, 0] M := r_ent (u := 104) (as := [8, d]) (M := M) (decide_eq_true c_this)
  rw [s0]
  unfold e_t104_0
  simp [e_tv, e_ev, e_sv, e_b1, e_b2, x_o1, x_o2, k1, k2, hz]
theorem h_104y {d x : Int} {M : EM} {o : EO} (k1 : E_C 154 [8, d] M = some (x, M)) (k2 : E_C 156 [x, 0] M = some (0, M)) (hx : x ≠ -1) (k3 : E_C 58 [162, x, 9] M = o) : E_C 104 [8, d] M = o := by
  have s0 : E_C 104 [8, d] M = e_tv E_C (E_V 104) e_t104_0 [8, d, 0, 0] M := r_ent (u := 104) (as := [8, d]) (M := M) (decide_eq_true c_this)
  rw [s0]
  unfold e_t104_0
  cases o <;> simp [e_tv, e_ev, e_sv, e_b1, e_b2, x_o1, x_o2, p_704, h_708, k1, k2, hx, k3]
theorem h_class {d : Int} {M : EM} (hJ : r_J M) (hB : h_B M 0 (r_G M)) (hS : h_S M) (h0 : M 165 0 = 0) : ∃ r M1, E_C 104 [8, d] M = some (r, M1) ∧ h_tx M d r M1 := by
  by_cases hd : 0 ≤ d ∧ d < 8
  · obtain ⟨k1, k2⟩ := h_ref (w := 0) hS hd
    by_cases q : h_no M d 0 = 0
    · rw [q] at k2
      obtain ⟨n, hn⟩ : ∃ n : Nat, d.toNat = n := ⟨_, rfl⟩
      have n8 : n < 8 := by omega
      have hh := (h_gr145 n8).2
      have kept : M 195 n = 2 := by
        unfold h_no at q
        rw [if_pos hd, hn] at q
        by_cases c : M 195 n = 0
        · rw [if_pos c] at q; exact absurd q (by decide)
        · rw [if_neg c] at q
          by_cases c2 : M 195 n = 2 ∧ ((0 : Int) = -1 ∨ 0 = M 196 n)
          · exact c2.1
          · rw [if_neg c2] at q; exact absurd q (by decide)
      rcases hS n n8 with ⟨a, -⟩ | ⟨a, -⟩ | ⟨a, -, -, -, e5, -⟩
      · omega
      · omega
      · have sz := hJ.2.1 n n8
        rw [hn] at k1 k2
        have hsn : (((146 + 2 * n : Nat) : Int)).toNat = 146 + 2 * n := Int.toNat_natCast _
        have hsn1 : (((146 + 2 * n : Nat) : Int) + 1).toNat = 147 + 2 * n := by omega
        obtain ⟨r, N0, k3, rs⟩ := w_readShape hh hJ.1 h0 (by rw [hsn, e5]; exact sz)
        rw [hsn, hsn1, e5] at rs
        obtain ⟨f1, f2, f3⟩ := rs
        obtain ⟨m, hm⟩ : ∃ m : Nat, M 197 n = m := ⟨(M 197 n).toNat, by omega⟩
        rw [hm, Int.toNat_natCast] at f3
        have m120 : m ≤ 120 := by omega
        obtain ⟨p, hp⟩ : ∃ p : Nat, r_G M 1198 = p := ⟨(r_G M 1198).toNat, by have := hB.2.1; omega⟩
        obtain ⟨b1, b2⟩ := h_B0 hB hp
        have hp40 : p ≤ 40 := by have := hB.2.1; omega
        have hx1 : ((146 + 2 * n : Nat) : Int) ≠ -1 := by omega
        rcases f3 with ⟨e, g1, g2, g3, g4⟩ | ⟨e, k', g1, g2⟩
        · subst e
          have n10 : N0 10 0 = p := (f1 _ _ (by omega)).trans b1
          obtain ⟨r, M1, c1, dd, Mx, c2, c3⟩ := w_58l (h := ((146 + 2 * n : Nat) : Int)) hp40 g4 g1 m120 g2 n10 (fun q hq => by
            have := b2 q hq
            rw [f1 _ _ (by omega)]
            omega) (w_T (M (147 + 2 * n)) m 7).toNat 0 N0 (by omega) (w_kp_rf _ _) n10
          have c1' : E_V 58 28 [162, ((146 + 2 * n : Nat) : Int), 9, (p : Int), 0] N0 = some (r, M1) := c1
          refine ⟨r, M1, h_104y k1 k2 hx1 (h_58b k3 n10 c1'), Or.inr ⟨q, M (147 + 2 * n), m, p, N0, by rw [hn], by rw [hn, e5, hm], m120, b1, f1, ?_, Or.inr ⟨g1, g2, g3, g4, dd, Mx, c2, c3⟩⟩⟩
          rcases c3 with ⟨-, z, -⟩ | ⟨-, -, -, z⟩
          · rw [z, (h_run_kp dd 0 N0 Mx c2).2.2.2.2.1 _ _ (by omega) (by omega) (by omega)]
            exact f2
          · rw [z.2.2.2.2 _ _ (by omega) (by omega) (by omega)]
            exact f2
        · subst e
          have w1 : e_w (-1000 - (k' : Int)) = -1000 - (k' : Int) := by
            have := g2.2.1
            clear k1 k2 k3 hB hS hJ f1 f2 b1 b2 hm hsn hsn1 q a e5 sz hp g1 g2
            exact a_w_id (by omega) (by omega)
          exact ⟨_, N0, h_104y k1 k2 hx1 (h_58a k3 g1 w1), Or.inr ⟨q, M (147 + 2 * n), m, p, N0, by rw [hn], by rw [hn, e5, hm], m120, b1, f1, f2, Or.inl ⟨k', g2, rfl, rfl⟩⟩⟩
    · exact ⟨_, M, h_104n k1 k2 q, Or.inl ⟨q, rfl, rfl⟩⟩
  · obtain ⟨k1, k2, k3⟩ := h_ref1 (w := 0) (M := M) hd
    exact ⟨-1, M, h_104n k1 k2 (by decide), Or.inl ⟨by rw [k3]; decide, k3.symm, rfl⟩⟩
