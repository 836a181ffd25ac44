/-! the reference's sells, exactly -/
def s_ax (v : Int → Int) : Nat → Int → Int → Int → Int
  | 0, _, a, _ => a
  | m + 1, acc, a, x => if acc < v x then s_ax v m (v x) x (x + 1) else s_ax v m acc a (x + 1)
theorem s_mx_ge (v : Int → Int) : ∀ (m : Nat) (acc x : Int), acc ≤ s_mx v m acc x := by
  intro m
  induction m with
  | zero => intro acc x; unfold s_mx; exact Int.le_refl _
  | succ m ih =>
    intro acc x
    unfold s_mx
    have := ih (if acc < v x then v x else acc) (x + 1)
    rcases x_lt acc (v x) with ⟨c, c_n⟩ | ⟨c, c_n⟩
    · rw [if_pos c] at this ⊢; omega
    · rw [if_neg c] at this ⊢; exact this
theorem s_mx_att (v : Int → Int) : ∀ (m : Nat) (acc x : Int), s_mx v m acc x = acc ∨ ∃ j : Nat, j < m ∧ v (x + j) = s_mx v m acc x := by
  intro m
  induction m with
  | zero => intro acc x; exact Or.inl rfl
  | succ m ih =>
    intro acc x
    unfold s_mx
    rcases ih (if acc < v x then v x else acc) (x + 1) with h | ⟨j, hj, h⟩
    · rcases x_lt acc (v x) with ⟨c, c_n⟩ | ⟨c, c_n⟩
      · rw [if_pos c] at h ⊢
        refine Or.inr ⟨0, by omega, ?_⟩
        rw [h]
        simp
      · rw [if_neg c] at h ⊢
        exact Or.inl h
    · refine Or.inr ⟨j + 1, by omega, ?_⟩
      rw [← h]
      congr 1
      omega
theorem s_ax_eq (v : Int → Int) : ∀ (m : Nat) (acc a x : Int), s_ax v m acc a x = if s_mx v m acc x = acc then a else s_fx v (s_mx v m acc x) m x := by
  intro m
  induction m with
  | zero =>
    intro acc a x
    unfold s_ax s_mx
    rw [if_pos rfl]
  | succ m ih =>
    intro acc a x
    unfold s_ax s_mx s_fx
    rcases x_lt acc (v x) with ⟨c, c_n⟩ | ⟨c, c_n⟩
    · have hg := s_mx_ge v m (v x) (x + 1)
      rw [if_pos c, if_pos c, ih, if_neg (show ¬ s_mx v m (v x) (x + 1) = acc by omega)]
      by_cases d : s_mx v m (v x) (x + 1) = v x
      · rw [if_pos d, if_pos d.symm]
      · rw [if_neg d, if_neg (fun e => d e.symm)]
    · have hg := s_mx_ge v m acc (x + 1)
      rw [if_neg c, if_neg c, ih]
      by_cases d : s_mx v m acc (x + 1) = acc
      · rw [if_pos d, if_pos d]
      · rw [if_neg d, if_neg d, if_neg (show ¬ v x = s_mx v m acc (x + 1) by omega)]
theorem s_fx_att (v : Int → Int) (t : Int) : ∀ (m : Nat) (x : Int), (∃ j : Nat, j ≤ m ∧ v (x + j) = t) → s_fx v t (m + 1) x = s_fx v t m x := by
  intro m
  induction m with
  | zero =>
    intro x h
    obtain ⟨j, hj, e⟩ := h
    have j0 : j = 0 := by omega
    subst j0
    unfold s_fx
    rw [if_pos (by simpa using e)]
  | succ m ih =>
    intro x h
    obtain ⟨j, hj, e⟩ := h
    have r : s_fx v t (m + 1) x = (if v x = t then x else s_fx v t m (x + 1)) := rfl
    have l : s_fx v t (m + 1 + 1) x = (if v x = t then x else s_fx v t (m + 1) (x + 1)) := rfl
    rw [r, l]
    by_cases c : v x = t
    · rw [if_pos c, if_pos c]
    · rw [if_neg c, if_neg c]
      refine ih (x + 1) ?_
      cases j with
      | zero => exact absurd (by simpa using e) c
      | succ j => exact ⟨j, by omega, by rw [← e]; congr 1; omega⟩
theorem s_mx_0 (v : Int → Int) {m : Nat} {x : Int} (h : 0 ≤ v x) : s_mx v (m + 1) (-1) x = s_mx v (m + 1) 0 x := by
  unfold s_mx
  rw [if_pos (by omega)]
  rcases x_lt 0 (v x) with ⟨c, c_n⟩ | ⟨c, c_n⟩
  · rw [if_pos c]
  · rw [if_neg c, show v x = 0 by omega]
theorem s_ax_0 (v : Int → Int) {m : Nat} {x a : Int} (h : 0 ≤ v x) : s_ax v (m + 1) (-1) a x = s_fx v (s_mx v (m + 1) 0 x) m x := by
  have hg := s_mx_ge v (m + 1) 0 x
  rw [s_ax_eq, s_mx_0 v h, if_neg (by omega)]
  refine s_fx_att v _ m x ?_
  rcases s_mx_att v (m + 1) (-1) x with h1 | ⟨j, hj, e⟩
  · rw [s_mx_0 v h] at h1
    omega
  · rw [s_mx_0 v h] at e
    exact ⟨j, by omega, e⟩
theorem s_mx_le (v : Int → Int) {B : Int} : ∀ (m : Nat) (acc x : Int), acc ≤ B → (∀ j : Nat, j < m → v (x + j) ≤ B) → s_mx v m acc x ≤ B := by
  intro m
  induction m with
  | zero => intro acc x h _; exact h
  | succ m ih =>
    intro acc x h hv
    unfold s_mx
    refine ih _ _ ?_ (fun j hj => ?_)
    · split
      · have := hv 0 (by omega)
        simpa using this
      · exact h
    · have := hv (j + 1) (by omega)
      rw [show x + 1 + (j : Int) = x + ((j + 1 : Nat) : Int) by omega]
      exact this
/-- bounds of the trade's rows -/
def s_ok (c p : Int → Int) (R : Int) : Prop := (0 ≤ R ∧ R ≤ 30) ∧ (∀ h, 0 ≤ h → h ≤ 11 → 0 ≤ c h ∧ c h ≤ 20) ∧ ∀ h, 0 ≤ h → h ≤ 11 → 0 ≤ p h ∧ p h ≤ 99
theorem s_v {c p : Int → Int} {R : Int} (hk : s_ok c p R) {d : Nat} (hd : d < 12) (ih : ∀ s, 0 ≤ s → s ≤ R → 0 ≤ s_T c p R d s ∧ s_T c p R d s ≤ 5000 * d) {s x : Int} (hs : 0 ≤ s ∧ s ≤ R) (hx : p_slo R (s + c (11 - d)) ≤ x ∧ x ≤ s + c (11 - d)) : 0 ≤ e_w (e_w (x * p (11 - d)) + s_T c p R d (s + c (11 - d) - x)) ∧ e_w (e_w (x * p (11 - d)) + s_T c p R d (s + c (11 - d) - x)) ≤ 5000 * (d + 1) := by
  obtain ⟨k1, k2, k3⟩ := hk
  have c1 := k2 (11 - d) (by omega) (by omega)
  have p1 := k3 (11 - d) (by omega) (by omega)
  have hl : 0 ≤ x ∧ s + c (11 - d) - x ≤ R := by
    have := hx.1
    unfold p_slo at this
    split at this <;> omega
  have t1 := ih (s + c (11 - d) - x) (by omega) hl.2
  have hm : 0 ≤ x * p (11 - d) ∧ x * p (11 - d) ≤ 50 * 99 := ⟨Int.mul_nonneg hl.1 p1.1, Int.mul_le_mul (by omega) p1.2 p1.1 (by decide)⟩
  have w1 : e_w (x * p (11 - d)) = x * p (11 - d) := a_w_id (by omega) (by omega)
  rw [w1, a_w_id (by omega) (by omega)]
  omega
theorem s_T_bd {c p : Int → Int} {R : Int} (hk : s_ok c p R) : ∀ (d : Nat), d ≤ 12 → ∀ s, 0 ≤ s → s ≤ R → 0 ≤ s_T c p R d s ∧ s_T c p R d s ≤ 5000 * d := by
  intro d
  induction d with
  | zero => intro _ s _ _; exact ⟨Int.le_refl _, Int.le_refl _⟩
  | succ d ih =>
    intro hd s s0 s1
    have ih' := ih (by omega)
    have c1 := hk.2.1 (11 - d) (by omega) (by omega)
    have b := hk.1
    have e : s_T c p R (d + 1) s = s_mx (fun x => e_w (e_w (x * p (11 - d)) + s_T c p R d (s + c (11 - d) - x))) (s + c (11 - d) - p_slo R (s + c (11 - d)) + 1).toNat 0 (p_slo R (s + c (11 - d))) := rfl
    rw [e]
    refine ⟨s_mx_ge _ _ _ _, s_mx_le _ _ _ _ (by omega) (fun j hj => ?_)⟩
    have := (s_v hk (by omega) ih' ⟨s0, s1⟩ (x := p_slo R (s + c (11 - d)) + j) ⟨by omega, by omega⟩).2
    omega
def t_c (M : EM) (h : Int) : Int := r_G M (1174 + 2 * h)
def t_p (M : EM) (h : Int) : Int := r_G M (1174 + 2 * h + 1)
def t_ok (M : EM) : Prop := s_ok (t_c M) (t_p M) (r_G M 1199)
def t_rp (M0 M : EM) (h s : Int) : Prop := (∀ id k, id ≠ 210 → id ≠ 211 → M id k = M0 id k) ∧ ∀ h' s', 0 ≤ s' → s' ≤ r_G M0 1199 → h' ≤ 12 → 0 ≤ h' → (h < h' ∨ (h' = h ∧ s' < s)) → M 210 (31 * h' + s').toNat = s_T (t_c M0) (t_p M0) (r_G M0 1199) (12 - h').toNat s' ∧ (h' ≤ 11 → M 211 (31 * h' + s').toNat = s_A (t_c M0) (t_p M0) (r_G M0 1199) h' s')
theorem t_up {M0 M : EM} {h s v : Int} {a : Nat} (ha : a = 210 ∨ a = 211) (hk : t_ok M0) (h0 : 0 ≤ h ∧ h ≤ 12) (s0 : 0 ≤ s ∧ s ≤ r_G M0 1199) (hp : t_rp M0 M h s) : t_rp M0 (e_up M a (31 * h + s).toNat v) h s := by
  have b := hk.1
  obtain ⟨f1, f2⟩ := hp
  refine ⟨fun id k n1 n2 => (c_up_n (fun e => by omega)).trans (f1 id k n1 n2), fun h' s' p0 p1 p2 p3 p4 => ?_⟩
  obtain ⟨g1, g2⟩ := f2 h' s' p0 p1 p2 p3 p4
  have ne : ∀ z, (e_up M a (31 * h + s).toNat v) z (31 * h' + s').toNat = M z (31 * h' + s').toNat := fun z => c_up_n (fun e => by omega)
  rw [ne, ne]
  exact ⟨g1, g2⟩
theorem t_92 {M0 : EM} (hk : t_ok M0) {h s hi : Int} (h0 : 0 ≤ h ∧ h ≤ 11) (s0 : 0 ≤ s ∧ s ≤ r_G M0 1199) (ehi : hi = s + t_c M0 h) : ∀ (m : Nat) (x4 x5 x6 : Int) (M : EM), (hi - x5 + 1).toNat = m → x5 ≤ hi + 1 → p_slo (r_G M0 1199) hi ≤ x5 → t_rp M0 M h s →
    ∃ y4 y5 y6 M1, E_V 243 92 [192, h, s, hi, x4, x5, x6] M = E_V 243 34 [192, h, s + 1, hi, y4, y5, y6] M1 ∧ t_rp M0 M1 h s ∧ M1 210 (31 * h + s).toNat = s_mx (fun x => e_w (e_w (x * t_p M0 h) + s_T (t_c M0) (t_p M0) (r_G M0 1199) (11 - h).toNat (hi - x))) m x4 x5 ∧ M1 211 (31 * h + s).toNat = s_ax (fun x => e_w (e_w (x * t_p M0 h) + s_T (t_c M0) (t_p M0) (r_G M0 1199) (11 - h).toNat (hi - x))) m x4 (M 211 (31 * h + s).toNat) x5 := by
  have b1 := hk.1
  have bc := hk.2.1 h h0.1 h0.2
  have w7 : e_w (31 * h) = 31 * h := a_w_id (by omega) (by omega)
  have w8 : e_w (31 * h + s) = 31 * h + s := a_w_id (by omega) (by omega)
  have w9 : e_w (s + 1) = s + 1 := a_w_id (by omega) (by omega)
  intro m
  induction m with
  | zero =>
    intro x4 x5 x6 M hm h5 hl hp
    have q : ¬ (x5 ≤ hi) := by omega
    have q_n : hi < x5 := by omega
    have st := r_st10 (i := 31 * h + s) (v := x4) (M := M) (by omega) (by omega)
    refine ⟨x4, x5, x6, e_up M 210 (31 * h + s).toNat x4, ?_, t_up (Or.inl rfl) hk ⟨h0.1, by omega⟩ s0 hp, c_up_s, c_up_n (fun e => absurd e.1 (by decide))⟩
    rw [E_V_eq]
    show e_tv E_C (E_V 243) e_t243_92 [192, h, s, hi, x4, x5, x6] M = _
    unfold e_t243_92
    simp [e_tv, e_ev, e_sv, e_b1, e_b2, x_o1, x_o2, r_O37, q, q_n, w7, w8, w9, st]
  | succ m ih =>
    intro x4 x5 x6 M hm h5 hl hp
    have q : x5 ≤ hi := by omega
    have q_n : ¬ (hi < x5) := by omega
    have hl2 : hi - x5 ≤ r_G M0 1199 ∧ 0 ≤ x5 := by
      unfold p_slo at hl
      split at hl <;> omega
    have w1 : e_w (2 * h) = 2 * h := a_w_id (by omega) (by omega)
    have w2 : e_w (1174 + 2 * h) = 1174 + 2 * h := a_w_id (by omega) (by omega)
    have w3 : e_w (1174 + 2 * h + 1) = 1174 + 2 * h + 1 := a_w_id (by omega) (by omega)
    have w4 : e_w (h + 1) = h + 1 := a_w_id (by omega) (by omega)
    have w5 : e_w (31 * (h + 1)) = 31 * (h + 1) := a_w_id (by omega) (by omega)
    have w6 : e_w (31 * (h + 1) + hi) = 31 * (h + 1) + hi := a_w_id (by omega) (by omega)
    have wa : e_w (31 * (h + 1) + hi - x5) = 31 * (h + 1) + hi - x5 := a_w_id (by omega) (by omega)
    have wb : e_w (x5 + 1) = x5 + 1 := a_w_id (by omega) (by omega)
    have l3 : e_op 60 [193, 1174 + 2 * h + 1] M = some (t_p M0 h) := (r_rd (by omega) (by omega)).trans (congrArg some (hp.1 _ _ (by decide) (by decide)))
    have l4 := r_ld10 (i := 31 * (h + 1) + hi - x5) (M := M) (by omega) (by omega)
    have eg : M 210 (31 * (h + 1) + hi - x5).toNat = s_T (t_c M0) (t_p M0) (r_G M0 1199) (11 - h).toNat (hi - x5) := by
      have := (hp.2 (h + 1) (hi - x5) (by omega) hl2.1 (by omega) (by omega) (Or.inl (by omega))).1
      rw [show 31 * (h + 1) + (hi - x5) = 31 * (h + 1) + hi - x5 by omega, show (12 - (h + 1)).toNat = (11 - h).toNat by omega] at this
      exact this
    rw [eg] at l4
    have j161 : ∀ x4 x6 M, E_V 243 161 [192, h, s, hi, x4, x5, x6] M = E_V 243 92 [192, h, s, hi, x4, x5 + 1, x6] M := by
      intro x4 x6 M
      rw [E_V_eq]
      show e_tv E_C (E_V 243) e_t243_161 [192, h, s, hi, x4, x5, x6] M = _
      unfold e_t243_161
      simp [e_tv, e_ev, e_sv, e_b1, e_b2, x_o1, x_o2, wb]
    have st := fun v => r_st11 (i := 31 * h + s) (v := v) (M := M) (by omega) (by omega)
    unfold s_mx s_ax
    generalize ht : e_w (e_w (x5 * t_p M0 h) + s_T (t_c M0) (t_p M0) (r_G M0 1199) (11 - h).toNat (hi - x5)) = z
    rcases x_lt x4 z with ⟨c, c_n⟩ | ⟨c, c_n⟩
    · rw [if_pos c, if_pos c]
      obtain ⟨y4, y5, y6, M1, k, t1, t2, t3⟩ := ih z (x5 + 1) z (e_up M 211 (31 * h + s).toNat x5) (by omega) (by omega) (by omega) (t_up (Or.inr rfl) hk ⟨h0.1, by omega⟩ s0 hp)
      rw [c_up_s] at t3
      refine ⟨y4, y5, y6, M1, Eq.trans ?_ k, t1, t2, t3⟩
      rw [E_V_eq]
      show e_tv E_C (E_V 243) e_t243_92 [192, h, s, hi, x4, x5, x6] M = _
      unfold e_t243_92
      simp [e_tv, e_ev, e_sv, e_b1, e_b2, x_o1, x_o2, r_O0, r_O37, r_O38, q, w1, w2, w3, w4, w5, w6, wa, w7, w8, l3, l4, ht, c, c_n, st, j161]
    · rw [if_neg c, if_neg c]
      obtain ⟨y4, y5, y6, M1, k, t1, t2, t3⟩ := ih x4 (x5 + 1) z M (by omega) (by omega) (by omega) hp
      refine ⟨y4, y5, y6, M1, Eq.trans ?_ k, t1, t2, t3⟩
      rw [E_V_eq]
      show e_tv E_C (E_V 243) e_t243_92 [192, h, s, hi, x4, x5, x6] M = _
      unfold e_t243_92
      simp [e_tv, e_ev, e_sv, e_b1, e_b2, x_o1, x_o2, r_O0, r_O37, r_O38, q, w1, w2, w3, w4, w5, w6, wa, w7, w8, l3, l4, ht, c, c_n, j161]
theorem t_34 {M0 : EM} (hk : t_ok M0) {h : Int} (h0 : 0 ≤ h ∧ h ≤ 11) : ∀ (m : Nat) (s x3 x4 x5 x6 : Int) (M : EM), (r_G M0 1199 - s + 1).toNat = m → 0 ≤ s → s ≤ r_G M0 1199 + 1 → t_rp M0 M h s → ∃ y2 y3 y4 y5 y6 M1, E_V 243 34 [192, h, s, x3, x4, x5, x6] M = E_V 243 28 [192, h - 1, y2, y3, y4, y5, y6] M1 ∧ t_rp M0 M1 (h - 1) 0 := by
  have b1 := hk.1
  have bc := hk.2.1 h h0.1 h0.2
  intro m
  induction m with
  | zero =>
    intro s x3 x4 x5 x6 M hm s0 s1 hp
    have q : ¬ (s ≤ r_G M0 1199) := by omega
    have q_n : r_G M0 1199 < s := by omega
    have l1 : e_op 60 [193, 1199] M = some (r_G M0 1199) := (r_rd (by decide) (by decide)).trans (congrArg some (hp.1 _ _ (by decide) (by decide)))
    have w1 : e_w (h + -1) = h - 1 := a_w_id (by omega) (by omega)
    have w2 : e_w (h - 1) = h - 1 := a_w_id (by omega) (by omega)
    refine ⟨s, x3, x4, x5, x6, M, ?_, hp.1, fun h' s' p0 p1 p2 p3 p4 => hp.2 h' s' p0 p1 p2 p3 (by omega)⟩
    rw [E_V_eq]
    show e_tv E_C (E_V 243) e_t243_34 [192, h, s, x3, x4, x5, x6] M = _
    unfold e_t243_34
    simp [e_tv, e_ev, e_sv, e_b1, e_b2, x_o1, x_o2, r_O0, q, q_n, l1, w1, w2]
  | succ m ih =>
    intro s x3 x4 x5 x6 M hm s0 s1 hp
    have q : s ≤ r_G M0 1199 := by omega
    have q_n : ¬ (r_G M0 1199 < s) := by omega
    have l1 : e_op 60 [193, 1199] M = some (r_G M0 1199) := (r_rd (by decide) (by decide)).trans (congrArg some (hp.1 _ _ (by decide) (by decide)))
    have l2 : e_op 60 [193, 1174 + 2 * h] M = some (t_c M0 h) := (r_rd (by omega) (by omega)).trans (congrArg some (hp.1 _ _ (by decide) (by decide)))
    have w1 : e_w (2 * h) = 2 * h := a_w_id (by omega) (by omega)
    have w2 : e_w (1174 + 2 * h) = 1174 + 2 * h := a_w_id (by omega) (by omega)
    have w3 : e_w (s + t_c M0 h) = s + t_c M0 h := a_w_id (by omega) (by omega)
    have w4 : e_w (s + t_c M0 h - r_G M0 1199) = s + t_c M0 h - r_G M0 1199 := a_w_id (by omega) (by omega)
    have hlo : p_slo (r_G M0 1199) (s + t_c M0 h) ≤ s + t_c M0 h ∧ 0 ≤ p_slo (r_G M0 1199) (s + t_c M0 h) := by
      unfold p_slo
      split <;> omega
    obtain ⟨y4, y5, y6, M1, k, t1, t2, t3⟩ := t_92 hk h0 ⟨s0, q⟩ rfl _ (-1) (p_slo (r_G M0 1199) (s + t_c M0 h)) x6 M rfl (by omega) (Int.le_refl _) hp
    have hd : (12 - h).toNat = (11 - h).toNat + 1 := by omega
    have hd2 : (11 : Int) - ((11 - h).toNat : Int) = h := by omega
    have hn : (s + t_c M0 h - p_slo (r_G M0 1199) (s + t_c M0 h) + 1).toNat = (s + t_c M0 h - p_slo (r_G M0 1199) (s + t_c M0 h)).toNat + 1 := by omega
    have v0 := (s_v hk (d := (11 - h).toNat) (by omega) (s_T_bd hk _ (by omega)) ⟨s0, q⟩ (x := p_slo (r_G M0 1199) (s + t_c M0 h)) (by rw [hd2]; exact ⟨Int.le_refl _, hlo.1⟩)).1
    rw [hd2] at v0
    have eT : s_T (t_c M0) (t_p M0) (r_G M0 1199) (12 - h).toNat s = s_mx (fun x => e_w (e_w (x * t_p M0 h) + s_T (t_c M0) (t_p M0) (r_G M0 1199) (11 - h).toNat (s + t_c M0 h - x))) ((s + t_c M0 h - p_slo (r_G M0 1199) (s + t_c M0 h)).toNat + 1) 0 (p_slo (r_G M0 1199) (s + t_c M0 h)) := by
      rw [hd, ← hn]
      show s_mx _ _ _ _ = _
      rw [hd2]
    rw [hn] at t2 t3
    rw [s_mx_0 (fun x => e_w (e_w (x * t_p M0 h) + s_T (t_c M0) (t_p M0) (r_G M0 1199) (11 - h).toNat (s + t_c M0 h - x))) v0, ← eT] at t2
    rw [s_ax_0 (fun x => e_w (e_w (x * t_p M0 h) + s_T (t_c M0) (t_p M0) (r_G M0 1199) (11 - h).toNat (s + t_c M0 h - x))) v0, ← eT] at t3
    have hp1 : t_rp M0 M1 h (s + 1) := by
      refine ⟨t1.1, fun h' s' p0 p1 p2 p3 p4 => ?_⟩
      by_cases c : h' = h ∧ s' = s
      · rw [c.1, c.2]
        exact ⟨t2, fun _ => t3⟩
      · exact t1.2 h' s' p0 p1 p2 p3 (by omega)
    obtain ⟨z2, z3, z4, z5, z6, M2, k2, c2⟩ := ih (s + 1) (s + t_c M0 h) y4 y5 y6 M1 (by omega) (by omega) (by omega) hp1
    refine ⟨z2, z3, z4, z5, z6, M2, Eq.trans ?_ (k.trans k2), c2⟩
    unfold p_slo
    rcases x_lt (r_G M0 1199) (s + t_c M0 h) with ⟨c, c_n⟩ | ⟨c, c_n⟩
    · rw [if_pos (show 0 < s + t_c M0 h - r_G M0 1199 by omega)]
      rw [E_V_eq]
      show e_tv E_C (E_V 243) e_t243_34 [192, h, s, x3, x4, x5, x6] M = _
      unfold e_t243_34
      simp [e_tv, e_ev, e_sv, e_b1, e_b2, x_o1, x_o2, r_O0, q, q_n, l1, l2, w1, w2, w3, w4, c, c_n]
    · rw [if_neg (show ¬ 0 < s + t_c M0 h - r_G M0 1199 by omega)]
      rw [E_V_eq]
      show e_tv E_C (E_V 243) e_t243_34 [192, h, s, x3, x4, x5, x6] M = _
      unfold e_t243_34
      simp [e_tv, e_ev, e_sv, e_b1, e_b2, x_o1, x_o2, r_O0, q, q_n, l1, l2, w1, w2, w3, w4, c, c_n]
theorem t_28 {M0 : EM} (hk : t_ok M0) : ∀ (m : Nat) (h x2 x3 x4 x5 x6 : Int) (M : EM), (h + 1).toNat = m → -1 ≤ h → h ≤ 11 → t_rp M0 M h 0 → ∃ M1, E_V 243 28 [192, h, x2, x3, x4, x5, x6] M = some (0, M1) ∧ t_rp M0 M1 (-1) 0 := by
  intro m
  induction m with
  | zero =>
    intro h x2 x3 x4 x5 x6 M hm h0 h1 hp
    have e : h = -1 := by omega
    subst e
    refine ⟨M, ?_, hp⟩
    rw [E_V_eq]
    show e_tv E_C (E_V 243) e_t243_28 [192, -1, x2, x3, x4, x5, x6] M = _
    unfold e_t243_28
    simp [e_tv, e_ev, e_sv, e_b1, e_b2, x_o1, x_o2]
  | succ m ih =>
    intro h x2 x3 x4 x5 x6 M hm h0 h1 hp
    have q : 0 ≤ h := by omega
    have q_n : ¬ (h < 0) := by omega
    obtain ⟨y2, y3, y4, y5, y6, M1, k, c⟩ := t_34 hk ⟨q, h1⟩ _ 0 x3 x4 x5 x6 M rfl (Int.le_refl _) (by have := hk.1; omega) hp
    obtain ⟨M2, k2, c2⟩ := ih (h - 1) y2 y3 y4 y5 y6 M1 (by omega) (by omega) (by omega) c
    refine ⟨M2, Eq.trans ?_ (k.trans k2), c2⟩
    rw [E_V_eq]
    show e_tv E_C (E_V 243) e_t243_28 [192, h, x2, x3, x4, x5, x6] M = _
    unfold e_t243_28
    simp [e_tv, e_ev, e_sv, e_b1, e_b2, x_o1, x_o2, q, q_n]
theorem t_2 : ∀ (m : Nat) (i x2 x3 x4 x5 x6 : Int) (M : EM), (31 - i).toNat = m → 0 ≤ i → i ≤ 31 → (∀ j : Int, 0 ≤ j → j < i → M 210 (372 + j).toNat = 0) → ∃ M1, E_V 243 2 [192, i, x2, x3, x4, x5, x6] M = E_V 243 28 [192, 11, x2, x3, x4, x5, x6] M1 ∧ (∀ id k, id ≠ 210 → M1 id k = M id k) ∧ ∀ j : Int, 0 ≤ j → j < 31 → M1 210 (372 + j).toNat = 0 := by
  intro m
  induction m with
  | zero =>
    intro i x2 x3 x4 x5 x6 M hm h0 h1 hz
    have e : i = 31 := by omega
    subst e
    refine ⟨M, ?_, fun _ _ _ => rfl, hz⟩
    rw [E_V_eq]
    show e_tv E_C (E_V 243) e_t243_2 [192, 31, x2, x3, x4, x5, x6] M = _
    unfold e_t243_2
    simp [e_tv, e_ev, e_sv, e_b1, e_b2, x_o1, x_o2]
  | succ m ih =>
    intro i x2 x3 x4 x5 x6 M hm h0 h1 hz
    have q : i ≤ 30 := by omega
    have q_n : ¬ (30 < i) := by omega
    have w1 : e_w (372 + i) = 372 + i := a_w_id (by omega) (by omega)
    have w2 : e_w (i + 1) = i + 1 := a_w_id (by omega) (by omega)
    have st := r_st10 (i := 372 + i) (v := 0) (M := M) (by omega) (by omega)
    obtain ⟨M1, k, f, z⟩ := ih (i + 1) x2 x3 x4 x5 x6 (e_up M 210 (372 + i).toNat 0) (by omega) (by omega) (by omega) (fun j j0 j1 => by
      by_cases c : j = i
      · rw [c, c_up_s]
      · rw [c_up_n (fun e => by omega)]
        exact hz j j0 (by omega))
    refine ⟨M1, Eq.trans ?_ k, fun id j hne => (f id j hne).trans (c_up_n (fun e => hne e.1)), z⟩
    rw [E_V_eq]
    show e_tv E_C (E_V 243) e_t243_2 [192, i, x2, x3, x4, x5, x6] M = _
    unfold e_t243_2
    simp [e_tv, e_ev, e_sv, e_b1, e_b2, x_o1, x_o2, r_O37, q, q_n, w1, w2, st]
theorem t_find {M : EM} (hk : t_ok M) : ∃ M1, E_C 243 [192] M = some (0, M1) ∧ t_rp M M1 (-1) 0 := by
  obtain ⟨M1, k1, f1, z1⟩ := t_2 31 0 0 0 0 0 0 M rfl (Int.le_refl _) (by decide) (fun j j0 j1 => by omega)
  have hp : t_rp M M1 11 0 := by
    refine ⟨fun id k n1 _ => f1 id k n1, fun h' s' p0 p1 p2 p3 p4 => ?_⟩
    have e : h' = 12 := by omega
    subst e
    have b := hk.1
    exact ⟨z1 s' p0 (by omega), fun hh => absurd hh (by decide)⟩
  obtain ⟨M2, k2, c2⟩ := t_28 hk 12 11 0 0 0 0 0 M1 rfl (by decide) (by decide) hp
  refine ⟨M2, ?_, c2⟩
  rw [r_ent (show e_rok 243 [192] = true from decide_eq_true r_ref)]
  show e_tv E_C (E_V 243) e_t243_0 [192, 0, 0, 0, 0, 0, 0] M = _
  unfold e_t243_0
  simp [e_tv, e_ev, e_sv, e_b1, e_b2, x_o1, x_o2, k1, k2]
