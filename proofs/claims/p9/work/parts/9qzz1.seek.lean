/-! seek: the reference, and the pair -/
section RXK
variable {M M1 M2 : EM} {p n r1 r2 b : Int} {P : Int → Int}
theorem rx_33 {u r v sg : Int} {M : EM} (h27 : M 192 27 = u) (h28 : M 192 28 = sg) (hsg : sg = if r = 0 then 1 else -1) (hr : r = 0 ∨ r = 1) (hu : 0 ≤ u ∧ u ≤ 500) (hb : 1 ≤ b ∧ b ≤ 40) : ∃ M', E_V 215 33 [192, b, v] M = some (0, M') ∧ M' 192 27 = sk_u u r b ∧ M' 192 28 = (if sk_t u r b = 0 then 1 else -1) ∧ M' 192 30 = 1 ∧ M' 192 29 = v ∧ ∀ id k, ¬ (id = 192 ∧ 27 ≤ k ∧ k ≤ 30) → M' id k = M id k := by
  obtain ⟨n, hn⟩ : ∃ n, sk_n u r b = n := ⟨_, rfl⟩
  obtain ⟨x, hx⟩ : ∃ x, b * sg = x := ⟨_, rfl⟩
  obtain ⟨sm, hsm⟩ : ∃ sm, -sg = sm := ⟨_, rfl⟩
  have hn' : -40 ≤ x ∧ x ≤ 40 ∧ u + x = n := by
    unfold sk_n at hn
    rcases hr with rfl | rfl
    · rw [if_pos rfl] at hsg hn
      rw [hsg, Int.mul_one] at hx
      omega
    · rw [if_neg (by decide)] at hsg hn
      rw [hsg] at hx
      omega
  have hs : sm = (if 1 - r = 0 then 1 else -1) := by
    rcases hr with rfl | rfl
    · rw [if_pos rfl] at hsg
      rw [if_neg (by decide)]
      omega
    · rw [if_neg (by decide)] at hsg
      rw [if_pos (by decide)]
      omega
  have ws : e_w sm = sm := by
    rcases hr with rfl | rfl
    · rw [if_pos rfl] at hsg
      exact a_w_id (by omega) (by omega)
    · rw [if_neg (by decide)] at hsg
      exact a_w_id (by omega) (by omega)
  have wx : e_w (b * sg) = x := by rw [hx]; exact a_w_id (by omega) (by omega)
  have wn : e_w (u + x) = n := by rw [hn'.2.2]; exact a_w_id (by omega) (by omega)
  have wm : e_w (-sg) = sm := by rw [hsm]; exact ws
  unfold sk_u sk_t
  rw [hn]
  rcases Int.lt_or_le n 0 with c | c
  · have c0 : ¬ 0 ≤ n := by omega
    rw [if_pos c, if_pos (Or.inl c)]
    refine ⟨e_up (e_up (e_up (e_up (e_up M 192 30 1) 192 29 v) 192 27 n) 192 27 0) 192 28 sm, ?_, by simp [c_up_s, r_ff], by rw [c_up_s]; exact hs, by simp [c_up_s, r_ff], by simp [c_up_s, r_ff], fun id k h => by rw [c_up_n (by omega), c_up_n (by omega), c_up_n (by omega), c_up_n (by omega), c_up_n (by omega)]⟩
    clear hsg hs hn hx hsm
    rw [E_V_eq]
    show e_tv E_C (E_V 215) e_t215_33 [192, b, v] M = _
    unfold e_t215_33
    simp [e_tv, e_ev, e_sv, e_b1, e_b2, x_o1, x_o2, r_F9, r_F10, r_F13, r_F14, r_F15, r_F16, r_F17, r_F18, r_F20, r_F21, r_F22, r_F23, r_F24, r_F27, r_F28, r_F29, r_F30, r_F33, r_F34, r_F35, r_P9, r_P10, r_P13, r_P14, r_P15, r_P16, r_P17, r_P18, r_P20, r_P21, r_P22, r_P23, r_P24, r_P27, r_P28, r_P29, r_P30, r_P33, r_P34, r_P35, r_O0, r_O1, r_O2, r_O3, r_O4, r_O5, r_O6, r_O7, r_O8, r_O11, r_O12, r_O19, r_O25, r_O26, r_O31, r_O32, r_O36, r_O37, r_O38, r_O39, r_ff, c_up_s, h27, h28, wx, wn, wm, c, c0]
  · rcases Int.lt_or_le 500 n with d | d
    · have c0 : ¬ n < 0 := by omega
      have d0 : ¬ n ≤ 500 := by omega
      rw [if_neg (by omega), if_pos d, if_pos (Or.inr d)]
      refine ⟨e_up (e_up (e_up (e_up (e_up M 192 30 1) 192 29 v) 192 27 n) 192 27 500) 192 28 sm, ?_, by simp [c_up_s, r_ff], by rw [c_up_s]; exact hs, by simp [c_up_s, r_ff], by simp [c_up_s, r_ff], fun id k h => by rw [c_up_n (by omega), c_up_n (by omega), c_up_n (by omega), c_up_n (by omega), c_up_n (by omega)]⟩
      clear hsg hs hn hx hsm
      rw [E_V_eq]
      show e_tv E_C (E_V 215) e_t215_33 [192, b, v] M = _
      unfold e_t215_33
      simp [e_tv, e_ev, e_sv, e_b1, e_b2, x_o1, x_o2, r_F9, r_F10, r_F13, r_F14, r_F15, r_F16, r_F17, r_F18, r_F20, r_F21, r_F22, r_F23, r_F24, r_F27, r_F28, r_F29, r_F30, r_F33, r_F34, r_F35, r_P9, r_P10, r_P13, r_P14, r_P15, r_P16, r_P17, r_P18, r_P20, r_P21, r_P22, r_P23, r_P24, r_P27, r_P28, r_P29, r_P30, r_P33, r_P34, r_P35, r_O0, r_O1, r_O2, r_O3, r_O4, r_O5, r_O6, r_O7, r_O8, r_O11, r_O12, r_O19, r_O25, r_O26, r_O31, r_O32, r_O36, r_O37, r_O38, r_O39, r_ff, c_up_s, h27, h28, wx, wn, wm, c, c0, d0]
    · have en : (if n < 0 ∨ 500 < n then 1 - r else r) = r := if_neg (by omega)
      rw [en, if_neg (by omega), if_neg (by omega)]
      refine ⟨e_up (e_up (e_up M 192 30 1) 192 29 v) 192 27 n, ?_, by simp [c_up_s, r_ff], by rw [r_ff (by decide), r_ff (by decide), r_ff (by decide), h28]; exact hsg, by simp [c_up_s, r_ff], by simp [c_up_s, r_ff], fun id k h => by rw [c_up_n (by omega), c_up_n (by omega), c_up_n (by omega)]⟩
      clear hsg hs hn hx hsm
      rw [E_V_eq]
      show e_tv E_C (E_V 215) e_t215_33 [192, b, v] M = _
      unfold e_t215_33
      simp [e_tv, e_ev, e_sv, e_b1, e_b2, x_o1, x_o2, r_F9, r_F10, r_F13, r_F14, r_F15, r_F16, r_F17, r_F18, r_F20, r_F21, r_F22, r_F23, r_F24, r_F27, r_F28, r_F29, r_F30, r_F33, r_F34, r_F35, r_P9, r_P10, r_P13, r_P14, r_P15, r_P16, r_P17, r_P18, r_P20, r_P21, r_P22, r_P23, r_P24, r_P27, r_P28, r_P29, r_P30, r_P33, r_P34, r_P35, r_O0, r_O1, r_O2, r_O3, r_O4, r_O5, r_O6, r_O7, r_O8, r_O11, r_O12, r_O19, r_O25, r_O26, r_O31, r_O32, r_O36, r_O37, r_O38, r_O39, r_ff, c_up_s, h27, h28, wx, wn, c, d]
theorem rx_211 {u z : Int} {M : EM} (hu : 0 ≤ u ∧ u ≤ 500) (h205 : M 205 u.toNat = z) (hz : 0 ≤ z ∧ z ≤ 1000) : E_C 211 [192, u] M = some (u * z, M) := by
  have l1 : e_op 60 [205, u] M = some z := (r_rd5 (by omega) (by omega)).trans (by rw [h205])
  have pw := (bx_pw (u := u) (z := z) ⟨by omega, by omega⟩ hz).1
  have c : ¬ 500 < u := by omega
  rw [r_ent (show e_rok 211 [192, u] = true from decide_eq_true r_ref)]
  show e_tv E_C (E_V 211) e_t211_0 [192, u] M = _
  unfold e_t211_0
  simp [e_tv, e_ev, e_sv, e_b1, e_b2, x_o1, x_o2, r_O25, l1, pw, c]
theorem rx_215 {z : Int × Int × Int × Int} {S : Int} {M : EM} (hz : sk_ok z) (hb : 1 ≤ b ∧ b ≤ 40) (hR : sk_R M z) (h205 : M 205 z.1.toNat = S) (hS : 0 ≤ S ∧ S ≤ 1000) (hP : P z.1 = z.1 * S) : ∃ M', E_C 215 [192, b] M = some (0, M') ∧ sk_R M' (sk_s P b z) ∧ ∀ id k, ¬ (id = 192 ∧ 27 ≤ k ∧ k ≤ 30) → M' id k = M id k := by
  have kp := rx_211 hz.1 h205 hS
  rw [← hP] at kp
  obtain ⟨hu, hr, hst⟩ := hz
  obtain ⟨h27, h28, h30, h29⟩ := hR
  unfold sk_s
  obtain ⟨u, r, st, l⟩ := z
  dsimp only at *
  clear hP h205
  revert kp
  generalize hv : P u = v
  intro kp
  obtain ⟨sg, hsg⟩ : ∃ sg, M 192 28 = sg := ⟨_, rfl⟩
  have e28 : sg = if r = 0 then 1 else -1 := by rw [← hsg, h28]
  by_cases c : st = 1 ∧ v < l
  · have ez : sk_z P u r st l = 1 - r := by
      unfold sk_z
      rw [hv]
      exact if_pos c
    rw [ez]
    obtain ⟨c1, c2⟩ := c
    subst c1
    have h29' := h29 rfl
    obtain ⟨sm, hsm⟩ : ∃ sm, -sg = sm := ⟨_, rfl⟩
    have hs : sm = (if 1 - r = 0 then 1 else -1) := by
      rcases hr with rfl | rfl
      · rw [if_pos rfl] at e28
        rw [if_neg (by decide)]
        omega
      · rw [if_neg (by decide)] at e28
        rw [if_pos (by decide)]
        omega
    have wm : e_w (-sg) = sm := by
      rw [hsm]
      rcases hr with rfl | rfl
      · rw [if_pos rfl] at e28
        exact a_w_id (by omega) (by omega)
      · rw [if_neg (by decide)] at e28
        exact a_w_id (by omega) (by omega)
    obtain ⟨M', k, a0, a1, a2, a3, a4⟩ := rx_33 (b := b) (v := v) (M := e_up M 192 28 sm) (r := 1 - r) ((r_ff (by decide)).trans h27) c_up_s hs (by omega) hu hb
    refine ⟨M', ?_, ⟨a0, a1, a2, fun _ => a3⟩, fun id k h => (a4 id k h).trans (c_up_n (by omega))⟩
    clear hs hsm e28 h28
    rw [r_ent (show e_rok 215 [192, b] = true from decide_eq_true r_ref)]
    show e_tv E_C (E_V 215) e_t215_0 [192, b, 0] M = _
    unfold e_t215_0
    simp [e_tv, e_ev, e_sv, e_b1, e_b2, x_o1, x_o2, r_F9, r_F10, r_F13, r_F14, r_F15, r_F16, r_F17, r_F18, r_F20, r_F21, r_F22, r_F23, r_F24, r_F27, r_F28, r_F29, r_F30, r_F33, r_F34, r_F35, r_P9, r_P10, r_P13, r_P14, r_P15, r_P16, r_P17, r_P18, r_P20, r_P21, r_P22, r_P23, r_P24, r_P27, r_P28, r_P29, r_P30, r_P33, r_P34, r_P35, r_O0, r_O1, r_O2, r_O3, r_O4, r_O5, r_O6, r_O7, r_O8, r_O11, r_O12, r_O19, r_O25, r_O26, r_O31, r_O32, r_O36, r_O37, r_O38, r_O39, h27, hsg, h29', h30, kp, c2, wm, k]
  · have ez : sk_z P u r st l = r := by
      unfold sk_z
      rw [hv]
      exact if_neg c
    rw [ez]
    obtain ⟨M', k, a0, a1, a2, a3, a4⟩ := rx_33 (v := v) h27 hsg e28 hr hu hb
    refine ⟨M', ?_, ⟨a0, a1, a2, fun _ => a3⟩, a4⟩
    clear e28 h28
    rcases hst with rfl | rfl
    · rw [r_ent (show e_rok 215 [192, b] = true from decide_eq_true r_ref)]
      show e_tv E_C (E_V 215) e_t215_0 [192, b, 0] M = _
      unfold e_t215_0
      simp [e_tv, e_ev, e_sv, e_b1, e_b2, x_o1, x_o2, r_F9, r_F10, r_F13, r_F14, r_F15, r_F16, r_F17, r_F18, r_F20, r_F21, r_F22, r_F23, r_F24, r_F27, r_F28, r_F29, r_F30, r_F33, r_F34, r_F35, r_P9, r_P10, r_P13, r_P14, r_P15, r_P16, r_P17, r_P18, r_P20, r_P21, r_P22, r_P23, r_P24, r_P27, r_P28, r_P29, r_P30, r_P33, r_P34, r_P35, r_O0, r_O1, r_O2, r_O3, r_O4, r_O5, r_O6, r_O7, r_O8, r_O11, r_O12, r_O19, r_O25, r_O26, r_O31, r_O32, r_O36, r_O37, r_O38, r_O39, h27, h30, kp, k]
    · have h29' := h29 rfl
      have c2 : ¬ v < l := fun e => c ⟨rfl, e⟩
      have c3 : l ≤ v := by omega
      rw [r_ent (show e_rok 215 [192, b] = true from decide_eq_true r_ref)]
      show e_tv E_C (E_V 215) e_t215_0 [192, b, 0] M = _
      unfold e_t215_0
      simp [e_tv, e_ev, e_sv, e_b1, e_b2, x_o1, x_o2, r_F9, r_F10, r_F13, r_F14, r_F15, r_F16, r_F17, r_F18, r_F20, r_F21, r_F22, r_F23, r_F24, r_F27, r_F28, r_F29, r_F30, r_F33, r_F34, r_F35, r_P9, r_P10, r_P13, r_P14, r_P15, r_P16, r_P17, r_P18, r_P20, r_P21, r_P22, r_P23, r_P24, r_P27, r_P28, r_P29, r_P30, r_P33, r_P34, r_P35, r_O0, r_O1, r_O2, r_O3, r_O4, r_O5, r_O6, r_O7, r_O8, r_O11, r_O12, r_O19, r_O25, r_O26, r_O31, r_O32, r_O36, r_O37, r_O38, r_O39, h27, h29', h30, kp, c2, c3, k]
/-- the reference: steps -/
theorem rx_104 (hp : 0 ≤ p ∧ p < 40) {S : Int → Int} (hb : 1 ≤ b ∧ b ≤ 40) (hS : ∀ u, 0 ≤ u ∧ u ≤ 500 → 0 ≤ S u ∧ S u ≤ 1000) (hn : n ≤ 100) : ∀ (d : Nat) (x4 : Int) (z : Int × Int × Int × Int) (M : EM), sk_ok z → sk_R M z → r_G M (28 * p + 4 + 1) = b → (∀ u : Nat, u ≤ 500 → M 205 u = S (u : Int)) → n - x4 = d → 0 ≤ x4 → ∃ N, E_V 216 104 [192, p, n, 28 * p + 4, x4] M = some ((sk_i (fun u => u * S u) b d z).1, e_up (e_up (e_up (e_up N 193 (28 * p + 4).toNat (N 192 27)) 193 (28 * p + 4 + 2).toNat (N 192 28)) 193 (28 * p + 4 + 3).toNat 1) 193 (28 * p + 4 + 4).toNat (N 192 29)) ∧ sk_R N (sk_i (fun u => u * S u) b d z) ∧ ∀ id k, ¬ (id = 192 ∧ 27 ≤ k ∧ k ≤ 30) → N id k = M id k := by
  intro d
  induction d with
  | zero =>
    intro x4 z M hz hR hg h205 hd h0
    refine ⟨M, ?_, hR, fun _ _ _ => rfl⟩
    show _ = some (z.1, _)
    have q : ¬ x4 < n := by omega
    obtain ⟨c0, -⟩ := hR
    have w2 : e_w (28 * p + 4 + 2) = 28 * p + 4 + 2 := a_w_id (by omega) (by omega)
    have w3 : e_w (28 * p + 4 + 3) = 28 * p + 4 + 3 := a_w_id (by omega) (by omega)
    have w4 : e_w (28 * p + 4 + 4) = 28 * p + 4 + 4 := a_w_id (by omega) (by omega)
    have s0 := fun v M => r_stw (i := 28 * p + 4) (v := v) (M := M) (by omega) (by omega)
    have s2 := fun v M => r_stw (i := 28 * p + 4 + 2) (v := v) (M := M) (by omega) (by omega)
    have s3 := fun v M => r_stw (i := 28 * p + 4 + 3) (v := v) (M := M) (by omega) (by omega)
    have s4 := fun v M => r_stw (i := 28 * p + 4 + 4) (v := v) (M := M) (by omega) (by omega)
    have n193 : ∀ (M : EM) (i v : Int) (k : Nat), (e_up M 193 i.toNat v) 192 k = M 192 k := fun M i v k => r_n193 (by decide)
    rw [← c0]
    clear h205 hS c0 hg hz
    rw [E_V_eq]
    show e_tv E_C (E_V 216) e_t216_104 [192, p, n, 28 * p + 4, x4] M = _
    unfold e_t216_104
    simp [e_tv, e_ev, e_sv, e_b1, e_b2, x_o1, x_o2, r_F9, r_F10, r_F13, r_F14, r_F15, r_F16, r_F17, r_F18, r_F20, r_F21, r_F22, r_F23, r_F24, r_F27, r_F28, r_F29, r_F30, r_F33, r_F34, r_F35, r_P9, r_P10, r_P13, r_P14, r_P15, r_P16, r_P17, r_P18, r_P20, r_P21, r_P22, r_P23, r_P24, r_P27, r_P28, r_P29, r_P30, r_P33, r_P34, r_P35, r_O0, r_O1, r_O2, r_O3, r_O4, r_O5, r_O6, r_O7, r_O8, r_O11, r_O12, r_O19, r_O25, r_O26, r_O31, r_O32, r_O36, r_O37, r_O38, r_O39, q, w2, w3, w4, s0, s2, s3, s4, n193]
  | succ d ih =>
    intro x4 z M hz hR hg h205 hd h0
    have q : x4 < n := by omega
    have w : e_w (x4 + 1) = x4 + 1 := a_w_id (by omega) (by omega)
    have w1 : e_w (28 * p + 4 + 1) = 28 * p + 4 + 1 := a_w_id (by omega) (by omega)
    have l1 : e_op 60 [193, 28 * p + 4 + 1] M = some b := (r_rd (by omega) (by omega)).trans (by rw [hg])
    obtain ⟨uu, huu⟩ : ∃ uu : Nat, z.1 = uu := ⟨z.1.toNat, by have := hz.1; omega⟩
    have e205 : M 205 z.1.toNat = S z.1 := by
      have := hz.1
      rw [show z.1.toNat = uu by omega, h205 uu (by omega), huu]
    obtain ⟨M1, k1, t1, t2⟩ := rx_215 (P := fun u => u * S u) hz hb hR e205 (hS z.1 hz.1) rfl
    obtain ⟨N, k, m1, m2⟩ := ih (x4 + 1) (sk_s (fun u => u * S u) b z) M1 (sk_ok_s hz) t1 ((t2 193 (28 * p + 4 + 1).toNat (by omega)).trans hg) (fun u hu => (t2 _ _ (by omega)).trans (h205 u hu)) (by omega) (by omega)
    refine ⟨N, ?_, m1, fun id k h => (m2 id k h).trans (t2 id k h)⟩
    show _ = some ((sk_i (fun u => u * S u) b d (sk_s (fun u => u * S u) b z)).1, _)
    rw [← k]
    clear h205 hS ih k m1 m2 e205 huu t1 t2 hg
    rw [E_V_eq]
    show e_tv E_C (E_V 216) e_t216_104 [192, p, n, 28 * p + 4, x4] M = _
    unfold e_t216_104
    simp [e_tv, e_ev, e_sv, e_b1, e_b2, x_o1, x_o2, r_O0, q, w, w1, l1, k1]
end RXK
