/-! loss: what a CAUSE loses, by class and reference -/
def ls_n (m : Nat) : Nat := m % 2 + m / 2 % 2 + m / 4 % 2 + m / 8 % 2
def ls_k (m : Nat) : Int := if ls_n m = 0 ∨ ls_n m = 3 then 6 else 2
def ls_o (m c : Nat) : Nat := if wo_b m c = true then m else m + 2 ^ c
/-- sets below m, CAUSE c -/
def ls_s (W : Nat → Int) (c : Nat) : Nat → Int
  | 0 => 0
  | m + 1 => ls_s W c m + (if wo_b m c = true then 0 else ls_k m * (W (m + 2 ^ c) - W m))
theorem ls_s_bd {W : Nat → Int} {c : Nat} (hW : ∀ o, o < 16 → 0 ≤ W o ∧ W o ≤ 1000000) (hc : c < 4) : ∀ m : Nat, m ≤ 16 → -(6000000 * (m : Int)) ≤ ls_s W c m ∧ ls_s W c m ≤ 6000000 * (m : Int) := by
  intro m
  induction m with
  | zero => intro _; exact ⟨by show -(6000000 * (0 : Int)) ≤ 0; decide, by show (0 : Int) ≤ 6000000 * 0; decide⟩
  | succ m ih =>
    intro hm
    have a := ih (by omega)
    show -(6000000 * ((m + 1 : Nat) : Int)) ≤ ls_s W c m + (if wo_b m c = true then 0 else ls_k m * (W (m + 2 ^ c) - W m)) ∧ ls_s W c m + (if wo_b m c = true then 0 else ls_k m * (W (m + 2 ^ c) - W m)) ≤ 6000000 * ((m + 1 : Nat) : Int)
    by_cases b : wo_b m c = true
    · rw [if_pos b]; omega
    · rw [if_neg b]
      have lt : m + 2 ^ c < 16 := by
        have key : ∀ m : Nat, m < 16 → ∀ c : Nat, c < 4 → wo_b m c = true ∨ m + 2 ^ c < 16 := by decide +kernel
        exact (key m (by omega) c hc).resolve_left b
      have w1 := hW m (by omega)
      have w2 := hW (m + 2 ^ c) lt
      unfold ls_k
      by_cases q : ls_n m = 0 ∨ ls_n m = 3
      · rw [if_pos q]; omega
      · rw [if_neg q]; omega
theorem ls_and : ∀ m : Nat, m < 16 → ∀ c : Nat, c < 4 → e_bit (fun x y => x &&& y) (m : Int) ((2 ^ c : Nat) : Int) = if wo_b m c = true then ((2 ^ c : Nat) : Int) else 0 := by decide +kernel
theorem ls_or : ∀ m : Nat, m < 16 → ∀ c : Nat, c < 4 → wo_b m c = true ∨ e_bit (fun x y => x ||| y) (m : Int) ((2 ^ c : Nat) : Int) = ((m + 2 ^ c : Nat) : Int) := by decide +kernel
theorem ls_shl : ∀ c : Nat, c < 4 → e_bit (fun x y => x <<< (y &&& 31)) 1 (c : Int) = ((2 ^ c : Nat) : Int) := by decide +kernel
theorem ls_lt : ∀ m : Nat, m < 16 → ∀ c : Nat, c < 4 → wo_b m c = true ∨ m + 2 ^ c < 16 := by decide +kernel
theorem ls_b1 : ∀ m : Nat, m < 16 → e_bit (fun x y => x &&& y) (m : Int) 1 = ((m % 2 : Nat) : Int) := by decide +kernel
theorem ls_b2 : ∀ m : Nat, m < 16 → e_bit (fun x y => x &&& y) (e_bit (fun x y => x >>> (y &&& 31)) (m : Int) 1) 1 = ((m / 2 % 2 : Nat) : Int) := by decide +kernel
theorem ls_b4 : ∀ m : Nat, m < 16 → e_bit (fun x y => x &&& y) (e_bit (fun x y => x >>> (y &&& 31)) (m : Int) 2) 1 = ((m / 4 % 2 : Nat) : Int) := by decide +kernel
theorem ls_b8 : ∀ m : Nat, m < 16 → e_bit (fun x y => x &&& y) (e_bit (fun x y => x >>> (y &&& 31)) (m : Int) 3) 1 = ((m / 8 % 2 : Nat) : Int) := by decide +kernel
theorem ls_p2 : ∀ c : Nat, c < 4 → 2 * 2 ^ c - 1 < 16 ∧ 2 ^ c - 1 < 16 ∧ 1 ≤ 2 ^ c ∧ 2 ^ c ≤ 8 := by decide +kernel
def ls_W (g : Int → Int) (p : Int) (o : Nat) : Int := ax_PW g (wo_S g o) p
def ax_L (g : Int → Int) (p : Int) (c : Nat) (al : Int) : Int := if al = 0 then ls_W g p (2 * 2 ^ c - 1) - ls_W g p (2 ^ c - 1) else ls_s (ls_W g p) c 16
theorem ls_w {x : Int} (h : -9223372036854775808 ≤ x ∧ x ≤ 9223372036854775807) : e_W x = x := by
  unfold e_W
  omega
/-- bits counted -/
def ls_u (k : Int) (x : Int) : Int := e_bit (fun x y => (x.toUInt32 >>> (y.toUInt32 &&& Int32.toUInt32 31)).toInt32) x k
def ls_a (x k : Int) : Int := e_bit (fun x y => x &&& y) x k
def ls_c1 (x : Int) : Int := e_w (x - ls_a (ls_u 1 x) 1431655765)
def ls_c2 (x : Int) : Int := e_w (ls_a x 858993459 + ls_a (ls_u 2 x) 858993459)
def ls_c3 (x : Int) : Int := ls_a (e_w (x + ls_u 4 x)) 252645135
def ls_c4 (x : Int) : Int := e_w (x + ls_u 8 x)
def ls_c5 (x : Int) : Int := ls_a (e_w (x + ls_u 16 x)) 63
theorem ls_bc : ∀ m : Nat, m < 16 → ls_c5 (ls_c4 (ls_c3 (ls_c2 (ls_c1 (m : Int))))) = (ls_n m : Int) := by decide +kernel
theorem ls_266 {x : Int} {m : Nat} {M : EM} (hx : x = m) (hm : m < 16) : E_C 266 [x] M = some ((ls_n m : Int), M) := by
  rw [← ls_bc m hm, ← hx]
  rw [r_ent (show e_rok 266 [x] = true from rfl)]
  show e_tv E_C (E_V 266) e_t266_0 [x] M = _
  unfold e_t266_0
  rfl
theorem ls_v {a b c : Nat} (h : a + b = c) (hc : c ≤ 100) : e_w ((a : Int) + (b : Int)) = (c : Int) := by
  have e : (a : Int) + (b : Int) = (c : Int) := by omega
  rw [e]
  exact a_w_id (by omega) (by omega)
theorem ls_vb : ∀ m : Nat, m < 16 → m % 2 + m / 2 % 2 ≤ 100 ∧ m % 2 + m / 2 % 2 + m / 4 % 2 ≤ 100 ∧ ls_n m ≤ 100 := by decide +kernel
theorem ls_kk (m : Nat) : (((ls_n m : Int) = 0 ∨ (ls_n m : Int) = 3) ∧ ls_k m = 6) ∨ (¬ (ls_n m : Int) = 0 ∧ ¬ (ls_n m : Int) = 3 ∧ ls_k m = 2) := by
  unfold ls_k
  generalize ls_n m = n
  by_cases q : n = 0 ∨ n = 3
  · rw [if_pos q]
    exact Or.inl ⟨by omega, rfl⟩
  · rw [if_neg q]
    exact Or.inr ⟨by omega, by omega, rfl⟩
section LS
variable {M M1 M2 : EM} {p r1 r2 : Int}
theorem ls_at2 {w : Int} {m : Nat} (ht : h_t2 M) (hw : w = (ls_n m : Int)) (hm : m < 16) (h4 : ls_n m ≤ 3) : E_C 146 [2, w] M = some (ls_k m, M) := by
  obtain ⟨t0, t1, t2, t3⟩ := ht
  have s : (e_sh (2 : Int).toNat) = (100, 4) := by decide +kernel
  rw [c_at 2 w M (Or.inr ⟨by decide, by decide, by rw [s]⟩), s, if_pos ⟨by decide, by omega, by show w < ((4 : Nat) : Int); omega⟩]
  refine congrArg some (congrArg (·, M) ?_)
  unfold ls_k
  have h9 : ls_n m = 0 ∨ ls_n m = 1 ∨ ls_n m = 2 ∨ ls_n m = 3 := by omega
  rcases h9 with h | h | h | h
  · rw [h] at hw
    subst hw
    rw [h, if_pos (Or.inl rfl)]
    exact t0
  · rw [h] at hw
    subst hw
    rw [h, if_neg (by decide)]
    exact t1
  · rw [h] at hw
    subst hw
    rw [h, if_neg (by decide)]
    exact t2
  · rw [h] at hw
    subst hw
    rw [h, if_pos (Or.inr rfl)]
    exact t3
theorem ls_n3 : ∀ m : Nat, m < 16 → ∀ c : Nat, c < 4 → wo_b m c = true ∨ ls_n m ≤ 3 := by decide +kernel
theorem ls_W_bd {g : Int → Int} (h6 : cu_nl g (cu_in g p) ≤ 6) (o : Nat) : 0 ≤ ls_W g p o ∧ ls_W g p o ≤ 1000000 := ax_PW_bd h6
theorem h_t2_fr {M M' : EM} (h : h_t2 M) (f : ∀ id k, ¬ (170 ≤ id ∧ id ≤ 191) → M' id k = M id k) : h_t2 M' := ⟨(f _ _ (by decide)).trans h.1, (f _ _ (by decide)).trans h.2.1, (f _ _ (by decide)).trans h.2.2.1, (f _ _ (by decide)).trans h.2.2.2⟩
/-- the class: over all sets of the others -/
theorem ls_67 {g : Int → Int} {q c : Nat} {ci al own : Int} (hc : c < 4) (hq : (q : Int) < g 1198) (hown : own = ((2 ^ c : Nat) : Int)) (h6 : cu_nl g (cu_in g (q : Int)) ≤ 6) : ∀ (d m : Nat) (x5 x7 x8 : Int) (N : EM), x7 = m → m + d = 16 → x5 = ls_s (ls_W g (q : Int)) c m → hd_all N → r_G N = g → h_t2 N → ∃ M', E_V 132 67 [8, (q : Int), ci, al, own, x5, 0, x7, x8, 0] N = some (ls_s (ls_W g (q : Int)) c 16, M') := by
  intro d
  induction d with
  | zero =>
    intro m x5 x7 x8 N hx hm h5 hA hG ht
    have e : m = 16 := by omega
    subst e
    have q0 : ¬ (x7 < 16) := by omega
    refine ⟨N, ?_⟩
    rw [← h5]
    clear h5 hA ht
    rw [E_V_eq]
    show e_tv E_C (E_V 132) e_t132_67 [8, (q : Int), ci, al, own, x5, 0, x7, x8, 0] N = _
    unfold e_t132_67
    simp [zq_a, zq_b, zq_c, zq_d, zq_e, zq_f, zq_g, zq_h, zq_i, zq_j, zq_k, zq_l, zq_m, zq_n, zq_o, zq_p, zq_q, zq_r, zq_s, zq_t, zq_u, zq_v, zq_w, zq_x, zq_y, zq_z, zq_A, zq_B, zq_C, zq_D, zq_E, zq_F, zq_G, zq_H, zq_I, zq_J, zq_K, zq_L, ↓zq_M, ↓zq_N, ↓zq_O, ↓zq_P, ↓zq_Q, ↓zq_R, zq_S, zq_T, zq_U, zq_V, zq_W, zq_X, zq_Y, zq_Z, zq_0, zq_1, zq_2, zq_3, zq_4, zq_5, ↓zq_6, ↓zq_7, ↓zq_8, ↓zq_9, ↓zq_aa, zq_ab, zq_ac, zq_ad, zq_ae, zq_af, zq_ag, ↓zq_ah, ↓zq_ai, ↓zq_aj, zq_ak, ↓zq_al, ↓zq_am, e_b1, e_b2, x_o1, x_o2, q0]
  | succ d ih =>
    intro m x5 x7 x8 N hx hm h5 hA hG ht
    have m16 : m < 16 := by omega
    have q0 : x7 < 16 := by omega
    have w7 : e_w (x7 + 1) = x7 + 1 := a_w_id (by omega) (by omega)
    have s124 : ∀ a b N, E_V 132 124 [8, (q : Int), ci, al, own, a, 0, x7, b, 0] N = E_V 132 67 [8, (q : Int), ci, al, own, a, 0, x7 + 1, b, 0] N := fun a b N => by
      rw [E_V_eq]
      show e_tv E_C (E_V 132) e_t132_124 [8, (q : Int), ci, al, own, a, 0, x7, b, 0] N = _
      unfold e_t132_124
      simp [zq_a, zq_b, zq_c, zq_d, zq_e, zq_f, zq_g, zq_h, zq_i, zq_j, zq_k, zq_l, zq_m, zq_n, zq_o, zq_p, zq_q, zq_r, zq_s, zq_t, zq_u, zq_v, zq_w, zq_x, zq_y, zq_z, zq_A, zq_B, zq_C, zq_D, zq_E, zq_F, zq_G, zq_H, zq_I, zq_J, zq_K, zq_L, ↓zq_M, ↓zq_N, ↓zq_O, ↓zq_P, ↓zq_Q, ↓zq_R, zq_S, zq_T, zq_U, zq_V, zq_W, zq_X, zq_Y, zq_Z, zq_0, zq_1, zq_2, zq_3, zq_4, zq_5, ↓zq_6, ↓zq_7, ↓zq_8, ↓zq_9, ↓zq_aa, zq_ab, zq_ac, zq_ad, zq_ae, zq_af, zq_ag, ↓zq_ah, ↓zq_ai, ↓zq_aj, zq_ak, ↓zq_al, ↓zq_am, e_b1, e_b2, x_o1, x_o2, w7]
    have ba := ls_and m m16 c hc
    rw [← hx, ← hown] at ba
    have sb := ls_s_bd (W := ls_W g (q : Int)) (c := c) (fun o _ => ls_W_bd h6 o) hc m (by omega)
    rw [← h5] at sb
    by_cases b : wo_b m c = true
    · rw [if_pos b] at ba
      have own0 : ¬ own = 0 := by
        have := ls_p2 c hc
        omega
      have es : ls_s (ls_W g (q : Int)) c (m + 1) = x5 := by
        show ls_s (ls_W g (q : Int)) c m + (if wo_b m c = true then 0 else _) = x5
        rw [if_pos b, h5, Int.add_zero]
      obtain ⟨M', k⟩ := ih (m + 1) x5 (x7 + 1) x8 N (by omega) (by omega) es.symm hA hG ht
      refine ⟨M', ?_⟩
      rw [← k, ← s124]
      clear ih k es hA ht h5 sb s124
      rw [E_V_eq]
      show e_tv E_C (E_V 132) e_t132_67 [8, (q : Int), ci, al, own, x5, 0, x7, x8, 0] N = _
      unfold e_t132_67
      simp [zq_a, zq_b, zq_c, zq_d, zq_e, zq_f, zq_g, zq_h, zq_i, zq_j, zq_k, zq_l, zq_m, zq_n, zq_o, zq_p, zq_q, zq_r, zq_s, zq_t, zq_u, zq_v, zq_w, zq_x, zq_y, zq_z, zq_A, zq_B, zq_C, zq_D, zq_E, zq_F, zq_G, zq_H, zq_I, zq_J, zq_K, zq_L, ↓zq_M, ↓zq_N, ↓zq_O, ↓zq_P, ↓zq_Q, ↓zq_R, zq_S, zq_T, zq_U, zq_V, zq_W, zq_X, zq_Y, zq_Z, zq_0, zq_1, zq_2, zq_3, zq_4, zq_5, ↓zq_6, ↓zq_7, ↓zq_8, ↓zq_9, ↓zq_aa, zq_ab, zq_ac, zq_ad, zq_ae, zq_af, zq_ag, ↓zq_ah, ↓zq_ai, ↓zq_aj, zq_ak, ↓zq_al, ↓zq_am, e_b1, e_b2, x_o1, x_o2, q0, ba, own0]
    · rw [if_neg b] at ba
      have lt := (ls_lt m m16 c hc).resolve_left b
      have bo := (ls_or m m16 c hc).resolve_left b
      rw [← hx, ← hown] at bo
      have hq0 : (q : Int) < r_G N 1198 := by rw [hG]; exact hq
      obtain ⟨N1, k1, z1, f1⟩ := ax_160 (oi := ((m + 2 ^ c : Nat) : Int)) hA hq0 lt rfl
      have f1' : ∀ id k, ¬ (170 ≤ id ∧ id ≤ 191) → N1 id k = N id k := fun id k h => f1 id k (by omega)
      have hA1 := hd_all_fr hA f1' z1
      have hG1 : r_G N1 = g := (funext fun i => f1 _ _ (by decide)).trans hG
      have hq1 : (q : Int) < r_G N1 1198 := by rw [hG1]; exact hq
      obtain ⟨N2, k2, z2, f2⟩ := ax_160 (oi := x7) hA1 hq1 m16 hx
      have f2' : ∀ id k, ¬ (170 ≤ id ∧ id ≤ 191) → N2 id k = N1 id k := fun id k h => f2 id k (by omega)
      have hA2 := hd_all_fr hA1 f2' z2
      have hG2 : r_G N2 = g := (funext fun i => f2 _ _ (by decide)).trans hG1
      have ht2 := h_t2_fr (h_t2_fr ht f1') f2'
      rw [hG] at k1
      rw [hG1] at k2
      have k1 : E_C 160 [8, (q : Int), ((m + 2 ^ c : Nat) : Int)] N = some (ls_W g (q : Int) (m + 2 ^ c), N1) := k1
      have k2 : E_C 160 [8, (q : Int), x7] N1 = some (ls_W g (q : Int) m, N2) := k2
      have kb := ls_266 (M := N2) hx m16
      have n3 := (ls_n3 m m16 c hc).resolve_left b
      have ka := ls_at2 (M := N2) (m := m) ht2 rfl m16 n3
      have W1 := ls_W_bd h6 (m + 2 ^ c)
      have W2 := ls_W_bd h6 m
      have es : ls_s (ls_W g (q : Int)) c (m + 1) = x5 + ls_k m * (ls_W g (q : Int) (m + 2 ^ c) - ls_W g (q : Int) m) := by
        show ls_s (ls_W g (q : Int)) c m + (if wo_b m c = true then 0 else _) = _
        rw [if_neg b, h5]
      rw [Int.mul_comm] at es
      obtain ⟨M', k⟩ := ih (m + 1) _ (x7 + 1) (ls_W g (q : Int) (m + 2 ^ c) - ls_W g (q : Int) m) N2 (by omega) (by omega) es.symm hA2 hG2 ht2
      refine ⟨M', ?_⟩
      rw [← k, ← s124]
      clear ih k es hA hA1 hA2 ht ht2 h5 f1 f2 f1' f2' s124 z1 z2
      have kk : ls_k m = 6 ∨ ls_k m = 2 := by
        unfold ls_k
        split
        · exact Or.inl rfl
        · exact Or.inr rfl
      generalize ls_W g (q : Int) (m + 2 ^ c) = W1v at *
      generalize ls_W g (q : Int) m = W2v at *
      generalize ls_k m = kv at *
      generalize (ls_n m : Int) = nv at *
      generalize ((m + 2 ^ c : Nat) : Int) = ov at *
      have w1 : e_W (W1v - W2v) = W1v - W2v := ls_w (by omega)
      have w2 : e_W ((W1v - W2v) * kv) = (W1v - W2v) * kv := by
        rcases kk with e | e
        · rw [e]; exact ls_w (by omega)
        · rw [e]; exact ls_w (by omega)
      have w3 : e_W (x5 + (W1v - W2v) * kv) = x5 + (W1v - W2v) * kv := by
        rcases kk with e | e
        · rw [e]; exact ls_w (by omega)
        · rw [e]; exact ls_w (by omega)
      rw [E_V_eq]
      show e_tv E_C (E_V 132) e_t132_67 [8, (q : Int), ci, al, own, x5, 0, x7, x8, 0] N = _
      unfold e_t132_67
      simp [zq_a, zq_b, zq_c, zq_d, zq_e, zq_f, zq_g, zq_h, zq_i, zq_j, zq_k, zq_l, zq_m, zq_n, zq_o, zq_p, zq_q, zq_r, zq_s, zq_t, zq_u, zq_v, zq_w, zq_x, zq_y, zq_z, zq_A, zq_B, zq_C, zq_D, zq_E, zq_F, zq_G, zq_H, zq_I, zq_J, zq_K, zq_L, ↓zq_M, ↓zq_N, ↓zq_O, ↓zq_P, ↓zq_Q, ↓zq_R, zq_S, zq_T, zq_U, zq_V, zq_W, zq_X, zq_Y, zq_Z, zq_0, zq_1, zq_2, zq_3, zq_4, zq_5, ↓zq_6, ↓zq_7, ↓zq_8, ↓zq_9, ↓zq_aa, zq_ab, zq_ac, zq_ad, zq_ae, zq_af, zq_ag, ↓zq_ah, ↓zq_ai, ↓zq_aj, zq_ak, ↓zq_al, ↓zq_am, e_b1, e_b2, x_o1, x_o2, q0, ba, bo, k1, k2, kb, ka, w1, w2, w3]
def ax_LQ (p c n : Int) : Prop := (0 ≤ p ∧ p < n) ∧ 0 ≤ c ∧ c ≤ 3
theorem ax_132s {c al : Int} : E_C 132 [8, p, c, al] M = e_tv E_C (E_V 132) e_t132_0 [8, p, c, al, 0, 0, 0, 0, 0, 0] M := r_ent (u := 132) (as := [8, p, c, al]) (M := M) (decide_eq_true c_this)
theorem ax_132a {q c : Nat} {ci al : Int} (h : hd_all M) (ht : h_t2 M) (hq : (q : Int) < r_G M 1198) (hc : c < 4) (hci : ci = c) : ∃ M', E_C 132 [8, (q : Int), ci, al] M = some (ax_L (r_G M) (q : Int) c al, M') := by
  have i := h_149 (k := (q : Int)) (M := M)
  rw [show M 10 0 = r_G M 1198 from h.1.1, if_pos ⟨by omega, hq⟩] at i
  have h6 := (ax_L6 h (q : Int)).resolve_right (fun e => e ⟨by omega, hq⟩)
  obtain ⟨p1, p2, p3, p4⟩ := ls_p2 c hc
  have sh := ls_shl c hc
  rw [← hci] at sh
  have c0 : 0 ≤ ci := by omega
  have c4 : ¬ (4 ≤ ci) := by omega
  unfold ax_L
  rw [ax_132s]
  unfold e_t132_0
  by_cases a0 : al = 0
  · rw [if_pos a0]
    obtain ⟨N1, k1, z1, f1⟩ := ax_160 (o := 2 * 2 ^ c - 1) (oi := 2 * ((2 ^ c : Nat) : Int) - 1) h hq p1 (by omega)
    have f1' : ∀ id k, ¬ (170 ≤ id ∧ id ≤ 191) → N1 id k = M id k := fun id k h => f1 id k (by omega)
    have hA1 := hd_all_fr h f1' z1
    have hG1 : r_G N1 = r_G M := funext fun i => f1 _ _ (by decide)
    obtain ⟨N2, k2, z2, f2⟩ := ax_160 (o := 2 ^ c - 1) (oi := ((2 ^ c : Nat) : Int) - 1) hA1 (by rw [hG1]; exact hq) p2 (by omega)
    rw [hG1] at k2
    have W1 := ls_W_bd (p := (q : Int)) h6 (2 * 2 ^ c - 1)
    have W2 := ls_W_bd (p := (q : Int)) h6 (2 ^ c - 1)
    have k1 : E_C 160 [8, (q : Int), 2 * ((2 ^ c : Nat) : Int) - 1] M = some (ls_W (r_G M) (q : Int) (2 * 2 ^ c - 1), N1) := k1
    have k2 : E_C 160 [8, (q : Int), ((2 ^ c : Nat) : Int) - 1] N1 = some (ls_W (r_G M) (q : Int) (2 ^ c - 1), N2) := k2
    refine ⟨N2, ?_⟩
    clear f1 f2 f1' hA1 z1 z2 ht h
    have o1 : 1 ≤ ((2 ^ c : Nat) : Int) ∧ ((2 ^ c : Nat) : Int) ≤ 8 := by omega
    generalize ls_W (r_G M) (q : Int) (2 * 2 ^ c - 1) = W1v at *
    generalize ls_W (r_G M) (q : Int) (2 ^ c - 1) = W2v at *
    generalize ((2 ^ c : Nat) : Int) = ov at *
    have w0 : e_w (2 * ov) = 2 * ov := a_w_id (by omega) (by omega)
    have w1 : e_w (2 * ov - 1) = 2 * ov - 1 := a_w_id (by omega) (by omega)
    have w2 : e_w (ov - 1) = ov - 1 := a_w_id (by omega) (by omega)
    have w3 : e_W (W1v - W2v) = W1v - W2v := ls_w (by omega)
    subst a0
    simp [zq_a, zq_b, zq_c, zq_d, zq_e, zq_f, zq_g, zq_h, zq_i, zq_j, zq_k, zq_l, zq_m, zq_n, zq_o, zq_p, zq_q, zq_r, zq_s, zq_t, zq_u, zq_v, zq_w, zq_x, zq_y, zq_z, zq_A, zq_B, zq_C, zq_D, zq_E, zq_F, zq_G, zq_H, zq_I, zq_J, zq_K, zq_L, ↓zq_M, ↓zq_N, ↓zq_O, ↓zq_P, ↓zq_Q, ↓zq_R, zq_S, zq_T, zq_U, zq_V, zq_W, zq_X, zq_Y, zq_Z, zq_0, zq_1, zq_2, zq_3, zq_4, zq_5, ↓zq_6, ↓zq_7, ↓zq_8, ↓zq_9, ↓zq_aa, zq_ab, zq_ac, zq_ad, zq_ae, zq_af, zq_ag, ↓zq_ah, ↓zq_ai, ↓zq_aj, zq_ak, ↓zq_al, ↓zq_am, e_b1, e_b2, x_o1, x_o2, i, c0, c4, sh, w0, w1, w2, w3, k1, k2]
  · rw [if_neg a0]
    obtain ⟨M', k⟩ := ls_67 (g := r_G M) (q := q) (c := c) (ci := ci) (al := al) (own := ((2 ^ c : Nat) : Int)) hc hq rfl h6 16 0 0 0 0 M rfl (by omega) rfl h rfl ht
    refine ⟨M', ?_⟩
    generalize ls_s (ls_W (r_G M) (q : Int)) c 16 = z at *
    generalize ((2 ^ c : Nat) : Int) = ov at *
    simp [zq_a, zq_b, zq_c, zq_d, zq_e, zq_f, zq_g, zq_h, zq_i, zq_j, zq_k, zq_l, zq_m, zq_n, zq_o, zq_p, zq_q, zq_r, zq_s, zq_t, zq_u, zq_v, zq_w, zq_x, zq_y, zq_z, zq_A, zq_B, zq_C, zq_D, zq_E, zq_F, zq_G, zq_H, zq_I, zq_J, zq_K, zq_L, ↓zq_M, ↓zq_N, ↓zq_O, ↓zq_P, ↓zq_Q, ↓zq_R, zq_S, zq_T, zq_U, zq_V, zq_W, zq_X, zq_Y, zq_Z, zq_0, zq_1, zq_2, zq_3, zq_4, zq_5, ↓zq_6, ↓zq_7, ↓zq_8, ↓zq_9, ↓zq_aa, zq_ab, zq_ac, zq_ad, zq_ae, zq_af, zq_ag, ↓zq_ah, ↓zq_ai, ↓zq_aj, zq_ak, ↓zq_al, ↓zq_am, e_b1, e_b2, x_o1, x_o2, i, c0, c4, sh, a0, k]
theorem ax_132b {c al : Int} (h : hd_all M) (hq : ¬ ax_LQ p c (r_G M 1198)) : E_C 132 [8, p, c, al] M = some (e_TH, c_thr M) := by
  have i := h_149 (k := p) (M := M)
  rw [show M 10 0 = r_G M 1198 from h.1.1] at i
  unfold ax_LQ at hq
  rw [ax_132s]
  unfold e_t132_0
  by_cases c1 : 0 ≤ p ∧ p < r_G M 1198
  · rw [if_pos c1] at i
    rcases x_le 0 c with ⟨c2, c2_n⟩ | ⟨c2, c2_n⟩
    · have c3 : 4 ≤ c := by omega
      simp [zq_a, zq_b, zq_c, zq_d, zq_e, zq_f, zq_g, zq_h, zq_i, zq_j, zq_k, zq_l, zq_m, zq_n, zq_o, zq_p, zq_q, zq_r, zq_s, zq_t, zq_u, zq_v, zq_w, zq_x, zq_y, zq_z, zq_A, zq_B, zq_C, zq_D, zq_E, zq_F, zq_G, zq_H, zq_I, zq_J, zq_K, zq_L, ↓zq_M, ↓zq_N, ↓zq_O, ↓zq_P, ↓zq_Q, ↓zq_R, zq_S, zq_T, zq_U, zq_V, zq_W, zq_X, zq_Y, zq_Z, zq_0, zq_1, zq_2, zq_3, zq_4, zq_5, ↓zq_6, ↓zq_7, ↓zq_8, ↓zq_9, ↓zq_aa, zq_ab, zq_ac, zq_ad, zq_ae, zq_af, zq_ag, ↓zq_ah, ↓zq_ai, ↓zq_aj, zq_ak, ↓zq_al, ↓zq_am, e_b1, e_b2, x_o1, x_o2, i, c2, c2_n, c3, c_thr]
    · simp [zq_a, zq_b, zq_c, zq_d, zq_e, zq_f, zq_g, zq_h, zq_i, zq_j, zq_k, zq_l, zq_m, zq_n, zq_o, zq_p, zq_q, zq_r, zq_s, zq_t, zq_u, zq_v, zq_w, zq_x, zq_y, zq_z, zq_A, zq_B, zq_C, zq_D, zq_E, zq_F, zq_G, zq_H, zq_I, zq_J, zq_K, zq_L, ↓zq_M, ↓zq_N, ↓zq_O, ↓zq_P, ↓zq_Q, ↓zq_R, zq_S, zq_T, zq_U, zq_V, zq_W, zq_X, zq_Y, zq_Z, zq_0, zq_1, zq_2, zq_3, zq_4, zq_5, ↓zq_6, ↓zq_7, ↓zq_8, ↓zq_9, ↓zq_aa, zq_ab, zq_ac, zq_ad, zq_ae, zq_af, zq_ag, ↓zq_ah, ↓zq_ai, ↓zq_aj, zq_ak, ↓zq_al, ↓zq_am, e_b1, e_b2, x_o1, x_o2, i, c2, c2_n, c_thr]
  · rw [if_neg c1] at i
    simp [zq_a, zq_b, zq_c, zq_d, zq_e, zq_f, zq_g, zq_h, zq_i, zq_j, zq_k, zq_l, zq_m, zq_n, zq_o, zq_p, zq_q, zq_r, zq_s, zq_t, zq_u, zq_v, zq_w, zq_x, zq_y, zq_z, zq_A, zq_B, zq_C, zq_D, zq_E, zq_F, zq_G, zq_H, zq_I, zq_J, zq_K, zq_L, ↓zq_M, ↓zq_N, ↓zq_O, ↓zq_P, ↓zq_Q, ↓zq_R, zq_S, zq_T, zq_U, zq_V, zq_W, zq_X, zq_Y, zq_Z, zq_0, zq_1, zq_2, zq_3, zq_4, zq_5, ↓zq_6, ↓zq_7, ↓zq_8, ↓zq_9, ↓zq_aa, zq_ab, zq_ac, zq_ad, zq_ae, zq_af, zq_ag, ↓zq_ah, ↓zq_ai, ↓zq_aj, zq_ak, ↓zq_al, ↓zq_am, e_b1, e_b2, x_o1, x_o2, i, c_thr]
theorem ax_L_bd {g : Int → Int} {c : Nat} {al : Int} (h6 : cu_nl g (cu_in g p) ≤ 6) (hc : c < 4) : -9223372036854775808 ≤ ax_L g p c al ∧ ax_L g p c al ≤ 9223372036854775807 := by
  unfold ax_L
  by_cases a : al = 0
  · rw [if_pos a]
    have W1 := ls_W_bd (p := p) h6 (2 * 2 ^ c - 1)
    have W2 := ls_W_bd (p := p) h6 (2 ^ c - 1)
    omega
  · rw [if_neg a]
    have := ls_s_bd (W := ls_W g p) (c := c) (fun o _ => ls_W_bd h6 o) hc 16 (Nat.le_refl _)
    omega
theorem ax_272a {q c : Nat} {ci al : Int} (h : hd_all M) (ht : h_t2 M) (hq : (q : Int) < r_G M 1198) (hc : c < 4) (hci : ci = c) : ∃ M', E_C 272 [8, (q : Int), ci, al, 213] M = some (0, e_up M' 213 0 (ax_L (r_G M) (q : Int) c al)) := by
  obtain ⟨M', k⟩ := ax_132a (al := al) h ht hq hc hci
  have n := l_TH _ (ax_L_bd (al := al) ((ax_L6 h (q : Int)).resolve_right (fun e => e ⟨by omega, hq⟩)) hc)
  refine ⟨M', ?_⟩
  generalize ax_L (r_G M) (q : Int) c al = z at *
  have j16 : ∀ M1, E_V 272 18 [8, (q : Int), ci, al, 213, 0] M1 = some (0, M1) := by
    intro M1
    rw [E_V_eq]
    show e_tv E_C (E_V 272) e_t272_18 [8, (q : Int), ci, al, 213, 0] M1 = _
    unfold e_t272_18
    simp [zq_a, zq_b, zq_c, zq_d, zq_e, zq_f, zq_g, zq_h, zq_i, zq_j, zq_k, zq_l, zq_m, zq_n, zq_o, zq_p, zq_q, zq_r, zq_s, zq_t, zq_u, zq_v, zq_w, zq_x, zq_y, zq_z, zq_A, zq_B, zq_C, zq_D, zq_E, zq_F, zq_G, zq_H, zq_I, zq_J, zq_K, zq_L, ↓zq_M, ↓zq_N, ↓zq_O, ↓zq_P, ↓zq_Q, ↓zq_R, zq_S, zq_T, zq_U, zq_V, zq_W, zq_X, zq_Y, zq_Z, zq_0, zq_1, zq_2, zq_3, zq_4, zq_5, ↓zq_6, ↓zq_7, ↓zq_8, ↓zq_9, ↓zq_aa, zq_ab, zq_ac, zq_ad, zq_ae, zq_af, zq_ag, ↓zq_ah, ↓zq_ai, ↓zq_aj, zq_ak, ↓zq_al, ↓zq_am, e_b1, e_b2, x_o1, x_o2]
  rw [l_ent (show e_rok 272 [8, (q : Int), ci, al, 213] = true from rfl)]
  show e_tv E_C (E_V 272) e_t272_0 [8, (q : Int), ci, al, 213, 0] M = _
  unfold e_t272_0
  simp [zq_a, zq_b, zq_c, zq_d, zq_e, zq_f, zq_g, zq_h, zq_i, zq_j, zq_k, zq_l, zq_m, zq_n, zq_o, zq_p, zq_q, zq_r, zq_s, zq_t, zq_u, zq_v, zq_w, zq_x, zq_y, zq_z, zq_A, zq_B, zq_C, zq_D, zq_E, zq_F, zq_G, zq_H, zq_I, zq_J, zq_K, zq_L, ↓zq_M, ↓zq_N, ↓zq_O, ↓zq_P, ↓zq_Q, ↓zq_R, zq_S, zq_T, zq_U, zq_V, zq_W, zq_X, zq_Y, zq_Z, zq_0, zq_1, zq_2, zq_3, zq_4, zq_5, ↓zq_6, ↓zq_7, ↓zq_8, ↓zq_9, ↓zq_aa, zq_ab, zq_ac, zq_ad, zq_ae, zq_af, zq_ag, ↓zq_ah, ↓zq_ai, ↓zq_aj, zq_ak, ↓zq_al, ↓zq_am, e_b1, e_b2, x_o1, x_o2, k, n.1, n.2, l_st213, j16]
theorem ax_272b {c al : Int} (h : hd_all M) (hq : ¬ ax_LQ p c (r_G M 1198)) : E_C 272 [8, p, c, al, 213] M = some (1, c_thr M) := by
  have k := ax_132b (al := al) h hq
  rw [l_ent (show e_rok 272 [8, p, c, al, 213] = true from rfl)]
  show e_tv E_C (E_V 272) e_t272_0 [8, p, c, al, 213, 0] M = _
  unfold e_t272_0
  simp [zq_a, zq_b, zq_c, zq_d, zq_e, zq_f, zq_g, zq_h, zq_i, zq_j, zq_k, zq_l, zq_m, zq_n, zq_o, zq_p, zq_q, zq_r, zq_s, zq_t, zq_u, zq_v, zq_w, zq_x, zq_y, zq_z, zq_A, zq_B, zq_C, zq_D, zq_E, zq_F, zq_G, zq_H, zq_I, zq_J, zq_K, zq_L, ↓zq_M, ↓zq_N, ↓zq_O, ↓zq_P, ↓zq_Q, ↓zq_R, zq_S, zq_T, zq_U, zq_V, zq_W, zq_X, zq_Y, zq_Z, zq_0, zq_1, zq_2, zq_3, zq_4, zq_5, ↓zq_6, ↓zq_7, ↓zq_8, ↓zq_9, ↓zq_aa, zq_ab, zq_ac, zq_ad, zq_ae, zq_af, zq_ag, ↓zq_ah, ↓zq_ai, ↓zq_aj, zq_ak, ↓zq_al, ↓zq_am, e_b1, e_b2, x_o1, x_o2, k]
/-- the reference: over all sets -/
def ls_R (g : Int → Int) (N : EM) : Prop := r_G N = g ∧ rx_K N ∧ N 192 20 = -1
theorem ls_77 {g : Int → Int} {c : Nat} {ci al own : Int} (hW : r_W g) (hcs : hd_cs g) (hcv : hd_cvs g) (hp : 0 ≤ p ∧ p < g 1198) (hc : c < 4) (hown : own = ((2 ^ c : Nat) : Int)) (h6 : cu_nl g (cu_in g p) ≤ 6) : ∀ (d m : Nat) (x5 x7 x8 : Int) (N : EM), x7 = m → m + d = 16 → x5 = ls_s (ls_W g p) c m → ls_R g N → ∃ M', E_V 247 77 [192, p, ci, al, own, x5, 0, x7, x8] N = some (ls_s (ls_W g p) c 16, M') ∧ M' 192 10 = N 192 10 ∧ ∀ k, M' 213 k = N 213 k := by
  intro d
  induction d with
  | zero =>
    intro m x5 x7 x8 N hx hm h5 hR
    have e : m = 16 := by omega
    subst e
    have q0 : ¬ (x7 < 16) := by omega
    refine ⟨N, ?_, rfl, fun _ => rfl⟩
    rw [← h5]
    clear h5 hR
    rw [E_V_eq]
    show e_tv E_C (E_V 247) e_t247_77 [192, p, ci, al, own, x5, 0, x7, x8] N = _
    unfold e_t247_77
    simp [zq_a, zq_b, zq_c, zq_d, zq_e, zq_f, zq_g, zq_h, zq_i, zq_j, zq_k, zq_l, zq_m, zq_n, zq_o, zq_p, zq_q, zq_r, zq_s, zq_t, zq_u, zq_v, zq_w, zq_x, zq_y, zq_z, zq_A, zq_B, zq_C, zq_D, zq_E, zq_F, zq_G, zq_H, zq_I, zq_J, zq_K, zq_L, ↓zq_M, ↓zq_N, ↓zq_O, ↓zq_P, ↓zq_Q, ↓zq_R, zq_S, zq_T, zq_U, zq_V, zq_W, zq_X, zq_Y, zq_Z, zq_0, zq_1, zq_2, zq_3, zq_4, zq_5, ↓zq_6, ↓zq_7, ↓zq_8, ↓zq_9, ↓zq_aa, zq_ab, zq_ac, zq_ad, zq_ae, zq_af, zq_ag, ↓zq_ah, ↓zq_ai, ↓zq_aj, zq_ak, ↓zq_al, ↓zq_am, e_b1, e_b2, x_o1, x_o2, q0]
  | succ d ih =>
    intro m x5 x7 x8 N hx hm h5 hR
    have m16 : m < 16 := by omega
    have q0 : x7 < 16 := by omega
    have w7 : e_w (x7 + 1) = x7 + 1 := a_w_id (by omega) (by omega)
    have s167 : ∀ a b N, E_V 247 167 [192, p, ci, al, own, a, 0, x7, b] N = E_V 247 77 [192, p, ci, al, own, a, 0, x7 + 1, b] N := fun a b N => by
      rw [E_V_eq]
      show e_tv E_C (E_V 247) e_t247_167 [192, p, ci, al, own, a, 0, x7, b] N = _
      unfold e_t247_167
      simp [zq_a, zq_b, zq_c, zq_d, zq_e, zq_f, zq_g, zq_h, zq_i, zq_j, zq_k, zq_l, zq_m, zq_n, zq_o, zq_p, zq_q, zq_r, zq_s, zq_t, zq_u, zq_v, zq_w, zq_x, zq_y, zq_z, zq_A, zq_B, zq_C, zq_D, zq_E, zq_F, zq_G, zq_H, zq_I, zq_J, zq_K, zq_L, ↓zq_M, ↓zq_N, ↓zq_O, ↓zq_P, ↓zq_Q, ↓zq_R, zq_S, zq_T, zq_U, zq_V, zq_W, zq_X, zq_Y, zq_Z, zq_0, zq_1, zq_2, zq_3, zq_4, zq_5, ↓zq_6, ↓zq_7, ↓zq_8, ↓zq_9, ↓zq_aa, zq_ab, zq_ac, zq_ad, zq_ae, zq_af, zq_ag, ↓zq_ah, ↓zq_ai, ↓zq_aj, zq_ak, ↓zq_al, ↓zq_am, e_b1, e_b2, x_o1, x_o2, w7]
    have ba := ls_and m m16 c hc
    rw [← hx, ← hown] at ba
    have sb := ls_s_bd (W := ls_W g p) (c := c) (fun o _ => ls_W_bd h6 o) hc m (by omega)
    rw [← h5] at sb
    by_cases b : wo_b m c = true
    · rw [if_pos b] at ba
      have own0 : ¬ own = 0 := by
        have := ls_p2 c hc
        omega
      have es : ls_s (ls_W g p) c (m + 1) = x5 := by
        show ls_s (ls_W g p) c m + (if wo_b m c = true then 0 else _) = x5
        rw [if_pos b, h5, Int.add_zero]
      obtain ⟨M', k, f⟩ := ih (m + 1) x5 (x7 + 1) x8 N (by omega) (by omega) es.symm hR
      refine ⟨M', ?_, f⟩
      rw [← k, ← s167]
      clear ih k es hR h5 sb s167 f
      rw [E_V_eq]
      show e_tv E_C (E_V 247) e_t247_77 [192, p, ci, al, own, x5, 0, x7, x8] N = _
      unfold e_t247_77
      simp [zq_a, zq_b, zq_c, zq_d, zq_e, zq_f, zq_g, zq_h, zq_i, zq_j, zq_k, zq_l, zq_m, zq_n, zq_o, zq_p, zq_q, zq_r, zq_s, zq_t, zq_u, zq_v, zq_w, zq_x, zq_y, zq_z, zq_A, zq_B, zq_C, zq_D, zq_E, zq_F, zq_G, zq_H, zq_I, zq_J, zq_K, zq_L, ↓zq_M, ↓zq_N, ↓zq_O, ↓zq_P, ↓zq_Q, ↓zq_R, zq_S, zq_T, zq_U, zq_V, zq_W, zq_X, zq_Y, zq_Z, zq_0, zq_1, zq_2, zq_3, zq_4, zq_5, ↓zq_6, ↓zq_7, ↓zq_8, ↓zq_9, ↓zq_aa, zq_ab, zq_ac, zq_ad, zq_ae, zq_af, zq_ag, ↓zq_ah, ↓zq_ai, ↓zq_aj, zq_ak, ↓zq_al, ↓zq_am, e_b1, e_b2, x_o1, x_o2, q0, ba, own0]
    · rw [if_neg b] at ba
      have lt := (ls_lt m m16 c hc).resolve_left b
      have bo := (ls_or m m16 c hc).resolve_left b
      rw [← hx, ← hown] at bo
      obtain ⟨g1, K1, h1⟩ := hR
      obtain ⟨N1, k1, g2, K2, h2, f1⟩ := rx_245 (oi := ((m + 2 ^ c : Nat) : Int)) g1 hW K1 h1 hcs hcv hp h6 lt rfl
      obtain ⟨N2, k2, g3, K3, h3, f2⟩ := rx_245 (oi := x7) g2 hW K2 h2 hcs hcv hp h6 m16 hx
      have k1 : E_C 245 [192, p, ((m + 2 ^ c : Nat) : Int)] N = some (ls_W g p (m + 2 ^ c), N1) := k1
      have k2 : E_C 245 [192, p, x7] N1 = some (ls_W g p m, N2) := k2
      have W1 := ls_W_bd h6 (m + 2 ^ c)
      have W2 := ls_W_bd h6 m
      have es : ls_s (ls_W g p) c (m + 1) = x5 + ls_k m * (ls_W g p (m + 2 ^ c) - ls_W g p m) := by
        show ls_s (ls_W g p) c m + (if wo_b m c = true then 0 else _) = _
        rw [if_neg b, h5]
      obtain ⟨M', k, i1, i2⟩ := ih (m + 1) _ (x7 + 1) (ls_n m : Int) N2 (by omega) (by omega) es.symm ⟨g3, K3, h3⟩
      have ten : N2 192 10 = N 192 10 := (f2 _ _ (by decide) (by decide) (by omega)).trans (f1 _ _ (by decide) (by decide) (by omega))
      refine ⟨M', ?_, i1.trans ten, fun k => (i2 k).trans ((f2 _ _ (by decide) (by decide) (by omega)).trans (f1 _ _ (by decide) (by decide) (by omega)))⟩
      rw [← k, ← s167]
      have b1 := ls_b1 m m16
      have b2 := ls_b2 m m16
      have b4 := ls_b4 m m16
      have b8 := ls_b8 m m16
      rw [← hx] at b1 b2 b4 b8
      obtain ⟨c1, c2, c3⟩ := ls_vb m m16
      have v1 : e_w (((m % 2 : Nat) : Int) + ((m / 2 % 2 : Nat) : Int)) = ((m % 2 + m / 2 % 2 : Nat) : Int) := ls_v rfl c1
      have v2 : e_w (((m % 2 + m / 2 % 2 : Nat) : Int) + ((m / 4 % 2 : Nat) : Int)) = ((m % 2 + m / 2 % 2 + m / 4 % 2 : Nat) : Int) := ls_v rfl c2
      have v3 : e_w (((m % 2 + m / 2 % 2 + m / 4 % 2 : Nat) : Int) + ((m / 8 % 2 : Nat) : Int)) = (ls_n m : Int) := ls_v rfl c3
      clear c1 c2 c3
      have kk := ls_kk m
      clear ih k es h5 f1 f2 s167 i1 i2 K1 K2 K3 h1 h2 h3 g1 g2 g3 ten hW hcs hcv
      generalize ls_W g p (m + 2 ^ c) = W1v at *
      generalize ls_W g p m = W2v at *
      generalize ls_k m = kv at *
      generalize (ls_n m : Int) = nv at *
      generalize ((m + 2 ^ c : Nat) : Int) = ov at *
      generalize ((m % 2 + m / 2 % 2 + m / 4 % 2 : Nat) : Int) = t3 at *
      generalize ((m % 2 + m / 2 % 2 : Nat) : Int) = t2 at *
      generalize ((m % 2 : Nat) : Int) = u1 at *
      generalize ((m / 2 % 2 : Nat) : Int) = u2 at *
      generalize ((m / 4 % 2 : Nat) : Int) = u4 at *
      generalize ((m / 8 % 2 : Nat) : Int) = u8 at *
      have w1 : e_w (W1v - W2v) = W1v - W2v := a_w_id (by omega) (by omega)
      rcases kk with ⟨kn, ke⟩ | ⟨kn, kn2, ke⟩
      · subst ke
        have w2 : e_W (6 * (W1v - W2v)) = 6 * (W1v - W2v) := ls_w (by omega)
        have w3 : e_W (x5 + 6 * (W1v - W2v)) = x5 + 6 * (W1v - W2v) := ls_w (by omega)
        rcases kn with kn | kn
        · rw [E_V_eq]
          show e_tv E_C (E_V 247) e_t247_77 [192, p, ci, al, own, x5, 0, x7, x8] N = _
          unfold e_t247_77
          simp [zq_a, zq_b, zq_c, zq_d, zq_e, zq_f, zq_g, zq_h, zq_i, zq_j, zq_k, zq_l, zq_m, zq_n, zq_o, zq_p, zq_q, zq_r, zq_s, zq_t, zq_u, zq_v, zq_w, zq_x, zq_y, zq_z, zq_A, zq_B, zq_C, zq_D, zq_E, zq_F, zq_G, zq_H, zq_I, zq_J, zq_K, zq_L, ↓zq_M, ↓zq_N, ↓zq_O, ↓zq_P, ↓zq_Q, ↓zq_R, zq_S, zq_T, zq_U, zq_V, zq_W, zq_X, zq_Y, zq_Z, zq_0, zq_1, zq_2, zq_3, zq_4, zq_5, ↓zq_6, ↓zq_7, ↓zq_8, ↓zq_9, ↓zq_aa, zq_ab, zq_ac, zq_ad, zq_ae, zq_af, zq_ag, ↓zq_ah, ↓zq_ai, ↓zq_aj, zq_ak, ↓zq_al, ↓zq_am, e_b1, e_b2, x_o1, x_o2, q0, ba, b1, b2, b4, b8, v1, v2, v3, kn, bo, k1, k2, w1, w2, w3]
        · rw [E_V_eq]
          show e_tv E_C (E_V 247) e_t247_77 [192, p, ci, al, own, x5, 0, x7, x8] N = _
          unfold e_t247_77
          simp [zq_a, zq_b, zq_c, zq_d, zq_e, zq_f, zq_g, zq_h, zq_i, zq_j, zq_k, zq_l, zq_m, zq_n, zq_o, zq_p, zq_q, zq_r, zq_s, zq_t, zq_u, zq_v, zq_w, zq_x, zq_y, zq_z, zq_A, zq_B, zq_C, zq_D, zq_E, zq_F, zq_G, zq_H, zq_I, zq_J, zq_K, zq_L, ↓zq_M, ↓zq_N, ↓zq_O, ↓zq_P, ↓zq_Q, ↓zq_R, zq_S, zq_T, zq_U, zq_V, zq_W, zq_X, zq_Y, zq_Z, zq_0, zq_1, zq_2, zq_3, zq_4, zq_5, ↓zq_6, ↓zq_7, ↓zq_8, ↓zq_9, ↓zq_aa, zq_ab, zq_ac, zq_ad, zq_ae, zq_af, zq_ag, ↓zq_ah, ↓zq_ai, ↓zq_aj, zq_ak, ↓zq_al, ↓zq_am, e_b1, e_b2, x_o1, x_o2, q0, ba, b1, b2, b4, b8, v1, v2, v3, kn, bo, k1, k2, w1, w2, w3]
      · subst ke
        have w2 : e_W (2 * (W1v - W2v)) = 2 * (W1v - W2v) := ls_w (by omega)
        have w3 : e_W (x5 + 2 * (W1v - W2v)) = x5 + 2 * (W1v - W2v) := ls_w (by omega)
        rw [E_V_eq]
        show e_tv E_C (E_V 247) e_t247_77 [192, p, ci, al, own, x5, 0, x7, x8] N = _
        unfold e_t247_77
        simp [zq_a, zq_b, zq_c, zq_d, zq_e, zq_f, zq_g, zq_h, zq_i, zq_j, zq_k, zq_l, zq_m, zq_n, zq_o, zq_p, zq_q, zq_r, zq_s, zq_t, zq_u, zq_v, zq_w, zq_x, zq_y, zq_z, zq_A, zq_B, zq_C, zq_D, zq_E, zq_F, zq_G, zq_H, zq_I, zq_J, zq_K, zq_L, ↓zq_M, ↓zq_N, ↓zq_O, ↓zq_P, ↓zq_Q, ↓zq_R, zq_S, zq_T, zq_U, zq_V, zq_W, zq_X, zq_Y, zq_Z, zq_0, zq_1, zq_2, zq_3, zq_4, zq_5, ↓zq_6, ↓zq_7, ↓zq_8, ↓zq_9, ↓zq_aa, zq_ab, zq_ac, zq_ad, zq_ae, zq_af, zq_ag, ↓zq_ah, ↓zq_ai, ↓zq_aj, zq_ak, ↓zq_al, ↓zq_am, e_b1, e_b2, x_o1, x_o2, q0, ba, b1, b2, b4, b8, v1, v2, v3, kn, kn2, bo, k1, k2, w1, w2, w3]
theorem ax_247 {g : Int → Int} {c al : Int} (hG : r_G M1 = g) (J1 : r_J M1) (K1 : rx_K M1) (hcs : hd_cs g) (hcv : hd_cvs g) (hB6 : ∀ p, cu_nl g (cu_in g p) ≤ 6 ∨ ¬ (0 ≤ p ∧ p < g 1198)) : ∃ r M', E_C 247 [192, p, c, al] M1 = some (r, M') ∧ (ax_LQ p c (g 1198) → r = ax_L g p c.toNat al ∧ M' 192 10 = 0) ∧ (¬ ax_LQ p c (g 1198) → M' 192 10 = 1) ∧ ∀ k, M' 213 k = M1 213 k := by
  have hW := (r_J_E J1).2.1
  unfold ax_LQ
  by_cases e : 0 ≤ p ∧ p < g 1198
  · have e' : 0 ≤ p ∧ p < r_G M1 1198 := by rw [hG]; exact e
    have ip := r_ip1 hW e'
    by_cases cw : 0 ≤ c ∧ c ≤ 3
    · have iw := r_in1 (M := M1) cw
      have h6 := (hB6 p).resolve_right (fun x => x e)
      obtain ⟨cn, hcn⟩ : ∃ cn : Nat, c = cn := ⟨c.toNat, by omega⟩
      have c4 : cn < 4 := by omega
      rw [show c.toNat = cn by omega]
      obtain ⟨A, hA⟩ : ∃ A, e_up M1 192 10 0 = A := ⟨_, rfl⟩
      have fA : ∀ id k, ¬ (id = 192 ∧ k = 10) → A id k = M1 id k := fun id k h => by rw [← hA, c_up_n h]
      have a10 : A 192 10 = 0 := by rw [← hA, c_up_s]
      have GA : r_G A = g := (funext fun i => fA _ _ (by omega)).trans hG
      have KA : rx_K A := ⟨(fA _ _ (by omega)).trans K1.1, (fA _ _ (by omega)).trans K1.2.1, (fA _ _ (by omega)).trans K1.2.2⟩
      have A20 : A 192 20 = -1 := (fA _ _ (by omega)).trans J1.2.2.2.2
      have hW' := hW
      rw [hG] at hW'
      obtain ⟨p1, p2, p3, p4⟩ := ls_p2 cn c4
      have sh := ls_shl cn c4
      rw [← hcn] at sh
      unfold ax_L
      by_cases a0 : al = 0
      · rw [if_pos a0]
        obtain ⟨N1, k1, g2, K2, h2, f1⟩ := rx_245 (p := p) (o := 2 * 2 ^ cn - 1) (oi := 2 * ((2 ^ cn : Nat) : Int) - 1) GA hW' KA A20 hcs hcv e h6 p1 (by omega)
        obtain ⟨N2, k2, g3, K3, h3, f2⟩ := rx_245 (p := p) (o := 2 ^ cn - 1) (oi := ((2 ^ cn : Nat) : Int) - 1) g2 hW' K2 h2 hcs hcv e h6 p2 (by omega)
        have k1 : E_C 245 [192, p, 2 * ((2 ^ cn : Nat) : Int) - 1] A = some (ls_W g p (2 * 2 ^ cn - 1), N1) := k1
        have k2 : E_C 245 [192, p, ((2 ^ cn : Nat) : Int) - 1] N1 = some (ls_W g p (2 ^ cn - 1), N2) := k2
        have W1 := ls_W_bd (p := p) h6 (2 * 2 ^ cn - 1)
        have W2 := ls_W_bd (p := p) h6 (2 ^ cn - 1)
        have n10 : N2 192 10 = 0 := (f2 _ _ (by decide) (by decide) (by omega)).trans ((f1 _ _ (by decide) (by decide) (by omega)).trans a10)
        refine ⟨_, N2, ?_, fun _ => ⟨rfl, n10⟩, fun h => absurd ⟨e, cw⟩ h, fun k => (f2 _ _ (by decide) (by decide) (by omega)).trans ((f1 _ _ (by decide) (by decide) (by omega)).trans (fA _ _ (by omega)))⟩
        clear f1 f2 fA hcs hcv hW hW' K1 K2 K3 KA g2 g3 GA h2 h3
        have o1 : 1 ≤ ((2 ^ cn : Nat) : Int) ∧ ((2 ^ cn : Nat) : Int) ≤ 8 := by omega
        generalize ls_W g p (2 * 2 ^ cn - 1) = W1v at *
        generalize ls_W g p (2 ^ cn - 1) = W2v at *
        generalize ((2 ^ cn : Nat) : Int) = ov at *
        have w0 : e_w (2 * ov) = 2 * ov := a_w_id (by omega) (by omega)
        have w1 : e_w (2 * ov - 1) = 2 * ov - 1 := a_w_id (by omega) (by omega)
        have w2 : e_w (ov - 1) = ov - 1 := a_w_id (by omega) (by omega)
        have w3 : e_w (W1v - W2v) = W1v - W2v := a_w_id (by omega) (by omega)
        subst a0
        rw [r_ent (show e_rok 247 [192, p, c, 0] = true from decide_eq_true r_ref)]
        show e_tv E_C (E_V 247) e_t247_0 [192, p, c, 0, 0, 0, 0, 0, 0] M1 = _
        unfold e_t247_0
        simp [zq_a, zq_b, zq_c, zq_d, zq_e, zq_f, zq_g, zq_h, zq_i, zq_j, zq_k, zq_l, zq_m, zq_n, zq_o, zq_p, zq_q, zq_r, zq_s, zq_t, zq_u, zq_v, zq_w, zq_x, zq_y, zq_z, zq_A, zq_B, zq_C, zq_D, zq_E, zq_F, zq_G, zq_H, zq_I, zq_J, zq_K, zq_L, ↓zq_M, ↓zq_N, ↓zq_O, ↓zq_P, ↓zq_Q, ↓zq_R, zq_S, zq_T, zq_U, zq_V, zq_W, zq_X, zq_Y, zq_Z, zq_0, zq_1, zq_2, zq_3, zq_4, zq_5, ↓zq_6, ↓zq_7, ↓zq_8, ↓zq_9, ↓zq_aa, zq_ab, zq_ac, zq_ad, zq_ae, zq_af, zq_ag, ↓zq_ah, ↓zq_ai, ↓zq_aj, zq_ak, ↓zq_al, ↓zq_am, e_b1, e_b2, x_o1, x_o2, r_F10, r_P10, ip, iw, hA, a10, sh, w0, w1, w2, w3, k1, k2]
      · rw [if_neg a0]
        obtain ⟨M', k, i1, i2⟩ := ls_77 (p := p) (c := cn) (ci := c) (al := al) (own := ((2 ^ cn : Nat) : Int)) hW' hcs hcv e c4 rfl h6 16 0 0 0 0 A rfl (by omega) rfl ⟨GA, KA, A20⟩
        refine ⟨_, M', ?_, fun _ => ⟨rfl, i1.trans a10⟩, fun h => absurd ⟨e, cw⟩ h, fun k => (i2 k).trans (fA _ _ (by omega))⟩
        clear i1 i2 fA hcs hcv hW hW'
        generalize ls_s (ls_W g p) cn 16 = z at *
        generalize ((2 ^ cn : Nat) : Int) = ov at *
        rw [r_ent (show e_rok 247 [192, p, c, al] = true from decide_eq_true r_ref)]
        show e_tv E_C (E_V 247) e_t247_0 [192, p, c, al, 0, 0, 0, 0, 0] M1 = _
        unfold e_t247_0
        simp [zq_a, zq_b, zq_c, zq_d, zq_e, zq_f, zq_g, zq_h, zq_i, zq_j, zq_k, zq_l, zq_m, zq_n, zq_o, zq_p, zq_q, zq_r, zq_s, zq_t, zq_u, zq_v, zq_w, zq_x, zq_y, zq_z, zq_A, zq_B, zq_C, zq_D, zq_E, zq_F, zq_G, zq_H, zq_I, zq_J, zq_K, zq_L, ↓zq_M, ↓zq_N, ↓zq_O, ↓zq_P, ↓zq_Q, ↓zq_R, zq_S, zq_T, zq_U, zq_V, zq_W, zq_X, zq_Y, zq_Z, zq_0, zq_1, zq_2, zq_3, zq_4, zq_5, ↓zq_6, ↓zq_7, ↓zq_8, ↓zq_9, ↓zq_aa, zq_ab, zq_ac, zq_ad, zq_ae, zq_af, zq_ag, ↓zq_ah, ↓zq_ai, ↓zq_aj, zq_ak, ↓zq_al, ↓zq_am, e_b1, e_b2, x_o1, x_o2, r_F10, r_P10, ip, iw, hA, a10, sh, a0, k]
    · have iw := r_in0 (M := M1) cw
      have z10 : (e_up M1 192 10 1) 192 10 = 1 := c_up_s
      refine ⟨0, e_up M1 192 10 1, ?_, fun h => absurd h.2 cw, fun _ => z10, fun k => c_up_n (by omega)⟩
      rw [r_ent (show e_rok 247 [192, p, c, al] = true from decide_eq_true r_ref)]
      show e_tv E_C (E_V 247) e_t247_0 [192, p, c, al, 0, 0, 0, 0, 0] M1 = _
      unfold e_t247_0
      simp [zq_a, zq_b, zq_c, zq_d, zq_e, zq_f, zq_g, zq_h, zq_i, zq_j, zq_k, zq_l, zq_m, zq_n, zq_o, zq_p, zq_q, zq_r, zq_s, zq_t, zq_u, zq_v, zq_w, zq_x, zq_y, zq_z, zq_A, zq_B, zq_C, zq_D, zq_E, zq_F, zq_G, zq_H, zq_I, zq_J, zq_K, zq_L, ↓zq_M, ↓zq_N, ↓zq_O, ↓zq_P, ↓zq_Q, ↓zq_R, zq_S, zq_T, zq_U, zq_V, zq_W, zq_X, zq_Y, zq_Z, zq_0, zq_1, zq_2, zq_3, zq_4, zq_5, ↓zq_6, ↓zq_7, ↓zq_8, ↓zq_9, ↓zq_aa, zq_ab, zq_ac, zq_ad, zq_ae, zq_af, zq_ag, ↓zq_ah, ↓zq_ai, ↓zq_aj, zq_ak, ↓zq_al, ↓zq_am, e_b1, e_b2, x_o1, x_o2, r_F10, r_P10, ip, iw, z10]
  · have ip := r_ip0 hW (show ¬ (0 ≤ p ∧ p < r_G M1 1198) by rw [hG]; exact e)
    have z10 : (e_up M1 192 10 1) 192 10 = 1 := c_up_s
    refine ⟨0, e_up M1 192 10 1, ?_, fun h => absurd h.1 e, fun _ => z10, fun k => c_up_n (by omega)⟩
    rw [r_ent (show e_rok 247 [192, p, c, al] = true from decide_eq_true r_ref)]
    show e_tv E_C (E_V 247) e_t247_0 [192, p, c, al, 0, 0, 0, 0, 0] M1 = _
    unfold e_t247_0
    simp [zq_a, zq_b, zq_c, zq_d, zq_e, zq_f, zq_g, zq_h, zq_i, zq_j, zq_k, zq_l, zq_m, zq_n, zq_o, zq_p, zq_q, zq_r, zq_s, zq_t, zq_u, zq_v, zq_w, zq_x, zq_y, zq_z, zq_A, zq_B, zq_C, zq_D, zq_E, zq_F, zq_G, zq_H, zq_I, zq_J, zq_K, zq_L, ↓zq_M, ↓zq_N, ↓zq_O, ↓zq_P, ↓zq_Q, ↓zq_R, zq_S, zq_T, zq_U, zq_V, zq_W, zq_X, zq_Y, zq_Z, zq_0, zq_1, zq_2, zq_3, zq_4, zq_5, ↓zq_6, ↓zq_7, ↓zq_8, ↓zq_9, ↓zq_aa, zq_ab, zq_ac, zq_ad, zq_ae, zq_af, zq_ag, ↓zq_ah, ↓zq_ai, ↓zq_aj, zq_ak, ↓zq_al, ↓zq_am, e_b1, e_b2, x_o1, x_o2, r_F10, r_P10, ip, z10]
theorem ax_loss {c al : Int} (h : hd_all M) (ht : h_t2 M) (J1 : r_J M1) (K1 : rx_K M1) (hfr : ∀ i, M1 193 i = M 193 i) (k1 : E_C 272 [8, p, c, al, 213] M = some (r1, M1)) (k2 : E_C 247 [192, p, c, al] M1 = some (r2, M2)) : M2 192 10 = r1 ∧ (r1 = 1 ∨ (r1 = 0 ∧ M2 213 0 = r2)) := by
  have eG : r_G M1 = r_G M := funext fun i => hfr _
  obtain ⟨r, M', b1, b2, b3, b4⟩ := ax_247 (p := p) (c := c) (al := al) eG J1 K1 (hd_cs_of h.2.1) (hd_cvs_of h.2.2.1) (ax_L6 h)
  obtain ⟨f1, f2⟩ := Prod.mk.inj (Option.some.inj (k2.symm.trans b1))
  by_cases q : ax_LQ p c (r_G M 1198)
  · obtain ⟨q1, q2⟩ := id q
    obtain ⟨n, rfl⟩ : ∃ n : Nat, p = n := ⟨p.toNat, by omega⟩
    obtain ⟨N, a1⟩ := ax_272a (c := c.toNat) (ci := c) (al := al) h ht q1.2 (by omega) (by omega)
    obtain ⟨e1, e2⟩ := Prod.mk.inj (Option.some.inj (k1.symm.trans a1))
    obtain ⟨b2, b5⟩ := b2 q
    refine ⟨by rw [f2, b5, e1], Or.inr ⟨e1, ?_⟩⟩
    rw [f2, b4, e2, c_up_s, f1, b2]
  · have a1 := ax_272b (al := al) h q
    obtain ⟨e1, e2⟩ := Prod.mk.inj (Option.some.inj (k1.symm.trans a1))
    exact ⟨by rw [f2, b3 q, e1], Or.inl e1⟩
end LS
