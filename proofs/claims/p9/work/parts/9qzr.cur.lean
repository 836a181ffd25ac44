/-! CURRENTS of lines summed; BEST: by the class, exactly -/
section BXC
variable {f : Nat → Int} {lo hi : Int}
theorem bx_11l {N : EM} {u : Int} {m : Nat} (hlo : -1000 ≤ lo ∧ lo ≤ 1000) (hu : u = lo + m) (hm : m < 1000) (hf : ∀ c, c < 100 → N 180 c = f c) (hfall : ∀ c, c < 99 → f (c + 1) ≤ f c) (hb : 0 ≤ N 181 m ∧ N 181 m ≤ 100000) : ∀ (t c : Nat) (x3 : Int), x3 = c → c + t = 99 → (c = 0 ∨ u ≤ f c) → E_V 18 11 [170, lo, hi, x3, u] N = E_V 18 5 [170, lo, hi, (cu_cu f u 99 : Int), u - 1] (e_up N 181 m (N 181 m + (cu_cu f u 99 : Int))) := by
  have i1 : u - lo = (m : Int) := by omega
  have fin : ∀ (c : Nat) (x3 : Int), x3 = c → c ≤ 99 → (c = 0 ∨ u ≤ f c) → (c + 1 ≤ 99 → f (c + 1) < u) → E_V 18 11 [170, lo, hi, x3, u] N = E_V 18 5 [170, lo, hi, (cu_cu f u 99 : Int), u - 1] (e_up N 181 m (N 181 m + (cu_cu f u 99 : Int))) := by
    intro c x3 hx hc h0 h1
    rw [cu_cu_f hfall h0 hc h1, ← hx]
    have t1 : E_C 146 [181, u - lo] N = some (N 181 m, N) := w_atN (a := 181) (n := 1000) (by decide +kernel) (j := m) i1 hm N
    have l1 : ∀ v, E_C 147 [181, u - lo, v] N = some (0, e_up N 181 m v) := fun v => w_layN (a := 181) (n := 1000) (by decide +kernel) (j := m) i1 hm v N
    have w1 : e_w (u - lo) = u - lo := a_w_id (by omega) (by omega)
    have w2 : e_w (x3 + 1) = x3 + 1 := a_w_id (by omega) (by omega)
    have w3 : e_w (N 181 m + x3) = N 181 m + x3 := a_w_id (by omega) (by omega)
    have w4 : e_w (u + -1) = u - 1 := (a_w_id (by omega) (by omega)).trans (by omega)
    rw [E_V_eq]
    show e_tv E_C (E_V 18) e_t18_11 [170, lo, hi, x3, u] N = _
    unfold e_t18_11
    by_cases c9 : c = 99
    · have q : ¬ (x3 + 1 < 100) := by omega
      clear hf hfall h1 h0
      simp [e_tv, e_ev, e_sv, e_b1, e_b2, x_o1, x_o2, bx_Gi, q, w1, w2, w3, w4, t1, l1]
    · have q : x3 + 1 < 100 := by omega
      have t2 : E_C 146 [180, x3 + 1] N = some (f (c + 1), N) := (w_atN (a := 180) (n := 100) (by decide +kernel) (j := c + 1) (by omega) (by omega) N).trans (by rw [← hf (c + 1) (by omega)]; rfl)
      have z := h1 (by omega)
      clear hf hfall h1 h0
      revert t2 z
      generalize f (c + 1) = y
      intro t2 z
      have z_n : ¬ u ≤ y := by omega
      simp [e_tv, e_ev, e_sv, e_b1, e_b2, x_o1, x_o2, bx_Gh, bx_Gi, q, w1, w2, w3, w4, t1, t2, l1, z, z_n]
  intro t
  induction t with
  | zero => intro c x3 hx hc h0; exact fin c x3 hx (by omega) h0 (fun h => by omega)
  | succ t ih =>
    intro c x3 hx hc h0
    rcases Int.lt_or_le (f (c + 1)) u with z | z
    · exact fin c x3 hx (by omega) h0 (fun _ => z)
    · have k := ih (c + 1) (x3 + 1) (by omega) (by omega) (Or.inr z)
      rw [← k]
      have w2 : e_w (x3 + 1) = x3 + 1 := a_w_id (by omega) (by omega)
      have q : x3 + 1 < 100 := by omega
      have t2 : E_C 146 [180, x3 + 1] N = some (f (c + 1), N) := (w_atN (a := 180) (n := 100) (by decide +kernel) (j := c + 1) (by omega) (by omega) N).trans (by rw [← hf (c + 1) (by omega)]; rfl)
      clear hf hfall h0 ih k fin
      revert t2 z
      generalize f (c + 1) = y
      intro z t2
      have z_n : ¬ y < u := by omega
      rw [E_V_eq]
      show e_tv E_C (E_V 18) e_t18_11 [170, lo, hi, x3, u] N = _
      unfold e_t18_11
      simp [e_tv, e_ev, e_sv, e_b1, e_b2, x_o1, x_o2, bx_Gh, q, w2, t2, z, z_n]
theorem bx_18 {M : EM} {n : Nat} (hlo : -1000 ≤ lo ∧ lo ≤ 1000) (hn : hi - lo + 1 = n) (hn9 : n ≤ 1000) (hf : ∀ c, c < 100 → M 180 c = f c) (hfall : ∀ c, c < 99 → f (c + 1) ≤ f c) (hb : ∀ k, k < 1000 → 0 ≤ M 181 k ∧ M 181 k ≤ 100000) : ∃ M', E_C 18 [170, lo, hi] M = some (0, M') ∧ (∀ k, k < n → M' 181 k = M 181 k + (cu_cu f (lo + (k : Int)) 99 : Int)) ∧ ∀ id k, ¬ (id = 181 ∧ k < n) → M' id k = M id k := by
  have lp : ∀ (m c : Nat) (x3 u : Int) (N : EM), u = lo + (m : Int) - 1 → m ≤ n → x3 = c → c ≤ 99 → (c = 0 ∨ u ≤ f c) → (∀ k, m ≤ k → k < n → N 181 k = M 181 k + (cu_cu f (lo + (k : Int)) 99 : Int)) → (∀ id k, ¬ (id = 181 ∧ m ≤ k ∧ k < n) → N id k = M id k) → ∃ M', E_V 18 5 [170, lo, hi, x3, u] N = some (0, M') ∧ (∀ k, k < n → M' 181 k = M 181 k + (cu_cu f (lo + (k : Int)) 99 : Int)) ∧ ∀ id k, ¬ (id = 181 ∧ k < n) → M' id k = M id k := by
    intro m
    induction m with
    | zero =>
      intro c x3 u N hu hm hx hc h0 h1 h2
      have q : ¬ (lo ≤ u) := by omega
      refine ⟨N, ?_, fun k hk => h1 k (Nat.zero_le _) hk, fun id k h => h2 id k (fun e => h ⟨e.1, e.2.2⟩)⟩
      rw [E_V_eq]
      show e_tv E_C (E_V 18) e_t18_5 [170, lo, hi, x3, u] N = _
      unfold e_t18_5
      simp [e_tv, e_ev, e_sv, e_b1, e_b2, x_o1, x_o2, q]
    | succ m ih =>
      intro c x3 u N hu hm hx hc h0 h1 h2
      have q : lo ≤ u := by omega
      have u' : u = lo + (m : Int) := by omega
      have nm := h2 181 m (by omega)
      have k := bx_11l (hi := hi) (N := N) hlo u' (by omega) (fun c hc => (h2 180 c (by omega)).trans (hf c hc)) hfall (by rw [nm]; exact hb m (by omega)) (99 - c) c x3 hx (by omega) h0
      have s := cu_cu_s (f := f) (u := u) 99
      have sl := cu_cu_le (f := f) (u := u) 99
      obtain ⟨M', z, z2, z3⟩ := ih (cu_cu f u 99) (cu_cu f u 99 : Int) (u - 1) (e_up N 181 m (N 181 m + (cu_cu f u 99 : Int))) (by omega) (by omega) rfl sl (by rcases s.1 with s | s; exact Or.inl s; exact Or.inr (by omega)) (fun k k1 k2 => by
        by_cases e : k = m
        · subst e
          rw [c_up_s, nm, u']
        · rw [c_up_n (by omega)]
          exact h1 k (by omega) k2) (fun id k h => by
        rw [c_up_n (by omega)]
        exact h2 id k (by omega))
      refine ⟨M', ?_, z2, z3⟩
      rw [← z, ← k]
      clear z z2 z3 k ih h1 h2 hf hfall hb
      rw [E_V_eq]
      show e_tv E_C (E_V 18) e_t18_5 [170, lo, hi, x3, u] N = _
      unfold e_t18_5
      simp [e_tv, e_ev, e_sv, e_b1, e_b2, x_o1, x_o2, q]
  obtain ⟨M', k, kk⟩ := lp n 0 0 hi M (by omega) (Nat.le_refl _) rfl (by decide) (Or.inl rfl) (fun k h1 h2 => by omega) (fun _ _ _ => rfl)
  refine ⟨M', ?_, kk⟩
  rw [r_ent (show e_rok 18 [170, lo, hi] = true from bx_r (M := M) rfl (by decide +kernel))]
  show e_tv E_C (E_V 18) e_t18_0 [170, lo, hi, 0, 0] M = _
  unfold e_t18_0
  simp [e_tv, e_ev, e_sv, e_b1, e_b2, x_o1, x_o2, k]
end BXC
section BXS
variable {F : Nat → Nat → Int} {lo hi : Int}
/-- what pushOfLine answers, however rows 180, 181 stand -/
def bx_FL (M : EM) (F : Nat → Nat → Int) (L : Nat) : Prop := ∀ (l c : Nat) (l0 b0 : Int) (N : EM), l < L → c < 100 → l0 = l → b0 = 40 * (c : Int) → (∀ id k, id ≠ 180 → id ≠ 181 → ¬ (id = 170 ∧ k = 6) → N id k = M id k) → E_C 15 [170, l0, b0] N = some (F l c, N)
theorem bx_26 {M : EM} {L l : Nat} {l0 : Int} (hF : bx_FL M F L) (hl : l < L) (hl0 : l0 = l) : ∀ (d c : Nat) (x4 : Int) (N : EM), x4 = c → c + d = 100 → (∀ c', c' < c → N 180 c' = F l c') → (∀ id k, id ≠ 180 → id ≠ 181 → ¬ (id = 170 ∧ k = 6) → N id k = M id k) → ∃ N', E_V 17 26 [170, lo, hi, l0, x4] N = (E_C 18 [170, lo, hi] N').bind (fun r => E_V 17 15 [170, lo, hi, e_w (l0 + 1), 100] r.2) ∧ (∀ c, c < 100 → N' 180 c = F l c) ∧ ∀ id k, id ≠ 180 → N' id k = N id k := by
  intro d
  induction d with
  | zero =>
    intro c x4 N hx hc h1 h2
    have e : x4 = 100 := by omega
    subst e
    refine ⟨N, ?_, fun c' h => h1 c' (by omega), fun _ _ _ => rfl⟩
    rw [E_V_eq]
    show e_tv E_C (E_V 17) e_t17_26 [170, lo, hi, l0, 100] N = _
    unfold e_t17_26
    cases h : E_C 18 [170, lo, hi] N with
    | none => simp [e_tv, e_ev, e_sv, e_b1, e_b2, x_o1, x_o2, h]
    | some r => simp [e_tv, e_ev, e_sv, e_b1, e_b2, x_o1, x_o2, h]
  | succ d ih =>
    intro c x4 N hx hc h1 h2
    have q : x4 < 100 := by omega
    have kp := hF l c l0 (x4 * 40) N hl (by omega) hl0 (by omega) h2
    have l1 : ∀ v, E_C 147 [180, x4, v] N = some (0, e_up N 180 c v) := fun v => w_layN (a := 180) (n := 100) (by decide +kernel) (j := c) hx (by omega) v N
    obtain ⟨N', k, k2, k3⟩ := ih (c + 1) (x4 + 1) (e_up N 180 c (F l c)) (by omega) (by omega) (fun c' h => by
      by_cases e : c' = c
      · rw [e, c_up_s]
      · rw [c_up_n (by omega)]
        exact h1 c' (by omega)) (fun id k a b e => by
      rw [c_up_n (by omega)]
      exact h2 id k a b e)
    refine ⟨N', ?_, k2, fun id k h => (k3 id k h).trans (c_up_n (by omega))⟩
    rw [← k]
    clear ih k k2 k3 h1 h2 hF
    have w1 : e_w (x4 * 40) = x4 * 40 := a_w_id (by omega) (by omega)
    have w2 : e_w (x4 + 1) = x4 + 1 := a_w_id (by omega) (by omega)
    rw [E_V_eq]
    show e_tv E_C (E_V 17) e_t17_26 [170, lo, hi, l0, x4] N = _
    unfold e_t17_26
    simp [e_tv, e_ev, e_sv, e_b1, e_b2, x_o1, x_o2, bx_Gh, q, w1, w2, kp, l1]
theorem bx_17 {M : EM} {L n : Nat} (hL : M 170 5 = L) (hL6 : L ≤ 6) (hlo : -1000 ≤ lo ∧ lo ≤ 1000) (hn : hi - lo + 1 = n) (hn9 : n ≤ 1000) (hF : bx_FL M F L) (hfall : ∀ l, l < L → ∀ c, c < 99 → F l (c + 1) ≤ F l c) : ∃ M', E_C 17 [170, lo, hi] M = some (0, M') ∧ M' 170 6 = lo ∧ (∀ k, k < n → M' 181 k = cu_S F (lo + (k : Int)) L) ∧ ∀ id k, id ≠ 180 → id ≠ 181 → ¬ (id = 170 ∧ k = 6) → M' id k = M id k := by
  have lp : ∀ (d l : Nat) (l0 x4 : Int) (N : EM), l0 = l → l + d = L → N 170 6 = lo → (∀ k, k < n → N 181 k = cu_S F (lo + (k : Int)) l) → (∀ k, n ≤ k → k < 1000 → N 181 k = 0) → (∀ id k, id ≠ 180 → id ≠ 181 → ¬ (id = 170 ∧ k = 6) → N id k = M id k) → ∃ M', E_V 17 15 [170, lo, hi, l0, x4] N = some (0, M') ∧ M' 170 6 = lo ∧ (∀ k, k < n → M' 181 k = cu_S F (lo + (k : Int)) L) ∧ ∀ id k, id ≠ 180 → id ≠ 181 → ¬ (id = 170 ∧ k = 6) → M' id k = M id k := by
    intro d
    induction d with
    | zero =>
      intro l l0 x4 N hl0 hl h6 h1 h3 h2
      have e : l = L := by omega
      subst e
      have z := (h2 170 5 (by decide) (by decide) (by decide)).trans hL
      obtain ⟨LL, hLL⟩ : ∃ LL : Int, (l : Int) = LL := ⟨_, rfl⟩
      rw [hLL] at z
      have q : ¬ (l0 < LL) := by omega
      refine ⟨N, ?_, h6, h1, h2⟩
      rw [E_V_eq]
      show e_tv E_C (E_V 17) e_t17_15 [170, lo, hi, l0, x4] N = _
      unfold e_t17_15
      simp [e_tv, e_ev, e_sv, e_b1, e_b2, x_o1, x_o2, bx_F5, z, q]
    | succ d ih =>
      intro l l0 x4 N hl0 hl h6 h1 h3 h2
      have z := (h2 170 5 (by decide) (by decide) (by decide)).trans hL
      obtain ⟨LL, hLL⟩ : ∃ LL : Int, (L : Int) = LL := ⟨_, rfl⟩
      rw [hLL] at z
      have q : l0 < LL := by omega
      obtain ⟨N1, k, k2, k3⟩ := bx_26 (lo := lo) (hi := hi) hF (show l < L by omega) hl0 100 0 0 N rfl rfl (fun c' h => absurd h (Nat.not_lt_zero _)) h2
      have bd : ∀ k, k < 1000 → 0 ≤ N1 181 k ∧ N1 181 k ≤ 100000 := fun k hk => by
        rw [k3 _ _ (by decide)]
        rcases Nat.lt_or_ge k n with c | c
        · rw [h1 k c]
          have := cu_S_bd (F := F) (u := lo + (k : Int)) l
          omega
        · rw [h3 k c hk]; decide
      obtain ⟨N2, m, m2, m3⟩ := bx_18 (hi := hi) (f := F l) hlo hn hn9 k2 (hfall l (by omega)) bd
      obtain ⟨M', y, y2⟩ := ih (l + 1) (l0 + 1) 100 N2 (by omega) (by omega) ((m3 _ _ (by omega)).trans ((k3 _ _ (by decide)).trans h6)) (fun k hk => by
        rw [m2 k hk, k3 _ _ (by decide), h1 k hk]
        rfl) (fun k a b => by rw [m3 _ _ (by omega), k3 _ _ (by decide)]; exact h3 k a b) (fun id k a b e => by
        rw [m3 _ _ (by omega), k3 _ _ a]
        exact h2 id k a b e)
      refine ⟨M', ?_, y2⟩
      have w : e_w (l0 + 1) = l0 + 1 := a_w_id (by omega) (by omega)
      rw [m, w] at k
      have k' : E_V 17 26 [170, lo, hi, l0, 0] N = E_V 17 15 [170, lo, hi, l0 + 1, 100] N2 := k
      rw [← y, ← k']
      clear ih k k' k2 k3 m m2 m3 y y2 h1 h2 h3 hF bd hfall
      rw [E_V_eq]
      show e_tv E_C (E_V 17) e_t17_15 [170, lo, hi, l0, x4] N = _
      unfold e_t17_15
      simp [e_tv, e_ev, e_sv, e_b1, e_b2, x_o1, x_o2, bx_F5, z, q]
  obtain ⟨M', k, kk⟩ := lp L 0 0 0 (bx_fl (e_up M 170 6 lo) 181 1000 0 0) rfl (by omega) (by
    unfold bx_fl
    rw [if_neg (by omega), c_up_s]) (fun k hk => if_pos ⟨rfl, Nat.zero_le _, by omega⟩) (fun k a b => if_pos ⟨rfl, Nat.zero_le _, b⟩) (fun id k a b e => by
    unfold bx_fl
    rw [if_neg (fun h => b h.1), c_up_n e])
  refine ⟨M', ?_, kk⟩
  have fl := bx_fill (a := 181) (n := 1000) (v := 0) (by decide) (by decide) (by decide +kernel) (by decide) (e_up M 170 6 lo)
  have fl' : E_C 270 [181, 0] (e_up M 170 6 lo) = some (0, bx_fl (e_up M 170 6 lo) 181 1000 0 0) := fl
  rw [r_ent (show e_rok 17 [170, lo, hi] = true from bx_r (M := M) rfl (by decide +kernel))]
  show e_tv E_C (E_V 17) e_t17_0 [170, lo, hi, 0, 0] M = _
  unfold e_t17_0
  simp [e_tv, e_ev, e_sv, e_b1, e_b2, x_o1, x_o2, bx_Gi, bx_P6, fl', k]
end BXS
theorem bx_19 {M : EM} {u lo : Int} {k : Nat} (h6 : M 170 6 = lo) (hlo : -1000 ≤ lo ∧ lo ≤ 1000) (hk : u - lo = k) (h9 : k < 1000) : E_C 19 [170, u] M = some (M 181 k, M) := by
  have t : E_C 146 [181, u - lo] M = some (M 181 k, M) := w_atN (a := 181) (n := 1000) (by decide +kernel) (j := k) hk h9 M
  have w : e_w (u - lo) = u - lo := a_w_id (by omega) (by omega)
  rw [r_ent (show e_rok 19 [170, u] = true from bx_r (M := M) rfl (by decide +kernel))]
  show e_tv E_C (E_V 19) e_t19_0 [170, u] M = _
  unfold e_t19_0
  simp [e_tv, e_ev, e_sv, e_b1, e_b2, x_o1, x_o2, bx_Gi, bx_F6, h6, w, t]
theorem bx_pw {u z : Int} (hu : 0 ≤ u ∧ u ≤ 1000) (hz : 0 ≤ z ∧ z ≤ 1000) : e_w (u * z) = u * z ∧ 0 ≤ u * z ∧ u * z ≤ 1000000 := by
  have a : 0 ≤ u * z := Int.mul_nonneg hu.1 hz.1
  have b : u * z ≤ u * 1000 := Int.mul_le_mul_of_nonneg_left hz.2 hu.1
  have c : u * z ≤ 1000000 := by omega
  exact ⟨a_w_id (by omega) (by omega), a, c⟩
theorem bx_20 {M : EM} {u : Int} {k : Nat} (h6 : M 170 6 = 0) (hk : u = k) (h9 : k < 1000) (hb : 0 ≤ M 181 k ∧ M 181 k ≤ 1000) : E_C 20 [170, u] M = some (u * M 181 k, M) := by
  have t := bx_19 (u := u) (k := k) h6 (by decide) (by omega) h9
  have w := (bx_pw (u := u) (z := M 181 k) ⟨by omega, by omega⟩ hb).1
  rw [r_ent (show e_rok 20 [170, u] = true from bx_r (M := M) rfl (by decide +kernel))]
  show e_tv E_C (E_V 20) e_t20_0 [170, u] M = _
  unfold e_t20_0
  simp [e_tv, e_ev, e_sv, e_b1, e_b2, x_o1, x_o2, t, w]
/-- BEST -/
theorem bx_22 {M : EM} {s : Nat → Int} (h6 : M 170 6 = 0) (hs : ∀ u, u ≤ 500 → M 181 u = s u) (hb : ∀ u, u ≤ 500 → 0 ≤ s u ∧ s u ≤ 1000) : ∃ M', E_C 22 [170] M = some (0, M') ∧ M' 170 2 = (cu_b s 500 : Int) ∧ M' 170 1 = (cu_b s 500 : Int) * s (cu_b s 500) ∧ ∀ id k, ¬ (id = 170 ∧ (k = 1 ∨ k = 2)) → M' id k = M id k := by
  have lp : ∀ (d u b : Nat) (x1 : Int) (N : EM), x1 = u → u + d = 501 → 1 ≤ u → b = cu_b s (u - 1) → N 170 2 = (b : Int) → N 170 1 = (b : Int) * s b → (∀ id k, ¬ (id = 170 ∧ (k = 1 ∨ k = 2)) → N id k = M id k) → ∃ M', E_V 22 12 [170, x1] N = some (0, M') ∧ M' 170 2 = (cu_b s 500 : Int) ∧ M' 170 1 = (cu_b s 500 : Int) * s (cu_b s 500) ∧ ∀ id k, ¬ (id = 170 ∧ (k = 1 ∨ k = 2)) → M' id k = M id k := by
    intro d
    induction d with
    | zero =>
      intro u b x1 N hx hu h1 hb' n2 n1 hf
      have q : ¬ (x1 ≤ 500) := by omega
      have e : u - 1 = 500 := by omega
      rw [e] at hb'
      refine ⟨N, ?_, by rw [n2, hb'], by rw [n1, hb'], hf⟩
      rw [E_V_eq]
      show e_tv E_C (E_V 22) e_t22_12 [170, x1] N = _
      unfold e_t22_12
      simp [e_tv, e_ev, e_sv, e_b1, e_b2, x_o1, x_o2, q]
    | succ d ih =>
      intro u b x1 N hx hu h1 hb' n2 n1 hf
      have q : x1 ≤ 500 := by omega
      have kp := fun N : EM => fun (h6 : N 170 6 = 0) (hh : N 181 u = s u) => bx_20 (M := N) (u := x1) (k := u) h6 hx (by omega) (by rw [hh]; exact hb u (by omega))
      have kN := kp N ((hf _ _ (by omega)).trans h6) ((hf _ _ (by omega)).trans (hs u (by omega)))
      rw [show N 181 u = s u from (hf _ _ (by omega)).trans (hs u (by omega))] at kN
      have w : e_w (x1 + 1) = x1 + 1 := a_w_id (by omega) (by omega)
      have s45 : ∀ K, E_V 22 45 [170, x1] K = E_V 22 12 [170, x1 + 1] K := fun K => by
        rw [E_V_eq]
        show e_tv E_C (E_V 22) e_t22_45 [170, x1] K = _
        unfold e_t22_45
        simp [e_tv, e_ev, e_sv, e_b1, e_b2, x_o1, x_o2, w]
      have ecb : cu_b s u = if (b : Int) * s b < (u : Int) * s u then u else b := by
        obtain ⟨v, rfl⟩ : ∃ v, u = v + 1 := ⟨u - 1, by omega⟩
        rw [show v + 1 - 1 = v by omega] at hb'
        rw [hb']
        rfl
      rcases Int.lt_or_le ((b : Int) * s b) ((u : Int) * s u) with c | c
      · rw [if_pos c] at ecb
        obtain ⟨N1, hN1⟩ : ∃ N1, e_up N 170 1 (x1 * s u) = N1 := ⟨_, rfl⟩
        have f1 : ∀ id k, ¬ (id = 170 ∧ k = 1) → N1 id k = N id k := fun id k h => by rw [← hN1, c_up_n h]
        obtain ⟨M', k, kk⟩ := ih (u + 1) u (x1 + 1) (e_up N1 170 2 x1) (by omega) (by omega) (by omega) (by rw [show u + 1 - 1 = u by omega, ecb]) (by rw [c_up_s, hx]) (by rw [c_up_n (by omega), ← hN1, c_up_s, hx]) (fun id k h => by
          rw [c_up_n (fun e => h ⟨e.1, Or.inr e.2⟩), f1 _ _ (fun e => h ⟨e.1, Or.inl e.2⟩)]
          exact hf id k h)
        refine ⟨M', ?_, kk⟩
        have c' : N 170 1 < x1 * s u := by rw [n1, hx]; exact c
        have c_n : ¬ (x1 * s u ≤ N 170 1) := by omega
        rw [← k, ← s45]
        clear ih k kk s45 hf hs hb ecb n1 c f1
        subst hN1
        rw [E_V_eq]
        show e_tv E_C (E_V 22) e_t22_12 [170, x1] N = _
        unfold e_t22_12
        simp [e_tv, e_ev, e_sv, e_b1, e_b2, x_o1, x_o2, bx_F1, bx_P1, bx_P2, q, kN, c', c_n]
      · rw [if_neg (by omega)] at ecb
        obtain ⟨M', k, kk⟩ := ih (u + 1) b (x1 + 1) N (by omega) (by omega) (by omega) (by rw [show u + 1 - 1 = u by omega, ecb]) n2 n1 hf
        refine ⟨M', ?_, kk⟩
        have c' : ¬ (N 170 1 < x1 * s u) := by rw [n1, hx]; omega
        have c_n : x1 * s u ≤ N 170 1 := by omega
        rw [← k, ← s45]
        clear ih k kk s45 hf hs hb ecb n1 c
        rw [E_V_eq]
        show e_tv E_C (E_V 22) e_t22_12 [170, x1] N = _
        unfold e_t22_12
        simp [e_tv, e_ev, e_sv, e_b1, e_b2, x_o1, x_o2, bx_F1, q, kN, c', c_n]
  obtain ⟨N, hN⟩ : ∃ N, e_up (e_up M 170 1 0) 170 2 0 = N := ⟨_, rfl⟩
  have fN : ∀ id k, ¬ (id = 170 ∧ (k = 1 ∨ k = 2)) → N id k = M id k := fun id k h => by
    rw [← hN, c_up_n (fun e => h ⟨e.1, Or.inr e.2⟩), c_up_n (fun e => h ⟨e.1, Or.inl e.2⟩)]
  have n2 : N 170 2 = 0 := by rw [← hN, c_up_s]
  have n1 : N 170 1 = 0 := by rw [← hN, c_up_n (by omega), c_up_s]
  obtain ⟨M', k, kk⟩ := lp 500 1 0 1 N rfl rfl (by decide) rfl n2 (by rw [n1]; exact (Int.zero_mul _).symm) fN
  refine ⟨M', ?_, kk⟩
  have e0 : N 181 0 = s 0 := (fN _ _ (by omega)).trans (hs 0 (by decide))
  have k0 := bx_20 (M := N) (u := 0) (k := 0) ((fN _ _ (by omega)).trans h6) rfl (by decide) (by rw [e0]; exact hb 0 (by decide))
  rw [Int.zero_mul] at k0
  have w : e_w 1 = 1 := a_w_id (by decide) (by decide)
  have k45 : E_V 22 45 [170, 0] N = some (0, M') := by
    rw [E_V_eq]
    show e_tv E_C (E_V 22) e_t22_45 [170, 0] N = _
    unfold e_t22_45
    simp [e_tv, e_ev, e_sv, e_b1, e_b2, x_o1, x_o2, w, k]
  have k12 : E_V 22 12 [170, 0] N = some (0, M') := by
    rw [E_V_eq]
    show e_tv E_C (E_V 22) e_t22_12 [170, 0] N = _
    unfold e_t22_12
    simp [e_tv, e_ev, e_sv, e_b1, e_b2, x_o1, x_o2, bx_F1, k0, n1, k45]
  rw [← hN] at k12
  rw [r_ent (show e_rok 22 [170] = true from bx_r (M := M) rfl (by decide +kernel))]
  show e_tv E_C (E_V 22) e_t22_0 [170, 0] M = _
  unfold e_t22_0
  simp [e_tv, e_ev, e_sv, e_b1, e_b2, x_o1, x_o2, bx_P1, bx_P2, k12]
