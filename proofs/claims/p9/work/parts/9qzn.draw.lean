/-! the class draws CELLS: exactly -/
theorem bx_shv {l d w : Int} (hl : 0 ≤ l ∧ l ≤ 100) (hd : 0 ≤ d ∧ d ≤ 100) (hw : 0 ≤ w ∧ w ≤ 100) : e_w ((e_w (e_w (l * e_w (100 - d)) * e_w (100 - w))).tdiv 10000) = (l * (100 - d) * (100 - w)).tdiv 10000 ∧ 0 ≤ (l * (100 - d) * (100 - w)).tdiv 10000 ∧ (l * (100 - d) * (100 - w)).tdiv 10000 ≤ 100 := by
  have a0 : 0 ≤ l * (100 - d) := Int.mul_nonneg hl.1 (by omega)
  have a1 : l * (100 - d) ≤ l * 100 := Int.mul_le_mul_of_nonneg_left (by omega) hl.1
  have b0 : 0 ≤ l * (100 - d) * (100 - w) := Int.mul_nonneg a0 (by omega)
  have b1 : l * (100 - d) * (100 - w) ≤ l * (100 - d) * 100 := Int.mul_le_mul_of_nonneg_left (by omega) a0
  rw [a_w_id (x := 100 - d) (by omega) (by omega), a_w_id (x := 100 - w) (by omega) (by omega)]
  revert a0 a1 b0 b1
  generalize l * (100 - d) = A
  intro a0 a1 b0 b1
  rw [a_w_id (x := A) (by omega) (by omega)]
  revert b0 b1
  generalize A * (100 - w) = B
  intro b0 b1
  rw [a_w_id (x := B) (by omega) (by omega), Int.tdiv_eq_ediv_of_nonneg b0]
  have z : 0 ≤ B / 10000 ∧ B / 10000 ≤ 100 := by omega
  exact ⟨a_w_id (by omega) (by omega), z⟩
def bx_sh (M : EM) (j : Nat) : Int := if M 176 j = 0 then (M 175 (4 * j) * (100 - M 175 (4 * j + 1)) * (100 - M 175 (4 * j + 2))).tdiv 10000 else 0
/-- CELL j of the bench, known -/
def bx_kn (g : Int → Int) (SH WM : Int → Int) (M : EM) (j : Nat) : Prop := ∃ q : Nat, M 174 j = q ∧ (q : Int) < g 1198 ∧ g (28 * (q : Int)) = 0 ∧ (∀ a, a < 4 → 0 ≤ M 175 (4 * j + a) ∧ M 175 (4 * j + a) ≤ 100) ∧ bx_sh M j = SH q ∧ M 175 (4 * j + 3) = WM q
def bx_DP (g : Int → Int) (M M' : EM) (j n : Nat) (q s w : Int) : Prop := (∀ i, i < n → M' 177 (6 * j + i) = cu_pv g w q i ∧ M' 178 (6 * j + i) = cu_cv g s q i) ∧ ∀ id k, ¬ ((id = 177 ∨ id = 178) ∧ 6 * j ≤ k ∧ k < 6 * j + 6) → M' id k = M id k
theorem bx_pve {g : Int → Int} {w q z : Int} {i : Nat} (hz : z = g (28 * q + 3 + (i : Int))) (h0 : 0 ≤ z ∧ z ≤ 60) (hw : 0 ≤ w ∧ w ≤ 100) : e_w (z - e_w ((e_w (z * w)).tdiv 100)) = cu_pv g w q i := by
  unfold cu_pv
  rw [← hz]
  have d := cu_wv (p := z) (w := w) ⟨h0.1, by omega⟩ hw
  rw [a_w_id (x := z * w) (by omega) (by omega), a_w_id (x := (z * w).tdiv 100) (by omega) (by omega), a_w_id (by omega) (by omega)]
theorem bx_cve {g : Int → Int} {s q z : Int} {i : Nat} (hz : z = g (28 * q + 9 + (i : Int))) (h0 : 0 ≤ z ∧ z ≤ 99) (hs : 0 ≤ s ∧ s ≤ 100) : e_w ((e_w (z * s)).tdiv 100) = cu_cv g s q i := by
  unfold cu_cv
  rw [← hz]
  have d := cu_wv (p := z) (w := s) ⟨h0.1, by omega⟩ hs
  rw [a_w_id (x := z * s) (by omega) (by omega), a_w_id (x := (z * s).tdiv 100) (by omega) (by omega)]
theorem bx_74 {g : Int → Int} {M0 : EM} {j q n : Nat} {j0 s w x2 : Int} (hj0 : j0 = j) (hj : j < 40) (hq : q < 40) (h174 : M0 174 j = q) (hd : hd_d0 M0 0 g q) (hn : g (28 * (q : Int) + 2) = n) (hs : 0 ≤ s ∧ s ≤ 100) (hw : 0 ≤ w ∧ w ≤ 100) : ∀ (d i : Nat) (x5 x6 x7 : Int) (M : EM), x5 = i → i + d = 6 → (∀ k, k < i → k < n → M 177 (6 * j + k) = cu_pv g w q k ∧ M 178 (6 * j + k) = cu_cv g s q k) → (∀ id k, ¬ ((id = 177 ∨ id = 178) ∧ 6 * j ≤ k ∧ k < 6 * j + 6) → M id k = M0 id k) → ∃ M', E_V 9 74 [170, j0, x2, w, s, x5, x6, x7] M = some (0, M') ∧ bx_DP g M0 M' j n q s w := by
  obtain ⟨hv, d2, d3⟩ := hd
  obtain ⟨n2, n6, b3, -, -, -⟩ := hd_cv_bd hv hn
  intro d
  induction d with
  | zero =>
    intro i x5 x6 x7 M hx hi h1 h2
    have q5 : ¬ (x5 < 6) := by omega
    refine ⟨M, ?_, fun k hk => h1 k (by omega) hk, h2⟩
    rw [E_V_eq]
    show e_tv E_C (E_V 9) e_t9_74 [170, j0, x2, w, s, x5, x6, x7] M = _
    unfold e_t9_74
    simp [e_tv, e_ev, e_sv, e_b1, e_b2, x_o1, x_o2, q5]
  | succ d ih =>
    intro i x5 x6 x7 M hx hi h1 h2
    have q5 : x5 < 6 := by omega
    have i1 : (q : Int) * 6 + x5 = ((6 * q + i : Nat) : Int) := by omega
    have i2 : 6 * q + i < 240 := by omega
    have i3 : j0 * 6 + x5 = ((6 * j + i : Nat) : Int) := by omega
    have i4 : 6 * j + i < 240 := by omega
    obtain ⟨u, hu⟩ : ∃ u, M0 19 (6 * q + i) = u := ⟨_, rfl⟩
    obtain ⟨v, hv'⟩ : ∃ v, M0 20 (6 * q + i) = v := ⟨_, rfl⟩
    obtain ⟨pv, hpv⟩ : ∃ pv, e_w (u - e_w ((e_w (u * w)).tdiv 100)) = pv := ⟨_, rfl⟩
    obtain ⟨cv, hcv⟩ : ∃ cv, e_w ((e_w (v * s)).tdiv 100) = cv := ⟨_, rfl⟩
    have vals : i < n → pv = cu_pv g w q i ∧ cv = cu_cv g s q i := fun hin => by
      obtain ⟨e1, e2⟩ := d3 i (by omega)
      obtain ⟨c1, c2⟩ := b3 i hin
      have e1' : u = g (28 * (q : Int) + 3 + (i : Int)) := hu.symm.trans e1
      have e2' : v = g (28 * (q : Int) + 9 + (i : Int)) := hv'.symm.trans e2
      exact ⟨hpv.symm.trans (bx_pve e1' (by rw [e1']; exact c1) hw), hcv.symm.trans (bx_cve e2' (by rw [e2']; exact c2) hs)⟩
    have l1 := w_layN (a := 177) (i := j0 * 6 + x5) (n := 240) (by decide +kernel) (j := 6 * j + i) i3 i4 pv M
    have l1' : E_C 147 [177, j0 * 6 + x5, pv] M = some (0, e_up M 177 (6 * j + i) pv) := l1
    have l2 := w_layN (a := 178) (i := j0 * 6 + x5) (n := 240) (by decide +kernel) (j := 6 * j + i) i3 i4 cv (e_up M 177 (6 * j + i) pv)
    have l2' : E_C 147 [178, j0 * 6 + x5, cv] (e_up M 177 (6 * j + i) pv) = some (0, e_up (e_up M 177 (6 * j + i) pv) 178 (6 * j + i) cv) := l2
    obtain ⟨M1, hM1⟩ : ∃ M1, e_up (e_up M 177 (6 * j + i) pv) 178 (6 * j + i) cv = M1 := ⟨_, rfl⟩
    rw [hM1] at l2'
    have t1 := fun N : EM => w_atN (a := 174) (i := j0) (n := 40) (by decide +kernel) (j := j) hj0 hj N
    have t174 : E_C 146 [174, j0] M = some ((q : Int), M) := (t1 M).trans (by rw [show M (174 : Int).toNat j = M0 174 j from h2 _ _ (by omega), h174])
    have t19 := w_atN (a := 19) (i := (q : Int) * 6 + x5) (n := 240) (by decide +kernel) (j := 6 * q + i) i1 i2 M
    have t19' : E_C 146 [19, (q : Int) * 6 + x5] M = some (u, M) := t19.trans (by rw [show M (19 : Int).toNat (6 * q + i) = M0 19 (6 * q + i) from h2 _ _ (by omega), hu])
    have t20 := w_atN (a := 20) (i := (q : Int) * 6 + x5) (n := 240) (by decide +kernel) (j := 6 * q + i) i1 i2 M
    have t20' : E_C 146 [20, (q : Int) * 6 + x5] M = some (v, M) := t20.trans (by rw [show M (20 : Int).toNat (6 * q + i) = M0 20 (6 * q + i) from h2 _ _ (by omega), hv'])
    obtain ⟨M', k, kk⟩ := ih (i + 1) (x5 + 1) u v M1 (by omega) (by omega) (fun k k1 k2 => by
      by_cases e : k = i
      · subst e
        obtain ⟨v1, v2⟩ := vals k2
        refine ⟨?_, ?_⟩
        · rw [← hM1, c_up_n (by omega), c_up_s, v1]
        · rw [← hM1, c_up_s, v2]
      · obtain ⟨z1, z2⟩ := h1 k (by omega) k2
        refine ⟨?_, ?_⟩
        · rw [← hM1, c_up_n (by omega), c_up_n (by omega)]; exact z1
        · rw [← hM1, c_up_n (by omega), c_up_n (by omega)]; exact z2) (fun id k h => by
      rw [← hM1, c_up_n (by omega), c_up_n (by omega)]
      exact h2 id k h)
    refine ⟨M', ?_, kk⟩
    clear ih h1 h2 vals kk d3 b3
    obtain ⟨qq, hqq⟩ : ∃ qq : Int, (q : Int) = qq := ⟨_, rfl⟩
    rw [hqq] at t174 t19' t20' i1
    have w1 : e_w (qq * 6) = qq * 6 := a_w_id (by omega) (by omega)
    have w2 : e_w (qq * 6 + x5) = qq * 6 + x5 := a_w_id (by omega) (by omega)
    have w3 : e_w (j0 * 6) = j0 * 6 := a_w_id (by omega) (by omega)
    have w4 : e_w (j0 * 6 + x5) = j0 * 6 + x5 := a_w_id (by omega) (by omega)
    have w5 : e_w (x5 + 1) = x5 + 1 := a_w_id (by omega) (by omega)
    rw [E_V_eq]
    show e_tv E_C (E_V 9) e_t9_74 [170, j0, x2, w, s, x5, x6, x7] M = _
    unfold e_t9_74
    simp [e_tv, e_ev, e_sv, e_b1, e_b2, x_o1, x_o2, bx_G3, bx_Gb, bx_Ge, bx_Gf, w_H1, w_C0, w_C1, q5, w1, w2, w3, w4, w5, t174, t19', t20', hpv, hcv, l1', l2', k]
theorem bx_9 {g : Int → Int} {M : EM} {j q n : Nat} {j0 : Int} (hj0 : j0 = j) (hj : j < 40) (hq : q < 40) (h174 : M 174 j = q) (hd : hd_d0 M 0 g q) (hn : g (28 * (q : Int) + 2) = n) (ha : ∀ a, a < 4 → 0 ≤ M 175 (4 * j + a) ∧ M 175 (4 * j + a) ≤ 100) : (0 ≤ bx_sh M j ∧ bx_sh M j ≤ 100) ∧ ∃ M', E_C 9 [170, j0] M = some (0, M') ∧ bx_DP g M M' j n q (bx_sh M j) (M 175 (4 * j + 3)) := by
  have a0 := ha 0 (by decide)
  have a1 := ha 1 (by decide)
  have a2 := ha 2 (by decide)
  have a3 := ha 3 (by decide)
  rw [Nat.add_zero] at a0
  obtain ⟨z1, z2⟩ := bx_shv a0 a1 a2
  have hs : 0 ≤ bx_sh M j ∧ bx_sh M j ≤ 100 := by
    unfold bx_sh
    by_cases c : M 176 j = 0
    · rw [if_pos c]; exact z2
    · rw [if_neg c]; omega
  refine ⟨hs, ?_⟩
  obtain ⟨M', k, kk⟩ := bx_74 (x2 := j0 * 4) hj0 hj hq h174 hd hn hs a3 6 0 0 0 0 M rfl rfl (fun k h => absurd h (Nat.not_lt_zero _)) (fun _ _ _ => rfl)
  refine ⟨M', ?_, kk⟩
  clear kk hd hn
  have i0 : j0 * 4 = ((4 * j : Nat) : Int) := by omega
  have i1 : j0 * 4 + 1 = ((4 * j + 1 : Nat) : Int) := by omega
  have i2 : j0 * 4 + 2 = ((4 * j + 2 : Nat) : Int) := by omega
  have i3 : j0 * 4 + 3 = ((4 * j + 3 : Nat) : Int) := by omega
  have t0 : E_C 146 [175, j0 * 4] M = some (M 175 (4 * j), M) := w_atN (a := 175) (n := 160) (by decide +kernel) (j := 4 * j) i0 (by omega) M
  have t1 : E_C 146 [175, j0 * 4 + 1] M = some (M 175 (4 * j + 1), M) := w_atN (a := 175) (n := 160) (by decide +kernel) (j := 4 * j + 1) i1 (by omega) M
  have t2 : E_C 146 [175, j0 * 4 + 2] M = some (M 175 (4 * j + 2), M) := w_atN (a := 175) (n := 160) (by decide +kernel) (j := 4 * j + 2) i2 (by omega) M
  have t3 : E_C 146 [175, j0 * 4 + 3] M = some (M 175 (4 * j + 3), M) := w_atN (a := 175) (n := 160) (by decide +kernel) (j := 4 * j + 3) i3 (by omega) M
  have t4 : E_C 146 [176, j0] M = some (M 176 j, M) := w_atN (a := 176) (n := 40) (by decide +kernel) (j := j) hj0 hj M
  have w1 : e_w (j0 * 4) = j0 * 4 := a_w_id (by omega) (by omega)
  have w2 : e_w (j0 * 4 + 1) = j0 * 4 + 1 := a_w_id (by omega) (by omega)
  have w3 : e_w (j0 * 4 + 2) = j0 * 4 + 2 := a_w_id (by omega) (by omega)
  have w4 : e_w (j0 * 4 + 3) = j0 * 4 + 3 := a_w_id (by omega) (by omega)
  have k71 : ∀ s, E_V 9 71 [170, j0, j0 * 4, M 175 (4 * j + 3), s, 0, 0, 0] M = E_V 9 74 [170, j0, j0 * 4, M 175 (4 * j + 3), s, 0, 0, 0] M := fun s => by
    rw [E_V_eq]
    show e_tv E_C (E_V 9) e_t9_71 [170, j0, j0 * 4, M 175 (4 * j + 3), s, 0, 0, 0] M = _
    unfold e_t9_71
    simp [e_tv, e_ev, e_sv, e_b1, e_b2, x_o1, x_o2]
  have k' := (k71 (bx_sh M j)).trans k
  clear k71 k i0 i1 i2 i3 ha h174
  unfold bx_sh at k'
  rw [r_ent (show e_rok 9 [170, j0] = true from bx_r (M := M) rfl (by decide +kernel))]
  show e_tv E_C (E_V 9) e_t9_0 [170, j0, 0, 0, 0, 0, 0, 0] M = _
  unfold e_t9_0
  by_cases c : M 176 j = 0
  · rw [if_pos c, ← z1] at k'
    rw [c] at t4
    simp [e_tv, e_ev, e_sv, e_b1, e_b2, x_o1, x_o2, bx_Gc, bx_Gd, w1, w2, w3, w4, t0, t1, t2, t3, t4, k']
  · rw [if_neg c] at k'
    simp [e_tv, e_ev, e_sv, e_b1, e_b2, x_o1, x_o2, bx_Gc, bx_Gd, w1, w2, w3, w4, t0, t1, t2, t3, t4, c, k']
