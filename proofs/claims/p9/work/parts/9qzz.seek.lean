/-! seek: the two answers -/
def sk_n (u r b : Int) : Int := if r = 0 then u + b else u - b
def sk_u (u r b : Int) : Int := if sk_n u r b < 0 then 0 else if 500 < sk_n u r b then 500 else sk_n u r b
def sk_t (u r b : Int) : Int := if sk_n u r b < 0 ∨ 500 < sk_n u r b then 1 - r else r
def sk_z (P : Int → Int) (u r st l : Int) : Int := if st = 1 ∧ P u < l then 1 - r else r
def sk_s (P : Int → Int) (b : Int) (z : Int × Int × Int × Int) : Int × Int × Int × Int := (sk_u z.1 (sk_z P z.1 z.2.1 z.2.2.1 z.2.2.2) b, sk_t z.1 (sk_z P z.1 z.2.1 z.2.2.1 z.2.2.2) b, 1, P z.1)
def sk_i (P : Int → Int) (b : Int) : Nat → Int × Int × Int × Int → Int × Int × Int × Int
  | 0, z => z
  | d + 1, z => sk_i P b d (sk_s P b z)
def sk_ok (z : Int × Int × Int × Int) : Prop := (0 ≤ z.1 ∧ z.1 ≤ 500) ∧ (z.2.1 = 0 ∨ z.2.1 = 1) ∧ (z.2.2.1 = 0 ∨ z.2.2.1 = 1)
def sk_C (M : EM) (s : Nat) (b : Int) (z : Int × Int × Int × Int) : Prop := M s 0 = z.1 ∧ M s 1 = b ∧ M s 2 = z.2.1 ∧ M s 3 = z.2.2.1 ∧ (z.2.2.1 = 1 → M s 4 = z.2.2.2)
def sk_R (M : EM) (z : Int × Int × Int × Int) : Prop := M 192 27 = z.1 ∧ M 192 28 = (if z.2.1 = 0 then 1 else -1) ∧ M 192 30 = z.2.2.1 ∧ (z.2.2.1 = 1 → M 192 29 = z.2.2.2)
theorem sk_z01 {P : Int → Int} {u r st l : Int} (h : r = 0 ∨ r = 1) : sk_z P u r st l = 0 ∨ sk_z P u r st l = 1 := by
  unfold sk_z
  by_cases c : st = 1 ∧ P u < l
  · rw [if_pos c]; omega
  · rw [if_neg c]; exact h
theorem sk_ut {u r b : Int} (h : r = 0 ∨ r = 1) : (0 ≤ sk_u u r b ∧ sk_u u r b ≤ 500) ∧ (sk_t u r b = 0 ∨ sk_t u r b = 1) := by
  unfold sk_u sk_t
  generalize sk_n u r b = n
  rcases Int.lt_or_le n 0 with c | c
  · rw [if_pos c, if_pos (Or.inl c)]
    exact ⟨by decide, by omega⟩
  · rcases Int.lt_or_le 500 n with d | d
    · rw [if_neg (by omega), if_pos d, if_pos (Or.inr d)]
      exact ⟨by decide, by omega⟩
    · rw [if_neg (by omega), if_neg (by omega), if_neg (by omega)]
      exact ⟨⟨c, d⟩, h⟩
theorem sk_ok_s {P : Int → Int} {b : Int} {z : Int × Int × Int × Int} (h : sk_ok z) : sk_ok (sk_s P b z) := by
  obtain ⟨h1, h2⟩ := sk_ut (u := z.1) (b := b) (sk_z01 (P := P) (u := z.1) (st := z.2.2.1) (l := z.2.2.2) h.2.1)
  exact ⟨h1, h2, Or.inr rfl⟩
theorem sk_ok_i {P : Int → Int} {b : Int} : ∀ (d : Nat) (z : Int × Int × Int × Int), sk_ok z → sk_ok (sk_i P b d z)
  | 0, _, h => h
  | d + 1, _, h => sk_ok_i d _ (sk_ok_s h)
theorem sk_st_i {P : Int → Int} {b : Int} : ∀ (d : Nat) (z : Int × Int × Int × Int), (sk_i P b (d + 1) z).2.2.1 = 1
  | 0, _ => rfl
  | d + 1, z => sk_st_i d (sk_s P b z)
theorem sk_l_i {P : Int → Int} {b : Int} : ∀ (d : Nat) (z : Int × Int × Int × Int), sk_ok z → ∃ u, (0 ≤ u ∧ u ≤ 500) ∧ (sk_i P b (d + 1) z).2.2.2 = P u
  | 0, z, h => ⟨z.1, h.1, rfl⟩
  | d + 1, z, h => sk_l_i d (sk_s P b z) (sk_ok_s h)
theorem ax_ff {M : EM} {s k j : Nat} {v : Int} (h : j ≠ k) : (e_up M s k v) s j = M s j := c_up_n (fun hc => h hc.2)
section AXK
variable {M M1 M2 : EM} {p n r1 r2 b : Int} {s : Nat} {P : Int → Int}
/-- the class: one step's move -/
theorem ax_82e (is : e_isO 7 (s : Int)) {u r v : Int} {M : EM} (h0 : M s 0 = u) (h1 : M s 1 = b) (h2 : M s 2 = r) (hr : r = 0 ∨ r = 1) (hu : 0 ≤ u ∧ u ≤ 500) (hb : 1 ≤ b ∧ b ≤ 40) : ∃ M', E_V 82 31 [(s : Int), v] M = some (0, M') ∧ M' s 0 = sk_u u r b ∧ M' s 1 = b ∧ M' s 2 = sk_t u r b ∧ M' s 3 = 1 ∧ M' s 4 = v ∧ ∀ id k, id ≠ s → M' id k = M id k := by
  have g0 : ∀ M, e_gf 448 [(s : Int)] M = some (M s 0) := fun M => c_gf is (by decide +kernel)
  have g1 : ∀ M, e_gf 449 [(s : Int)] M = some (M s 1) := fun M => c_gf is (by decide +kernel)
  have g2 : ∀ M, e_gf 450 [(s : Int)] M = some (M s 2) := fun M => c_gf is (by decide +kernel)
  have p0 : ∀ v M, e_pf 448 [(s : Int), v] M = some (e_up M s 0 v) := fun v M => c_pf is (by decide +kernel)
  have p2 : ∀ v M, e_pf 450 [(s : Int), v] M = some (e_up M s 2 v) := fun v M => c_pf is (by decide +kernel)
  have p3 : ∀ v M, e_pf 451 [(s : Int), v] M = some (e_up M s 3 v) := fun v M => c_pf is (by decide +kernel)
  have p4 : ∀ v M, e_pf 452 [(s : Int), v] M = some (e_up M s 4 v) := fun v M => c_pf is (by decide +kernel)
  have f133 : ∀ M, E_V 82 133 [(s : Int), v] M = some (0, M) := fun M => by
    rw [E_V_eq]
    show e_tv E_C (E_V 82) e_t82_133 [(s : Int), v] M = _
    unfold e_t82_133
    simp [e_tv, e_ev, e_sv, e_b1, e_b2, x_o1, x_o2]
  have wb : e_w (-b) = -b := a_w_id (by omega) (by omega)
  obtain ⟨n, hn⟩ : ∃ n, sk_n u r b = n := ⟨_, rfl⟩
  have hn' : (r = 0 ∧ u + b = n) ∨ (r = 1 ∧ u + -b = n) := by
    unfold sk_n at hn
    rcases hr with rfl | rfl
    · exact Or.inl ⟨rfl, hn⟩
    · exact Or.inr ⟨rfl, hn⟩
  have sp : E_V 82 31 [(s : Int), v] M = (if n < 0 then some (0, e_up (e_up (e_up (e_up (e_up M s 3 1) s 4 v) s 0 n) s 0 0) s 2 (1 - r)) else if 500 < n then some (0, e_up (e_up (e_up (e_up (e_up M s 3 1) s 4 v) s 0 n) s 0 500) s 2 (1 - r)) else some (0, e_up (e_up (e_up M s 3 1) s 4 v) s 0 n)) := by
    have w : e_w n = n := a_w_id (by omega) (by omega)
    rcases hn' with ⟨rfl, e⟩ | ⟨rfl, e⟩
    · have w' : e_w (u + b) = n := by rw [e, w]
      rcases Int.lt_or_le n 0 with c | c
      · have := hu.1
        omega
      · have c0 : ¬ n < 0 := by omega
        rcases Int.lt_or_le 500 n with d | d
        · have d0 : ¬ n ≤ 500 := by omega
          rw [E_V_eq]
          show e_tv E_C (E_V 82) e_t82_31 [(s : Int), v] M = _
          unfold e_t82_31
          simp [e_tv, e_ev, e_sv, e_b1, e_b2, x_o1, x_o2, g0, g1, g2, p0, p2, p3, p4, f133, ax_ff, c_up_s, h0, h1, h2, w', c, c0, d, d0]
        · have d0 : ¬ 500 < n := by omega
          rw [E_V_eq]
          show e_tv E_C (E_V 82) e_t82_31 [(s : Int), v] M = _
          unfold e_t82_31
          simp [e_tv, e_ev, e_sv, e_b1, e_b2, x_o1, x_o2, g0, g1, g2, p0, p2, p3, p4, f133, ax_ff, c_up_s, h0, h1, h2, w', c, c0, d, d0]
    · have w' : e_w (u + -b) = n := by rw [e, w]
      rcases Int.lt_or_le n 0 with c | c
      · have c0 : ¬ 0 ≤ n := by omega
        rw [E_V_eq]
        show e_tv E_C (E_V 82) e_t82_31 [(s : Int), v] M = _
        unfold e_t82_31
        simp [e_tv, e_ev, e_sv, e_b1, e_b2, x_o1, x_o2, g0, g1, g2, p0, p2, p3, p4, f133, ax_ff, c_up_s, h0, h1, h2, wb, w', c, c0]
      · have c0 : ¬ n < 0 := by omega
        have d : n ≤ 500 := by omega
        have d0 : ¬ 500 < n := by omega
        rw [E_V_eq]
        show e_tv E_C (E_V 82) e_t82_31 [(s : Int), v] M = _
        unfold e_t82_31
        simp [e_tv, e_ev, e_sv, e_b1, e_b2, x_o1, x_o2, g0, g1, g2, p0, p2, p3, p4, f133, ax_ff, c_up_s, h0, h1, h2, wb, w', c, c0, d, d0]
  rw [sp]
  unfold sk_u sk_t
  rw [hn]
  rcases Int.lt_or_le n 0 with c | c
  · rw [if_pos c, if_pos c, if_pos (Or.inl c)]
    exact ⟨_, rfl, by simp [c_up_s, ax_ff], by simp [c_up_s, ax_ff, h1], by simp [c_up_s, ax_ff], by simp [c_up_s, ax_ff], by simp [c_up_s, ax_ff], fun id k h => by rw [c_up_n (by omega), c_up_n (by omega), c_up_n (by omega), c_up_n (by omega), c_up_n (by omega)]⟩
  · rcases Int.lt_or_le 500 n with d | d
    · rw [if_neg (by omega), if_pos d, if_neg (by omega), if_pos d, if_pos (Or.inr d)]
      exact ⟨_, rfl, by simp [c_up_s, ax_ff], by simp [c_up_s, ax_ff, h1], by simp [c_up_s, ax_ff], by simp [c_up_s, ax_ff], by simp [c_up_s, ax_ff], fun id k h => by rw [c_up_n (by omega), c_up_n (by omega), c_up_n (by omega), c_up_n (by omega), c_up_n (by omega)]⟩
    · rw [if_neg (by omega), if_neg (by omega), if_neg (by omega), if_neg (by omega), if_neg (by omega)]
      exact ⟨_, rfl, by simp [c_up_s, ax_ff], by simp [c_up_s, ax_ff, h1], by simp [c_up_s, ax_ff, h2], by simp [c_up_s, ax_ff], by simp [c_up_s, ax_ff], fun id k h => by rw [c_up_n (by omega), c_up_n (by omega), c_up_n (by omega)]⟩
theorem ax_82 (is : e_isO 7 (s : Int)) {z : Int × Int × Int × Int} {M : EM} (hz : sk_ok z) (hb : 1 ≤ b ∧ b ≤ 40) (hC : sk_C M s b z) : ∃ M', E_C 82 [(s : Int), P z.1] M = some (0, M') ∧ sk_C M' s b (sk_s P b z) ∧ ∀ id k, id ≠ s → M' id k = M id k := by
  obtain ⟨hu, hr, hst⟩ := hz
  obtain ⟨h0, h1, h2, h3, h4⟩ := hC
  have g2 : ∀ M, e_gf 450 [(s : Int)] M = some (M s 2) := fun M => c_gf is (by decide +kernel)
  have g3 : ∀ M, e_gf 451 [(s : Int)] M = some (M s 3) := fun M => c_gf is (by decide +kernel)
  have g4 : ∀ M, e_gf 452 [(s : Int)] M = some (M s 4) := fun M => c_gf is (by decide +kernel)
  have p2 : ∀ v M, e_pf 450 [(s : Int), v] M = some (e_up M s 2 v) := fun v M => c_pf is (by decide +kernel)
  unfold sk_s
  obtain ⟨u, r, st, l⟩ := z
  dsimp only at *
  generalize hv : P u = v
  have s0 : E_C 82 [(s : Int), v] M = e_tv E_C (E_V 82) e_t82_0 [(s : Int), v] M := r_ent (show e_rok 82 [(s : Int), v] = true from decide_eq_true is)
  rw [s0]
  unfold e_t82_0
  by_cases c : st = 1 ∧ v < l
  · have ez : sk_z P u r st l = 1 - r := by
      unfold sk_z
      rw [hv]
      exact if_pos c
    rw [ez]
    obtain ⟨c1, c2⟩ := c
    subst c1
    have h4' := h4 rfl
    obtain ⟨M', k, a0, a1, a2, a3, a4, a5⟩ := ax_82e (b := b) (v := v) (M := e_up M s 2 (1 - r)) is ((ax_ff (by decide)).trans h0) ((ax_ff (by decide)).trans h1) c_up_s (by omega) hu hb
    refine ⟨M', ?_, ⟨a0, a1, a2, a3, fun _ => a4⟩, fun id k h => (a5 id k h).trans (c_up_n (by omega))⟩
    rcases hr with rfl | rfl
    · have k' : E_V 82 31 [(s : Int), v] (e_up M s 2 1) = some (0, M') := k
      simp [e_tv, e_ev, e_sv, e_b1, e_b2, x_o1, x_o2, g2, g3, g4, p2, h3, h4', c2, h2, k']
    · have k' : E_V 82 31 [(s : Int), v] (e_up M s 2 0) = some (0, M') := k
      simp [e_tv, e_ev, e_sv, e_b1, e_b2, x_o1, x_o2, g2, g3, g4, p2, h3, h4', c2, h2, k']
  · have ez : sk_z P u r st l = r := by
      unfold sk_z
      rw [hv]
      exact if_neg c
    rw [ez]
    obtain ⟨M', k, a0, a1, a2, a3, a4, a5⟩ := ax_82e (v := v) is h0 h1 h2 hr hu hb
    refine ⟨M', ?_, ⟨a0, a1, a2, a3, fun _ => a4⟩, a5⟩
    rcases hst with rfl | rfl
    · simp [e_tv, e_ev, e_sv, e_b1, e_b2, x_o1, x_o2, g3, h3, k]
    · have h4' := h4 rfl
      have c2 : ¬ v < l := fun e => c ⟨rfl, e⟩
      have c3 : l ≤ v := by omega
      simp [e_tv, e_ev, e_sv, e_b1, e_b2, x_o1, x_o2, g3, g4, h3, h4', c2, c3, k]
/-- the class: steps -/
theorem ax_52 (hs : 37 ≤ s ∧ s < 77) {S : Int → Int} (hb : 1 ≤ b ∧ b ≤ 40) (hS : ∀ u, 0 ≤ u ∧ u ≤ 500 → 0 ≤ S u ∧ S u ≤ 1000) (hn : n ≤ 100) : ∀ (d : Nat) (x4 : Int) (z : Int × Int × Int × Int) (M : EM), sk_ok z → sk_C M s b z → M 170 6 = 0 → (∀ u : Nat, u ≤ 500 → M 181 u = S (u : Int)) → n - x4 = d → 0 ≤ x4 → ∃ M', E_V 115 52 [8, p, n, (s : Int), x4] M = some ((sk_i (fun u => u * S u) b d z).1, M') ∧ sk_C M' s b (sk_i (fun u => u * S u) b d z) ∧ ∀ id k, id ≠ s → M' id k = M id k := by
  have is : e_isO 7 (s : Int) := p_is7 (by omega)
  have g0 : ∀ M, e_gf 448 [(s : Int)] M = some (M s 0) := fun M => c_gf is (by decide +kernel)
  intro d
  induction d with
  | zero =>
    intro x4 z M hz hC h6 h181 hd h0
    refine ⟨M, ?_, hC, fun _ _ _ => rfl⟩
    show _ = some (z.1, M)
    have q : ¬ x4 < n := by omega
    obtain ⟨c0, -⟩ := hC
    clear h181 hS
    generalize z.1 = zz at *
    rw [E_V_eq]
    show e_tv E_C (E_V 115) e_t115_52 [8, p, n, (s : Int), x4] M = _
    unfold e_t115_52
    simp [e_tv, e_ev, e_sv, e_b1, e_b2, x_o1, x_o2, g0, c0, q]
  | succ d ih =>
    intro x4 z M hz hC h6 h181 hd h0
    have q : x4 < n := by omega
    have w : e_w (x4 + 1) = x4 + 1 := a_w_id (by omega) (by omega)
    obtain ⟨M1, k1, t1, t2⟩ := ax_82 (P := fun u => u * S u) is hz hb hC
    obtain ⟨M', k, m1, m2⟩ := ih (x4 + 1) (sk_s (fun u => u * S u) b z) M1 (sk_ok_s hz) t1 ((t2 _ _ (by omega)).trans h6) (fun u hu => (t2 _ _ (by omega)).trans (h181 u hu)) (by omega) (by omega)
    refine ⟨M', ?_, m1, fun id k h => (m2 id k h).trans (t2 id k h)⟩
    show _ = some ((sk_i (fun u => u * S u) b d (sk_s (fun u => u * S u) b z)).1, M')
    rw [← k]
    obtain ⟨uu, huu⟩ : ∃ uu : Nat, z.1 = uu := ⟨z.1.toNat, by have := hz.1; omega⟩
    have hz1 := hz.1
    have e181 : M 181 uu = S z.1 := by rw [h181 uu (by omega), huu]
    have sb := hS z.1 hz1
    have pw := bx_20 (u := z.1) (k := uu) h6 huu (by omega) (by rw [e181]; exact sb)
    rw [e181] at pw
    obtain ⟨c0, -⟩ := hC
    have k1 : E_C 82 [(s : Int), z.1 * S z.1] M = some (0, M1) := k1
    clear h181 hS ih k m1 m2 e181 huu
    generalize S z.1 = ss at *
    generalize z.1 = zz at *
    rw [E_V_eq]
    show e_tv E_C (E_V 115) e_t115_52 [8, p, n, (s : Int), x4] M = _
    unfold e_t115_52
    simp [e_tv, e_ev, e_sv, e_b1, e_b2, x_o1, x_o2, ax_bench, g0, c0, q, w, pw, k1]
end AXK
