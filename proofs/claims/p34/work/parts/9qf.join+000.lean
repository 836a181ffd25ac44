/-! members join: exactly -/
def w_mh (K k : Int) : Prop := (K = 1 ∧ k = 0) ∨ (K = 2 ∧ (k = 0 ∨ k = 1)) ∨ (K = 3 ∧ k ≠ 3)
theorem w_54 {K k : Int} (M : EM) : (w_mh K k → E_C 54 [K, k] M = some (1, M)) ∧ (¬ w_mh K k → E_C 54 [K, k] M = some (0, M)) := by
  have s0 : E_C 54 [K, k] M = e_tv E_C (E_V 54) e_t54_0 [K, k] M := r_ent (u := 54) (as := [K, k]) (M := M) rfl
  rw [s0]
  unfold e_t54_0 w_mh
  by_cases a1 : K = 1
  · by_cases b0 : k = 0
    · refine ⟨fun _ => ?_, fun h => by omega⟩
      simp [e_tv, e_ev, e_sv, e_b1, e_b2, x_o1, x_o2, a1, b0]
    · refine ⟨fun h => by omega, fun _ => ?_⟩
      simp [e_tv, e_ev, e_sv, e_b1, e_b2, x_o1, x_o2, a1, b0]
  by_cases a2 : K = 2
  · by_cases b0 : k = 0
    · refine ⟨fun _ => ?_, fun h => by omega⟩
      simp [e_tv, e_ev, e_sv, e_b1, e_b2, x_o1, x_o2, a2, b0]
    · by_cases b1 : k = 1
      · refine ⟨fun _ => ?_, fun h => by omega⟩
        simp [e_tv, e_ev, e_sv, e_b1, e_b2, x_o1, x_o2, a2, b0, b1]
      · refine ⟨fun h => by omega, fun _ => ?_⟩
        simp [e_tv, e_ev, e_sv, e_b1, e_b2, x_o1, x_o2, a2, b0, b1]
  by_cases a3 : K = 3
  · by_cases b3 : k = 3
    · refine ⟨fun h => by omega, fun _ => ?_⟩
      simp [e_tv, e_ev, e_sv, e_b1, e_b2, x_o1, x_o2, a3, b3]
    · refine ⟨fun _ => ?_, fun h => by omega⟩
      simp [e_tv, e_ev, e_sv, e_b1, e_b2, x_o1, x_o2, a3, b3]
  refine ⟨fun h => by omega, fun _ => ?_⟩
  simp [e_tv, e_ev, e_sv, e_b1, e_b2, x_o1, x_o2, a1, a2, a3]
def w_b53 (M : EM) (p o i : Nat) (g d : Int) : EM := e_up (e_up (e_up (e_up (e_up M 15 (8 * p + i) o) 16 (8 * p + i) g) 17 (8 * p + i) d) 14 p ((i + 1 : Nat) : Int)) 13 o p
theorem w_53n {p : Nat} {o g d : Int} {M : EM} (hp : p < 40) (h : ¬ (0 ≤ o ∧ o < p ∧ M 13 o.toNat < 0 ∧ w_mh (M 11 p) (M 11 o.toNat))) : E_C 53 [10, (p : Int), o, g, d] M = some (0, M) := by
  have s0 : E_C 53 [10, (p : Int), o, g, d] M = e_tv E_C (E_V 53) e_t53_0 [10, (p : Int), o, g, d, 0, 0] M := r_ent (u := 53) (as := [10, (p : Int), o, g, d]) (M := M) (decide_eq_true (show e_isO 4 10 by decide +kernel))
  rw [s0]
  unfold e_t53_0
  rcases x_le 0 o with ⟨q0, q0_n⟩ | ⟨q0, q0_n⟩
  · rcases x_lt o ((p : Int)) with ⟨q1, q1_n⟩ | ⟨q1, q1_n⟩
    · have t1 := fun M => w_atN (a := 13) (i := o) (n := 40) (by decide +kernel) (j := o.toNat) (by omega) (by omega) M
      have t2 := fun M => w_atN (a := 11) (i := o) (n := 40) (by decide +kernel) (j := o.toNat) (by omega) (by omega) M
      have t3 := fun M => w_atN (a := 11) (i := (p : Int)) (n := 40) (by decide +kernel) (j := p) rfl (by omega) M
      rcases x_lt (M 13 o.toNat) 0 with ⟨q2, q2_n⟩ | ⟨q2, q2_n⟩
      · have k := (w_54 (K := M 11 p) (k := M 11 o.toNat) M).2 (fun e => h ⟨q0, q1, q2, e⟩)
        simp [e_tv, e_ev, e_sv, e_b1, e_b2, x_o1, x_o2, w_P1, w_P3, t1, t2, t3, q0, q0_n, q1, q1_n, q2, q2_n, k]
      · simp [e_tv, e_ev, e_sv, e_b1, e_b2, x_o1, x_o2, w_P1, w_P3, t1, t2, t3, q0, q0_n, q1, q1_n, q2, q2_n]
    · simp [e_tv, e_ev, e_sv, e_b1, e_b2, x_o1, x_o2, q0, q0_n, q1, q1_n]
  · simp [e_tv, e_ev, e_sv, e_b1, e_b2, x_o1, x_o2, q0, q0_n]
theorem w_53y {p i o : Nat} {g d : Int} {M : EM} (hp : p < 40) (ho : o < p) (h1 : M 13 o < 0) (h2 : w_mh (M 11 p) (M 11 o)) (hi : M 14 p = i) (h8 : i < 8) : E_C 53 [10, (p : Int), (o : Int), g, d] M = some (1, w_b53 M p o i g d) := by
  have s0 : E_C 53 [10, (p : Int), (o : Int), g, d] M = e_tv E_C (E_V 53) e_t53_0 [10, (p : Int), (o : Int), g, d, 0, 0] M := r_ent (u := 53) (as := [10, (p : Int), (o : Int), g, d]) (M := M) (decide_eq_true (show e_isO 4 10 by decide +kernel))
  rw [s0]
  unfold e_t53_0
  have q0 : (0 : Int) ≤ (o : Int) := by omega
  have q1 : (o : Int) < (p : Int) := by omega
  have t1 := fun M => w_atN (a := 13) (i := (o : Int)) (n := 40) (by decide +kernel) (j := o) (by omega) (by omega) M
  have t2 := fun M => w_atN (a := 11) (i := (o : Int)) (n := 40) (by decide +kernel) (j := o) (by omega) (by omega) M
  have t3 := fun M => w_atN (a := 11) (i := (p : Int)) (n := 40) (by decide +kernel) (j := p) rfl (by omega) M
  have t4 := fun M => w_atN (a := 14) (i := (p : Int)) (n := 40) (by decide +kernel) (j := p) rfl (by omega) M
  have k := (w_54 (K := M 11 p) (k := M 11 o) M).1 h2
  have w1 : e_w ((p : Int) * 8) = (p : Int) * 8 := a_w_id (by omega) (by omega)
  have w2 : e_w ((p : Int) * 8 + (i : Int)) = (p : Int) * 8 + (i : Int) := a_w_id (by omega) (by omega)
  have w3 : e_w ((i : Int) + 1) = (i : Int) + 1 := a_w_id (by omega) (by omega)
  have l1 := fun v M => w_layN (a := 15) (i := (p : Int) * 8 + (i : Int)) (n := 320) (by decide +kernel) (j := 8 * p + i) (by omega) (by omega) v M
  have l2 := fun v M => w_layN (a := 16) (i := (p : Int) * 8 + (i : Int)) (n := 320) (by decide +kernel) (j := 8 * p + i) (by omega) (by omega) v M
  have l3 := fun v M => w_layN (a := 17) (i := (p : Int) * 8 + (i : Int)) (n := 320) (by decide +kernel) (j := 8 * p + i) (by omega) (by omega) v M
  have l4 := fun v M => w_layN (a := 14) (i := (p : Int)) (n := 40) (by decide +kernel) (j := p) rfl (by omega) v M
  have l5 := fun v M => w_layN (a := 13) (i := (o : Int)) (n := 40) (by decide +kernel) (j := o) (by omega) (by omega) v M
  unfold w_b53
  simp [e_tv, e_ev, e_sv, e_b1, e_b2, x_o1, x_o2, w_P1, w_P3, w_P4, w_P5, w_P6, w_P7, t1, t2, t3, t4, hi, h1, k, q0, q1, w1, w2, w3, l1, l2, l3, l4, l5, c_up_n]
/-- the numbers of a statement, from the f-th on, may all join PART p of kind K -/
def w_j1 (M : EM) (p : Nat) (K : Int) (f i : Nat) : Prop := 0 ≤ M 167 (f + i) ∧ M 167 (f + i) < p ∧ M 13 (M 167 (f + i)).toNat < 0 ∧ w_mh K (M 11 (M 167 (f + i)).toNat) ∧ ∀ j, j < i → M 167 (f + j) ≠ M 167 (f + i)
def w_jn (M : EM) (p : Nat) (K : Int) (f n : Nat) : Prop := ∀ i, i < n → w_j1 M p K f i
/-- after i have joined -/
def w_js (M0 M : EM) (p : Nat) (K t : Int) (f i : Nat) : Prop :=
  M 11 p = K ∧ M 12 p = t ∧ M 13 p = -1 ∧ M 14 p = i ∧ M 10 0 = (p : Int) + 1 ∧
  (∀ j, j < i → M 15 (8 * p + j) = M0 167 (f + j) ∧ M 16 (8 * p + j) = M0 168 (f + j) ∧ M 17 (8 * p + j) = M0 169 (f + j) ∧ M 13 (M0 167 (f + j)).toNat = p) ∧
  (∀ q, q ≠ p → (∀ j, j < i → M0 167 (f + j) ≠ (q : Int)) → M 13 q = M0 13 q) ∧
  (∀ q, q ≠ p → M 11 q = M0 11 q ∧ M 12 q = M0 12 q ∧ M 14 q = M0 14 q ∧ M 22 q = M0 22 q ∧ M 23 q = M0 23 q ∧ M 24 q = M0 24 q) ∧
  (∀ q, (q < 8 * p ∨ 8 * p + 8 ≤ q) → M 15 q = M0 15 q ∧ M 16 q = M0 16 q ∧ M 17 q = M0 17 q) ∧
  (∀ q, (q < 4 * p ∨ 4 * p + 4 ≤ q) → M 21 q = M0 21 q) ∧
  (M 21 (4 * p) = 100 ∧ M 21 (4 * p + 1) = 0 ∧ M 21 (4 * p + 2) = 0 ∧ M 21 (4 * p + 3) = 0 ∧ M 22 p = 0 ∧ M 23 p = -1 ∧ M 24 p = -1) ∧
  (M (37 + p) 0 = 0 ∧ M (37 + p) 1 = 5 ∧ M (37 + p) 2 = 0 ∧ M (37 + p) 3 = 0 ∧ M (37 + p) 4 = 0) ∧
  (∀ id k, ¬ (id = 10 ∧ k = 0) → ¬ (11 ≤ id ∧ id ≤ 17) → ¬ (21 ≤ id ∧ id ≤ 24) → id ≠ 37 + p → M id k = M0 id k)
