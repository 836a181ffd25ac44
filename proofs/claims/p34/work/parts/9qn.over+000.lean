/-! the reference makes a FIELD or a BOX: exactly -/
def y_K (ks kd : Int) : Int := e_bit (fun x y => x &&& y) (e_bit (fun x y => x >>> (y &&& 31)) ks kd) 1
theorem y_may {q p ks : Int} {M : EM} (hq : 0 ≤ q) (hp : p ≤ 40) : (q < p ∧ y_K ks (r_G M (28 * q)) = 1 ∧ r_G M (28 * q + 1) = 0 → E_C 185 [192, q, p, ks] M = some (1, M)) ∧ (¬ (q < p ∧ y_K ks (r_G M (28 * q)) = 1 ∧ r_G M (28 * q + 1) = 0) → E_C 185 [192, q, p, ks] M = some (0, M)) := by
  rcases x_lt q p with ⟨c0, c0_n⟩ | ⟨c0, c0_n⟩
  · have kk : E_C 170 [192, q] M = some (r_G M (28 * q), M) := r_kind ⟨hq, by omega⟩
    have w1 : e_w (28 * q) = 28 * q := a_w_id (by omega) (by omega)
    have w2 : e_w (28 * q + 1) = 28 * q + 1 := a_w_id (by omega) (by omega)
    have l1 : e_op 60 [193, 28 * q + 1] M = some (r_G M (28 * q + 1)) := r_rd (by omega) (by omega)
    obtain ⟨z, hz⟩ : ∃ z, z = y_K ks (r_G M (28 * q)) := ⟨_, rfl⟩
    have hz' : e_bit (fun x y => x &&& y) (e_bit (fun x y => x >>> (y &&& 31)) ks (r_G M (28 * q))) 1 = z := hz.symm
    rw [← hz]
    clear hz
    by_cases c1 : z = 1
    · by_cases c2 : r_G M (28 * q + 1) = 0
      · refine ⟨fun _ => ?_, fun h => absurd ⟨c0, c1, c2⟩ h⟩
        rw [r_ent (show e_rok 185 [192, q, p, ks] = true from decide_eq_true r_ref)]
        show e_tv E_C (E_V 185) e_t185_0 [192, q, p, ks, 0] M = _
        unfold e_t185_0
        simp [e_tv, e_ev, e_sv, e_b1, e_b2, x_o1, x_o2, r_O0, c0, c0_n, kk, hz', c1, w1, w2, l1, c2]
      · refine ⟨fun h => absurd h.2.2 c2, fun _ => ?_⟩
        rw [r_ent (show e_rok 185 [192, q, p, ks] = true from decide_eq_true r_ref)]
        show e_tv E_C (E_V 185) e_t185_0 [192, q, p, ks, 0] M = _
        unfold e_t185_0
        simp [e_tv, e_ev, e_sv, e_b1, e_b2, x_o1, x_o2, r_O0, c0, c0_n, kk, hz', c1, w1, w2, l1, c2]
    · refine ⟨fun h => absurd h.2.1 c1, fun _ => ?_⟩
      rw [r_ent (show e_rok 185 [192, q, p, ks] = true from decide_eq_true r_ref)]
      show e_tv E_C (E_V 185) e_t185_0 [192, q, p, ks, 0] M = _
      unfold e_t185_0
      simp [e_tv, e_ev, e_sv, e_b1, e_b2, x_o1, x_o2, r_O0, c0, c0_n, kk, hz', c1]
  · refine ⟨fun h => absurd h.1 c0, fun _ => ?_⟩
    rw [r_ent (show e_rok 185 [192, q, p, ks] = true from decide_eq_true r_ref)]
    show e_tv E_C (E_V 185) e_t185_0 [192, q, p, ks, 0] M = _
    unfold e_t185_0
    simp [e_tv, e_ev, e_sv, e_b1, e_b2, x_o1, x_o2, c0, c0_n]
theorem y_Kmh {kd : Int} (hk : 0 ≤ kd ∧ kd ≤ 3) : (y_K 1 kd = 1 ↔ w_mh 1 kd) ∧ (y_K 3 kd = 1 ↔ w_mh 2 kd) ∧ (y_K 7 kd = 1 ↔ w_mh 3 kd) := by
  have h : kd = 0 ∨ kd = 1 ∨ kd = 2 ∨ kd = 3 := by omega
  unfold y_K w_mh
  rcases h with rfl | rfl | rfl | rfl <;> decide +kernel
/-- the numbers of the TEXT as the class's rows hold them -/
def y_X (b : Nat → Int) (n : Nat) (X : Nat → Int) : Prop := ∀ k, k < n → w_N b k → X (w_T b k 8).toNat = w_v b n k
theorem y_v99 {b : Nat → Int} {n k : Nat} (h : w_N b k) : 0 ≤ w_v b n k ∧ w_v b n k ≤ 99 := by
  have := h.2
  unfold w_v
  split <;> omega
theorem y_may2 {p ks : Int} (hp : p ≤ 40) : ∀ (q : Int) (M : EM), 0 ≤ q → (q < p ∧ y_K ks (r_G M (28 * q)) = 1 ∧ r_G M (28 * q + 1) = 0 → E_C 185 [192, q, p, ks] M = some (1, M)) ∧ (¬ (q < p ∧ y_K ks (r_G M (28 * q)) = 1 ∧ r_G M (28 * q + 1) = 0) → E_C 185 [192, q, p, ks] M = some (0, M)) := fun _ _ hq => y_may hq hp
/-- member i may come into PART p -/
def y_J (g0 : Int → Int) (p : Nat) (Q : Int → Prop) (X : Nat → Int) (f i : Nat) : Prop := (0 ≤ X (f + i) ∧ X (f + i) < p) ∧ Q (g0 (28 * X (f + i))) ∧ g0 (28 * X (f + i) + 1) = 0 ∧ ∀ j, j < i → X (f + j) ≠ X (f + i)
def y_mr (g0 g : Int → Int) (p : Nat) (X : Nat → Int) (f i : Nat) : Prop := (∀ j, j < i → g (28 * (p : Int) + 3 + j) = X (f + j) ∧ g (28 * X (f + j) + 1) = (p : Int) + 1) ∧ (∀ x, 0 ≤ x → (x < 28 * (p : Int) ∨ 28 * (p : Int) + 28 ≤ x) → (∀ j, j < i → x ≠ 28 * X (f + j) + 1) → g x = g0 x)
def y_bl (g0 g : Int → Int) (p : Nat) (S : Int → Prop) : Prop := ∀ x, 0 ≤ x → x < 28 → ¬ S x → g (28 * (p : Int) + x) = g0 (28 * (p : Int) + x)
/-- all but the row is as it was, but for the place and the number -/
def y_fr (N M : EM) : Prop := ∀ id i, id ≠ 193 → ¬ (id = 192 ∧ (i = 15 ∨ i = 18)) → M id i = N id i
