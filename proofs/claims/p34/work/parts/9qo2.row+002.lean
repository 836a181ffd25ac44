section YR2
variable {b : Nat → Int} {n : Nat} {p : Nat} {N : EM} {X G D : Nat → Int} {g0 : Int → Int} {f : Nat} {Q : Int → Prop}
theorem y_r7 (hA : w_A b n) (hz : w_T b n 2 = 0) (hp : p < 40) (hmay : ∀ (q : Int) (M : EM), 0 ≤ q → (q < p ∧ Q (r_G M (28 * q)) ∧ r_G M (28 * q + 1) = 0 → E_C 185 [192, q, (p : Int), 1] M = some (1, M)) ∧ (¬ (q < p ∧ Q (r_G M (28 * q)) ∧ r_G M (28 * q + 1) = 0) → E_C 185 [192, q, (p : Int), 1] M = some (0, M))) (hX : y_X b n X) (hXG : y_XG b n G D) : ∀ (m k0 : Nat), n - k0 ≤ m → ∀ (M : EM) (x2 x4 x5 x6 x7 : Int) (i gr : Nat), y_B b n k0 M → k0 < n → y_fr N M → w_T b (k0 + 1) 2 = 1 → w_T b (k0 + 1) 3 = 114 → w_T b (k0 + 1) 5 = 0 → w_T b (k0 + 1) 8 = ((f + i : Nat) : Int) → w_T b (k0 + 1) 6 = (gr : Int) + 1 → y_IR g0 p Q X G D f i gr M x2 x4 → (∀ j, j < i → 0 ≤ G (f + j) ∧ G (f + j) < gr) → y_gp G f i ((gr : Int) - 1) → gr ≤ i → (∀ x : Int, 0 ≤ x → x < p → g0 (28 * x) = r_G M (28 * x)) → y_RE b n N g0 p Q X G D f k0 i (E_V 186 7 [192, (p : Int), x2, (gr : Int), x4, x5, x6, x7] M) := by
  intro m
  induction m with
  | zero =>
    intro k0 hm M x2 x4 x5 x6 x7 i gr hB hk
    omega
  | succ m ih =>
    intro k0 hm M x2 x4 x5 x6 x7 i gr hB hk hf h2 h3 h5 h8 h6 hI hG hgp hgi hkd
    have hH : y_RH b n p Q N X G D g0 f k0 := fun k M x2 x4 x5 x6 x7 i gr hlt hB hk hf h2 h3 h5 h8 h6 hI hG hgp hgi hkd => ih k (by omega) M x2 x4 x5 x6 x7 i gr hB hk hf h2 h3 h5 h8 h6 hI hG hgp hgi hkd
    obtain ⟨o1, o2⟩ := y_on hB hk
    have A1 := w_Al hA (show k0 + 1 ≤ n by omega)
    have w1 := y_k1 hB
    have h15 := hB.2.1
    have f1 := y_fr_t hf o1
    have G1 := y_G_t o1
    obtain ⟨M1, hM1⟩ : ∃ M1, e_up M 192 15 ((k0 : Int) + 1) = M1 := ⟨_, rfl⟩
    rw [hM1] at o1 o2 f1 G1
    obtain ⟨t1, t2⟩ := y_takes (c := 91) o2 (by decide)
    have I1 : y_IR g0 p Q X G D f i gr M1 x2 x4 := by
      unfold y_IR at hI ⊢
      rw [G1]
      exact hI
    have kd1 : ∀ x : Int, 0 ≤ x → x < p → g0 (28 * x) = r_G M1 (28 * x) := fun x x0 x1 => by rw [G1]; exact hkd x x0 x1
    by_cases c : y_s b n (k0 + 1) = 91
    · obtain ⟨k5, l5, e5, tt5, B5⟩ := t1 c
      obtain ⟨a1, a2, a3, a4, a5, a6, a7, a8⟩ := y_opn A1 h2 e5 h3 h5
      rw [y_l7 h15 w1 hM1 k5]
      clear w1
      exact y_r28 hA hz hp hmay hX hXG hH (Or.inr rfl) _ (k0 + 1 + 1) _ x2 x4 x7 i (Nat.le_refl _) (by omega) B5 (y_fr_t f1 tt5) a2 (by omega) a5 (fun e => absurd e (by decide)) (by omega) (by omega) a7 (by
        unfold y_IR at I1 ⊢
        rw [y_G_t tt5]
        exact I1) (fun j hj => ⟨(hG j hj).1, by have := (hG j hj).2; omega, fun e => by have := (hG j hj).2; omega⟩) (Or.inl hgp) hgi (Nat.le_refl _) (fun x x0 x1 => by rw [y_G_t tt5]; exact kd1 x x0 x1)
    · have k5 := t2 c
      rw [y_l7 h15 w1 hM1 k5]
      clear w1
      exact y_r28 hA hz hp hmay hX hXG hH (Or.inl rfl) _ (k0 + 1) _ x2 x4 x7 i (Nat.le_refl _) (by omega) o2 f1 h2 h3 h5 (fun _ hl e => c (by rw [y_sb hl]; exact e)) h8 h6 rfl I1 (fun j hj => ⟨(hG j hj).1, by have := (hG j hj).2; omega, fun e => by have := (hG j hj).2; omega⟩) (Or.inl hgp) hgi (Nat.le_refl _) kd1
end YR2
