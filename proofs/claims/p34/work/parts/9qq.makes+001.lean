section YMK
variable {b : Nat → Int} {n k : Nat} {N M : EM} {p : Nat}
theorem y_zero (hp : p < 40) {g : Int → Int} {x4 : Int} : ∀ (m d : Nat) (M : EM), d + m = 28 → y_B b n k M → y_fr N M → (∀ e : Int, 0 ≤ e → e < d → r_G M (28 * (p : Int) + e) = 0) → (∀ x, 0 ≤ x → (x < 28 * (p : Int) ∨ 28 * (p : Int) + 28 ≤ x) → r_G M x = g x) → ∃ M', E_V 188 19 [192, (p : Int), (d : Int), 0, x4] M = E_V 188 19 [192, (p : Int), 28, 0, x4] M' ∧ y_B b n k M' ∧ y_fr N M' ∧ (∀ e : Int, 0 ≤ e → e < 28 → r_G M' (28 * (p : Int) + e) = 0) ∧ (∀ x, 0 ≤ x → (x < 28 * (p : Int) ∨ 28 * (p : Int) + 28 ≤ x) → r_G M' x = g x) := by
  intro m
  induction m with
  | zero =>
    intro d M hm hB hf h1 h2
    have e : d = 28 := by omega
    subst e
    exact ⟨M, rfl, hB, hf, fun e e0 e1 => h1 e e0 e1, h2⟩
  | succ m ih =>
    intro d M hm hB hf h1 h2
    have b1 : 0 ≤ 28 * (p : Int) + (d : Int) ∧ 28 * (p : Int) + (d : Int) < 1330 := by omega
    have s1 := fun v => r_stw (i := 28 * (p : Int) + (d : Int)) (v := v) (M := M) b1.1 b1.2
    have Gs : r_G (e_up M 193 (28 * (p : Int) + (d : Int)).toNat 0) (28 * (p : Int) + (d : Int)) = 0 := r_G_s
    have Gn : ∀ x, 0 ≤ x → x ≠ 28 * (p : Int) + (d : Int) → r_G (e_up M 193 (28 * (p : Int) + (d : Int)).toNat 0) x = r_G M x := fun x x0 hx => by
      unfold r_G
      rw [c_up_n (by omega)]
    obtain ⟨M', k1, c⟩ := ih (d + 1) (e_up M 193 (28 * (p : Int) + (d : Int)).toNat 0) (by omega) (y_Bw hB (by decide)) (y_frw hf) (fun e e0 e1 => by
      by_cases q : e = d
      · rw [q]; exact Gs
      · rw [Gn _ (by omega) (by omega)]
        exact h1 e e0 (by omega)) (fun x x0 hx => by
      rw [Gn _ x0 (by omega)]
      exact h2 x x0 hx)
    refine ⟨M', ?_, c⟩
    rw [← k1]
    have h28 : (d : Int) < 28 := by omega
    have w : e_w ((d : Int) + 1) = ((d + 1 : Nat) : Int) := by
      clear s1 Gs Gn k1 c
      exact (a_w_id (by omega) (by omega)).trans (by omega)
    have v : e_w (28 * (p : Int)) = 28 * (p : Int) ∧ e_w (28 * (p : Int) + (d : Int)) = 28 * (p : Int) + (d : Int) := by
      clear s1 Gs Gn k1 c w
      refine ⟨?_, ?_⟩ <;> exact a_w_id (by omega) (by omega)
    exact y_m19 h28 v.1 v.2 s1 w
end YMK
