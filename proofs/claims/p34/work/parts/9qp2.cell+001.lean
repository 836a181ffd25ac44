section YCE
variable {b : Nat → Int} {n : Nat} {p : Nat} {N : EM} {X : Nat → Int} {g0 : Int → Int} {f : Nat}
theorem y_cws {P I : Int} (hp : 0 ≤ P ∧ P < 40) (hi : 0 ≤ I ∧ I ≤ 6) : e_w (28 * P) = 28 * P ∧ e_w (28 * P + 2) = 28 * P + 2 ∧ e_w (28 * P + 2 + I) = 28 * P + 2 + I ∧ e_w (28 * P + 3) = 28 * P + 3 ∧ e_w (28 * P + 3 + I) = 28 * P + 3 + I ∧ e_w (28 * P + 8) = 28 * P + 8 ∧ e_w (28 * P + 8 + I) = 28 * P + 8 + I ∧ e_w (28 * P + 9) = 28 * P + 9 ∧ e_w (28 * P + 9 + I) = 28 * P + 9 + I ∧ e_w (I + 1) = I + 1 := by
  refine ⟨?_, ?_, ?_, ?_, ?_, ?_, ?_, ?_, ?_, ?_⟩ <;> exact a_w_id (by omega) (by omega)
/-- at the end: whether it is a CURVE -/
theorem y_cend (hp : p < 40) {k : Nat} {M : EM} {x2 x3 x4 x5 : Int} {l : Nat} (hl : 1 ≤ l) (hB : y_B b n k M) (hk : k < n) (hf : y_fr N M) (h59 : b k = 59) (hI : y_IC g0 p X f l M x2 x3) : ∃ r M', E_V 184 101 [192, (p : Int), x2, x3, x4, x5] M = some (r, M') ∧ y_B b n k M' ∧ y_fr N M' ∧ ((r = 1 ∧ 2 ≤ l ∧ l ≤ 6 ∧ y_cn X f (l - 1) ∧ (∀ j, j < l → r_G M' (28 * (p : Int) + 3 + j) = X (f + 2 * j) ∧ r_G M' (28 * (p : Int) + 9 + j) = X (f + 2 * j + 1)) ∧ (∀ x, 0 ≤ x → (x < 28 * (p : Int) ∨ 28 * (p : Int) + 28 ≤ x) → r_G M' x = g0 x) ∧ y_bl g0 (r_G M') p (fun x => x = 2 ∨ (3 ≤ x ∧ x < 15)) ∧ r_G M' (28 * (p : Int) + 2) = l) ∨ (r = 0 ∧ ¬ (2 ≤ l ∧ l ≤ 6 ∧ y_cn X f (l - 1)))) := by
  have ks := r_sign (y_ty hB)
  rw [y_sg hB, y_sb hk, h59] at ks
  obtain ⟨i1, i2⟩ := hI
  have b1 : 0 ≤ 28 * (p : Int) + 2 ∧ 28 * (p : Int) + 2 < 1330 := by omega
  have hk1 : 28 * (p : Int) + 2 ≥ 1 := by omega
  have hp' : 0 ≤ (p : Int) ∧ (p : Int) < 40 := by omega
  have s1 := fun v => r_stw (i := 28 * (p : Int) + 2) (v := v) (M := M) b1.1 b1.2
  obtain ⟨M2, hM2⟩ : ∃ M2, e_up M 193 (28 * (p : Int) + 2).toNat x2 = M2 := ⟨_, rfl⟩
  have Gs : r_G M2 (28 * (p : Int) + 2) = x2 := by rw [← hM2]; exact r_G_s
  have Gn : ∀ x, x ≠ 28 * (p : Int) + 2 → r_G M2 x = r_G M x := fun x hx => by rw [← hM2]; exact r_G_n hk1 hx
  have BN : y_B b n k M2 := by rw [← hM2]; exact y_Bw hB ⟨by omega, by omega⟩
  have fN : y_fr N M2 := by rw [← hM2]; exact y_frw hf
  obtain ⟨j0, r, j1, j2⟩ := y_c184 (P := (p : Int)) (I := x2) (x5 := x5) (M := M2) hp' i1.2 _ 1 (Nat.le_refl _) (Int.le_refl _)
  rcases i2 with ⟨e1, e2, e3, e4, e5, e6⟩ | ⟨e1, e2⟩
  · subst e1
    rcases x_lt 1 x2 with ⟨c1, c1_n⟩ | ⟨c1, c1_n⟩
    · have l2 : 2 ≤ l := by omega
      obtain ⟨m, rfl⟩ : ∃ m, l = m + 1 := ⟨l - 1, by omega⟩
      have hm : m + 1 - 1 = m := by omega
      rw [hm]
      obtain ⟨u1, -⟩ := e4 0 (by omega)
      obtain ⟨u3, u4⟩ := e4 m (by omega)
      have hg0 : r_G M2 (28 * (p : Int) + 3) = X f := by
        rw [Gn _ (by omega)]
        have h0 : r_G M (28 * (p : Int) + 3 + ((0 : Nat) : Int)) = X f := u1
        rw [show 28 * (p : Int) + 3 + ((0 : Nat) : Int) = 28 * (p : Int) + 3 by omega] at h0
        exact h0
      have hgB : r_G M2 (28 * (p : Int) + 8 + x2) = X (f + 2 * m + 1) := by
        rw [Gn _ (by omega), ← u4]
        exact congrArg (r_G M) (by omega)
      have hgC : r_G M2 (28 * (p : Int) + 2 + x2) = X (f + 2 * m) := by
        rw [Gn _ (by omega), ← u3]
        exact congrArg (r_G M) (by omega)
      have ko : E_C 172 [192, (p : Int), 0] M2 = some (r_G M2 (28 * (p : Int) + 3 + 0), M2) := r_of (M := M2) (p := (p : Int)) (k := 0) hp' ⟨by decide, by decide⟩
      rw [Int.add_zero, hg0] at ko
      have q1 : e_op 60 [193, 28 * (p : Int) + 8 + x2] M2 = some (r_G M2 (28 * (p : Int) + 8 + x2)) := r_rd (by omega) (by omega)
      have q2 : e_op 60 [193, 28 * (p : Int) + 2 + x2] M2 = some (r_G M2 (28 * (p : Int) + 2 + x2)) := r_rd (by omega) (by omega)
      rw [hgB] at q1
      rw [hgC] at q2
      have rise : ∀ j : Nat, j < m → (y_up (r_G M2) (p : Int) ((j : Int) + 1) ↔ (X (f + 2 * j) < X (f + 2 * (j + 1)) ∧ X (f + 2 * (j + 1) + 1) < X (f + 2 * j + 1))) := fun j hj => by
        obtain ⟨v1, v2⟩ := e4 j (by omega)
        obtain ⟨v3, v4⟩ := e4 (j + 1) (by omega)
        unfold y_up
        rw [← v1, ← v2, ← v3, ← v4, Gn _ (by omega), Gn _ (by omega), Gn _ (by omega), Gn _ (by omega)]
        have a1 : 28 * (p : Int) + 3 + ((j : Int) + 1 - 1) = 28 * (p : Int) + 3 + (j : Int) := by omega
        have a2 : 28 * (p : Int) + 3 + ((j : Int) + 1) = 28 * (p : Int) + 3 + ((j + 1 : Nat) : Int) := by omega
        have a3 : 28 * (p : Int) + 9 + ((j : Int) + 1) = 28 * (p : Int) + 9 + ((j + 1 : Nat) : Int) := by omega
        have a4 : 28 * (p : Int) + 8 + ((j : Int) + 1) = 28 * (p : Int) + 9 + (j : Int) := by omega
        rw [a1, a2, a3, a4]
      have goal : ∀ t : Int, (t = if X f = 0 ∧ X (f + 2 * m + 1) = 0 ∧ X (f + 2 * m) ≤ 60 then 1 else 0) → E_V 184 101 [192, (p : Int), x2, 1, x4, x5] M = E_V 184 184 [192, (p : Int), x2, t, 1, x5] M2 := fun t ht => by
        obtain ⟨w1, w2, w3, -, -, w6, w7, -⟩ := y_cws (P := (p : Int)) (I := x2) hp' i1
        exact y_c101y ks (by decide) w1 w2 s1 hM2 c1 w6 w7 w3 ko q1 q2 ht
      by_cases c2 : X f = 0 ∧ X (f + 2 * m + 1) = 0 ∧ X (f + 2 * m) ≤ 60
      · have gg := goal 1 (by rw [if_pos c2])
        refine ⟨r, M2, gg.trans j1, BN, fN, ?_⟩
        rcases j2 with ⟨r1, r2⟩ | ⟨r1, j, r2, r3, r4⟩
        · refine Or.inl ⟨r1, l2, e3, ⟨c2.1, c2.2.2, c2.2.1, fun j hj => (rise j hj).mp (r2 _ (by omega) (by omega))⟩, fun j hj => ⟨(Gn _ (by omega)).trans (e4 j hj).1, (Gn _ (by omega)).trans (e4 j hj).2⟩, fun x x0 hx => (Gn _ (by omega)).trans (e5 x x0 hx), fun x x0 x1 hs => (Gn _ (fun e => hs (Or.inl (by omega)))).trans (e6 x x0 x1 (fun e => hs (by omega))), by rw [Gs, e2]⟩
        · refine Or.inr ⟨r1, fun h => r4 ?_⟩
          obtain ⟨i, rfl⟩ : ∃ i : Nat, j = (i : Int) + 1 := ⟨(j - 1).toNat, by omega⟩
          exact (rise i (by omega)).mpr (h.2.2.2.2.2 i (by omega))
      · have gg := goal 0 (by rw [if_neg c2])
        exact ⟨0, M2, gg.trans j0, BN, fN, Or.inr ⟨rfl, fun h => c2 ⟨h.2.2.1, h.2.2.2.2.1, h.2.2.2.1⟩⟩⟩
    · have gg : E_V 184 101 [192, (p : Int), x2, 1, x4, x5] M = E_V 184 184 [192, (p : Int), x2, 0, 1, x5] M2 := by
        obtain ⟨w1, w2, -⟩ := y_cws (P := (p : Int)) (I := x2) hp' i1
        exact y_c101e ks (by decide) w1 w2 s1 hM2 (Or.inr c1)
      exact ⟨0, M2, gg.trans j0, BN, fN, Or.inr ⟨rfl, fun h => by omega⟩⟩
  · subst e1
    have gg : E_V 184 101 [192, (p : Int), x2, 0, x4, x5] M = E_V 184 184 [192, (p : Int), x2, 0, 1, x5] M2 := by
      obtain ⟨w1, w2, -⟩ := y_cws (P := (p : Int)) (I := x2) hp' i1
      exact y_c101e ks (by decide) w1 w2 s1 hM2 (Or.inl rfl)
    exact ⟨0, M2, gg.trans j0, BN, fN, Or.inr ⟨rfl, fun h => by omega⟩⟩
end YCE
