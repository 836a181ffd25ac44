/-! the reading of the shape: exactly -/
theorem w_sh {h : Int} (hh : h ∈ a_SH) : e_isO 8 h ∧ 8 ≤ h + 1 ∧ (h + 1).toNat < e_N ∧ e_sh (h + 1).toNat = (100, 120) ∧ e_gr h.toNat 6 = h + 1 ∧ 146 ≤ h ∧ h ≤ 160 := by
  have h2 : ∀ x ∈ a_SH, e_isO 8 x ∧ 8 ≤ x + 1 ∧ (x + 1).toNat < e_N ∧ e_sh (x + 1).toNat = (100, 120) ∧ e_gr x.toNat 6 = x + 1 ∧ 146 ≤ x ∧ x ≤ 160 := by decide +kernel
  exact h2 h hh
theorem w_K_up {b : Nat → Int} {k : Nat} {M : EM} {v : Int} (h : w_K b k M) : w_K b k (e_up M 162 1 v) := by
  have e1 : ∀ i, e_up M 162 1 v 163 i = M 163 i := fun i => c_up_n (fun q => absurd q.1 (by decide))
  have e2 : ∀ i, e_up M 162 1 v 164 i = M 164 i := fun i => c_up_n (fun q => absurd q.1 (by decide))
  have e3 : ∀ i, e_up M 162 1 v 165 i = M 165 i := fun i => c_up_n (fun q => absurd q.1 (by decide))
  have e4 : ∀ i, e_up M 162 1 v 166 i = M 166 i := fun i => c_up_n (fun q => absurd q.1 (by decide))
  have e5 : ∀ i, e_up M 162 1 v 167 i = M 167 i := fun i => c_up_n (fun q => absurd q.1 (by decide))
  have e6 : ∀ i, e_up M 162 1 v 168 i = M 168 i := fun i => c_up_n (fun q => absurd q.1 (by decide))
  have e7 : ∀ i, e_up M 162 1 v 169 i = M 169 i := fun i => c_up_n (fun q => absurd q.1 (by decide))
  have f : ∀ j, j ≠ 1 → e_up M 162 1 v 162 j = M 162 j := fun j hj => c_up_n (fun q => hj q.2)
  unfold w_K at h ⊢
  simp only [e1, e2, e3, e4, e5, e6, e7, f 2 (by decide), f 3 (by decide), f 4 (by decide), f 5 (by decide), f 6 (by decide), f 7 (by decide), f 8 (by decide)]
  exact h
/-- what the reading leaves -/
def w_RS (b : Nat → Int) (n : Nat) (r : Int) (M M' : EM) : Prop := (∀ id i, id < 162 ∨ 169 < id → M' id i = M id i) ∧ M' 165 0 = 0 ∧ ((r = 1 ∧ w_A b n ∧ w_T b n 2 = 0 ∧ 0 < w_T b n 7 ∧ w_K b n M') ∨ (r = 0 ∧ ∃ k' : Nat, M' 162 1 = k' ∧ w_F b n k'))
theorem w_K0 {b : Nat → Int} {k : Nat} {M : EM} (h : w_K b k M) : M 165 0 = 0 := (h.2.2.1 0 (Nat.zero_le _) rfl).1
theorem w_rs28 {h : Int} (hh : h ∈ a_SH) {b : Nat → Int} {n : Nat} (hn : n ≤ 120) (hb : ∀ i, -2147483648 ≤ b i ∧ b i ≤ 2147483647) : ∀ (m k : Nat) (M : EM), k + m = n → M 162 0 = n → M 162 1 = k → (∀ i : Nat, i < n → M (h + 1).toNat i = b i) → w_A b k → w_K b k M → ∃ r M', E_V 59 28 [162, h] M = some (r, M') ∧ w_RS b n r M M' := by
  obtain ⟨s1, s2, s3, s4, s5, s6, s7⟩ := w_sh hh
  have g6 : ∀ M, e_gf 518 [h] M = some (h + 1) := fun M => (c_gr s1 (by decide +kernel)).trans (congrArg some s5)
  intro m
  induction m with
  | zero =>
    intro k M hk m0 m1 hB hA hK
    have e : k = n := by omega
    subst e
    have K := hK
    obtain ⟨⟨f2, f7, f8, ff⟩, -⟩ := K
    have hlt : ¬ (M 162 1 < M 162 0) := by omega
    by_cases q1 : w_T b k 2 = 0
    · by_cases q2 : w_T b k 7 > 0
      · refine ⟨1, M, ?_, fun _ _ _ => rfl, w_K0 hK, Or.inl ⟨rfl, hA, q1, q2, hK⟩⟩
        rw [E_V_eq]
        show e_tv E_C (E_V 59) e_t59_28 [162, h] M = _
        unfold e_t59_28
        simp [e_tv, e_ev, e_sv, e_b1, e_b2, x_o1, x_o2, w_f0, w_f1, w_f2, w_f7, hlt, f2, f7, q1, q2]
      · refine ⟨0, M, ?_, fun _ _ _ => rfl, w_K0 hK, Or.inr ⟨rfl, k, m1, hA, Nat.le_refl _, fun h => absurd h (Nat.lt_irrefl _), fun _ h => q2 h.2⟩⟩
        rw [E_V_eq]
        show e_tv E_C (E_V 59) e_t59_28 [162, h] M = _
        unfold e_t59_28
        simp [e_tv, e_ev, e_sv, e_b1, e_b2, x_o1, x_o2, w_f0, w_f1, w_f2, w_f7, hlt, f2, f7, q1, q2]
    · refine ⟨0, M, ?_, fun _ _ _ => rfl, w_K0 hK, Or.inr ⟨rfl, k, m1, hA, Nat.le_refl _, fun h => absurd h (Nat.lt_irrefl _), fun _ h => q1 h.1⟩⟩
      rw [E_V_eq]
      show e_tv E_C (E_V 59) e_t59_28 [162, h] M = _
      unfold e_t59_28
      simp [e_tv, e_ev, e_sv, e_b1, e_b2, x_o1, x_o2, w_f0, w_f1, w_f2, w_f7, hlt, f2, f7, q1]
  | succ m ih =>
    intro k M hk m0 m1 hB hA hK
    have hlt : M 162 1 < M 162 0 := by omega
    have K := hK
    obtain ⟨⟨f2, f7, f8, ff⟩, -, -, kn⟩ := K
    have hI := w_Ii hA
    unfold w_I at hI
    have at0 : E_C 146 [h + 1, (k : Int)] M = some (b k, M) := by
      rw [p_at (n := 120) ⟨s2, s3, s4⟩ ⟨by omega, by omega⟩]
      exact congrArg some (congrArg (·, M) (hB k (by omega)))
    have go := w_goOn (c := b k) (M := M) (hb k) (by omega) (by omega) (by omega) (fun h => by rw [f2] at h; obtain ⟨-, -, -, a6⟩ := ff h; omega) (fun h2 => by
      rw [f2] at h2
      obtain ⟨j, rfl, n1, n2⟩ := w_more hA h2
      obtain ⟨g1, -, -⟩ := kn j (by omega) n1
      have e8 := w_n8 n1
      have ej := w_Ii (w_Al hA (show j ≤ j + 1 by omega))
      unfold w_I at ej
      have hx : M 162 8 - 1 = w_T b j 8 := by omega
      rw [hx, g1]
      have hv : w_v b (j + 1) j = b j - 48 := by unfold w_v; rw [if_neg (by omega)]
      rw [hv]
      have := n1.2
      omega)
    by_cases ok : w_ok (w_T b k) (b k)
    · have k0 := go.1 ((w_Kok hK _).mpr ok)
      have K1 := w_Kn hK hA ok m1
      have p1 : w_M M (b k) 162 1 = k := (w_M_01 (by decide)).trans m1
      have p0 : w_M M (b k) 162 0 = n := (w_M_01 (by decide)).trans m0
      have ww : e_w ((k : Int) + 1) = (k : Int) + 1 := a_w_id (by omega) (by omega)
      have K2 := w_K_up (v := (k : Int) + 1) K1
      have fo : ∀ id i, id < 162 ∨ 169 < id → e_up (w_M M (b k)) 162 1 ((k : Int) + 1) id i = M id i := fun id i hi => (c_up_n (fun q => by have := q.1; omega)).trans (w_M_o hi)
      obtain ⟨r, M', k1, c1, c2, c3⟩ := ih (k + 1) (e_up (w_M M (b k)) 162 1 ((k : Int) + 1)) (by omega) (by rw [c_up_n (by decide)]; exact p0) (by rw [c_up_s]; omega) (fun i hi => by rw [fo _ _ (by omega)]; exact hB i hi) (w_As hA ok) K2
      refine ⟨r, M', ?_, fun id i hi => (c1 id i hi).trans (fo id i hi), c2, c3⟩
      rw [m1] at hlt
      rw [m0] at hlt
      rw [E_V_eq]
      show e_tv E_C (E_V 59) e_t59_28 [162, h] M = _
      unfold e_t59_28
      simp [e_tv, e_ev, e_sv, e_b1, e_b2, x_o1, x_o2, w_f0, w_f1, w_p1, g6, m0, m1, hlt, at0, k0, p1, ww, k1]
    · have k0 := go.2 (fun h => ok ((w_Kok hK _).mp h))
      refine ⟨0, M, ?_, fun _ _ _ => rfl, w_K0 hK, Or.inr ⟨rfl, k, m1, hA, by omega, fun _ => ok, fun h => by omega⟩⟩
      rw [m1] at hlt
      rw [m0] at hlt
      rw [E_V_eq]
      show e_tv E_C (E_V 59) e_t59_28 [162, h] M = _
      unfold e_t59_28
      simp [e_tv, e_ev, e_sv, e_b1, e_b2, x_o1, x_o2, w_f0, w_f1, g6, m0, m1, hlt, at0, k0]
