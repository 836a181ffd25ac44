/-! sky: the two answers -/
theorem h_225s {d z i y ia ib ic : Int} {na : Nat} {v : Int} {M : EM} (q : i < 120) (w0 : e_w (1202 + i) = ia) (w1 : e_w (120 * d) = ib) (w2 : e_w (ib + i) = ic) (w3 : e_w (i + 1) = y) (l : e_op 60 [198, ic] M = some v) (st : ∀ v, e_st 100 [193, ia, v] M = some (e_up M 193 na v)) : E_V 225 43 [192, d, z, i] M = E_V 225 43 [192, d, z, y] (e_up M 193 na v) := by
  rw [E_V_eq]
  show e_tv E_C (E_V 225) e_t225_43 [192, d, z, i] M = _
  unfold e_t225_43
  simp [e_tv, e_ev, e_sv, e_b1, e_b2, x_o1, x_o2, r_O0, r_O5, q, w0, w1, w2, w3, l, st]
theorem h_225e {d z n : Int} {M : EM} (l : e_op 60 [197, d] M = some n) : E_V 225 43 [192, d, z, 120] M = some (n, M) := by
  rw [E_V_eq]
  show e_tv E_C (E_V 225) e_t225_43 [192, d, z, 120] M = _
  unfold e_t225_43
  simp [e_tv, e_ev, e_sv, e_b1, e_b2, x_o1, x_o2, r_O4, l]
theorem h_225l {d : Nat} {z : Int} (hd : d < 8) : ∀ (m i : Nat) (M : EM), i + m = 120 → ∃ M', E_V 225 43 [192, (d : Int), z, (i : Int)] M = some (M 197 d, M') := by
  intro m
  induction m with
  | zero =>
    intro i M hm
    have e : i = 120 := by omega
    subst e
    have b : 0 ≤ (d : Int) ∧ (d : Int) ≤ 7 := by omega
    have l := (r_isD (d : Int) M b).2.2.1
    rw [Int.toNat_natCast] at l
    exact ⟨M, h_225e l⟩
  | succ m ih =>
    intro i M hm
    have q : (i : Int) < 120 := by omega
    have b1 : 0 ≤ 1202 + (i : Int) ∧ 1202 + (i : Int) < 1330 := by omega
    have b2 : 0 ≤ 120 * (d : Int) + (i : Int) ∧ 120 * (d : Int) + (i : Int) < 960 := by omega
    have st := fun v => r_stw (i := 1202 + (i : Int)) (v := v) (M := M) b1.1 b1.2
    have l := r_rdE (M := M) b2.1 b2.2
    have w : e_w (1202 + (i : Int)) = 1202 + (i : Int) ∧ e_w (120 * (d : Int)) = 120 * (d : Int) ∧ e_w (120 * (d : Int) + (i : Int)) = 120 * (d : Int) + (i : Int) ∧ e_w ((i : Int) + 1) = ((i + 1 : Nat) : Int) := by
      clear st l ih
      refine ⟨?_, ?_, ?_, (a_w_id (by omega) (by omega)).trans (by omega)⟩ <;> exact a_w_id (by omega) (by omega)
    obtain ⟨M', k⟩ := ih (i + 1) (e_up M 193 (1202 + (i : Int)).toNat (M 198 (120 * (d : Int) + (i : Int)).toNat)) (by omega)
    rw [c_up_n (fun h => absurd h.1 (by decide))] at k
    exact ⟨M', (h_225s q w.1 w.2.1 w.2.2.1 w.2.2.2 l st).trans k⟩
theorem h_225n {d z : Int} {M : EM} (k : E_C 189 [192, d, -1] M = some (z, M)) (hz : z ≠ 0) : E_C 225 [192, d] M = some (z, M) := by
  rw [r_ent (show e_rok 225 [192, d] = true from decide_eq_true r_ref)]
  show e_tv E_C (E_V 225) e_t225_0 [192, d, 0, 0] M = _
  unfold e_t225_0
  simp [e_tv, e_ev, e_sv, e_b1, e_b2, x_o1, x_o2, k, hz]
theorem h_225y {d a c : Int} {M : EM} {o : EO} (k : E_C 189 [192, d, -1] M = some (0, M)) (l1 : ∀ M', M' 197 = M 197 → e_op 60 [197, d] M' = some a) (l2 : ∀ M', M' 196 = M 196 → e_op 60 [196, d] M' = some c) (g : E_V 225 43 [192, d, 0, 0] (e_up (e_up M 193 1200 a) 193 1201 c) = o) : E_C 225 [192, d] M = o := by
  have s1 : ∀ v M, e_st 100 [193, 1200, v] M = some (e_up M 193 1200 v) := fun v M => r_stw (i := 1200) (by decide) (by decide)
  have s2 : ∀ v M, e_st 100 [193, 1201, v] M = some (e_up M 193 1201 v) := fun v M => r_stw (i := 1201) (by decide) (by decide)
  have e1 := l1 M rfl
  have e2 := l2 (e_up M 193 1200 a) (by funext j; exact c_up_n (fun h => absurd h.1 (by decide)))
  rw [r_ent (show e_rok 225 [192, d] = true from decide_eq_true r_ref)]
  show e_tv E_C (E_V 225) e_t225_0 [192, d, 0, 0] M = _
  unfold e_t225_0
  simp [e_tv, e_ev, e_sv, e_b1, e_b2, x_o1, x_o2, r_O0, r_O3, r_O4, k, e1, e2, s1, s2, g]
theorem h_sky {d r1 r2 : Int} {M M1 M2 : EM} (hS : h_S M) (hfr : ∀ id i, 192 ≤ id → M1 id i = M id i) (hsh : ∀ m : Nat, m < 8 → M1 (146 + 2 * m) 5 = M (146 + 2 * m) 5) (k1 : E_C 121 [8, d] M = some (r1, M1)) (k2 : E_C 225 [192, d] M1 = some (r2, M2)) : r1 = r2 ∧ True := by
  refine ⟨?_, trivial⟩
  have k3 := h_189 (d := d) (w := -1) (M := M1) (by decide)
  have eno : h_no M1 d (-1) = h_no M d (-1) := by
    unfold h_no
    rw [hfr 195 _ (by decide), hfr 196 _ (by decide)]
  rw [eno] at k3
  by_cases q : h_no M d (-1) = 0
  · obtain ⟨hd, kept⟩ := h_no2 q
    obtain ⟨m, rfl⟩ : ∃ m : Nat, d = m := ⟨d.toNat, by omega⟩
    rw [Int.toNat_natCast] at kept
    have m8 : m < 8 := by omega
    have hh := (h_gr145 m8).2
    obtain ⟨c0, c1⟩ := h_ref (w := -1) hS hd
    rw [q, Int.toNat_natCast] at c1
    rw [Int.toNat_natCast] at c0
    rw [q] at k3
    have a1 := h_121i hh c0 c1 k1
    rw [Int.toNat_natCast, hsh m m8] at a1
    have e5 : M (146 + 2 * m) 5 = M 197 m := by
      rcases hS m m8 with ⟨a, -⟩ | ⟨a, -⟩ | ⟨a, -, -, -, e5, -⟩
      · omega
      · omega
      · exact e5
    have b : 0 ≤ (m : Int) ∧ (m : Int) ≤ 7 := by omega
    have l1 : ∀ M', M' 197 = M1 197 → e_op 60 [197, (m : Int)] M' = some (M1 197 m) := fun M' e => by
      have l := (r_isD (m : Int) M' b).2.2.1
      rw [Int.toNat_natCast, e] at l
      exact l
    have l2 : ∀ M', M' 196 = M1 196 → e_op 60 [196, (m : Int)] M' = some (M1 196 m) := fun M' e => by
      have l := (r_isD (m : Int) M' b).2.1
      rw [Int.toNat_natCast, e] at l
      exact l
    obtain ⟨M', g⟩ := h_225l (z := 0) m8 120 0 (e_up (e_up M1 193 1200 (M1 197 m)) 193 1201 (M1 196 m)) (by decide)
    rw [c_up_n (fun h => absurd h.1 (by decide)), c_up_n (fun h => absurd h.1 (by decide))] at g
    have e3 := Prod.mk.inj (Option.some.inj (k2.symm.trans (h_225y k3 l1 l2 g)))
    rw [a1, e3.1, e5]
    exact (hfr 197 m (by decide)).symm
  · have cc : ∃ x, E_C 154 [8, d] M = some (x, M) ∧ E_C 156 [x, -1] M = some (h_no M d (-1), M) := by
      by_cases hd : 0 ≤ d ∧ d < 8
      · exact ⟨_, h_ref hS hd⟩
      · obtain ⟨a, b, c⟩ := h_ref1 (w := -1) (M := M) hd
        exact ⟨-1, a, by rw [c]; exact b⟩
    obtain ⟨x, c0, c1⟩ := cc
    have e1 := Prod.mk.inj (Option.some.inj (k1.symm.trans (h_121n c0 c1 q)))
    have e3 := Prod.mk.inj (Option.some.inj (k2.symm.trans (h_225n k3 q)))
    rw [e1.1, e3.1]
theorem h_sh5 {W : AW} {M M' : EM} (h : h_av h_KS W = true) (hf : a_fr W M M') : ∀ m : Nat, m < 8 → M' (146 + 2 * m) 5 = M (146 + 2 * m) 5 := fun m hm => by
  have mem : (146 + 2 * m, 4, 5) ∈ h_KS := List.mem_append.mpr (Or.inr (List.mem_flatMap.mpr ⟨m, List.mem_range.mpr hm, by simp⟩))
  exact h_av_ok h hf _ mem 5 (Nat.le_succ 4) (Nat.le_refl 5)
