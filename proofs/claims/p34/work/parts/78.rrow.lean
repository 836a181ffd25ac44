/-! THE REFERENCE (object 192; 193 its row s, 195 the kept sorts, 196 kinds of elements, 197 sizes, 198 elements) -/
theorem r_ref : e_isO 12 192 := by decide +kernel
theorem r_g (k : Nat) (v : Int) (M : EM) (h : e_fty k = 2 ∧ k / 64 = 12 ∧ e_gr 192 (k % 64) = v) : e_gf k [192] M = some v := by
  obtain ⟨h1, h2, h3⟩ := h
  rw [c_gr (by rw [h2]; exact r_ref) h1]
  exact congrArg some h3
theorem r_st {a i v : Int} {n : Nat} {M : EM} (h8 : 8 ≤ a) (ha : a.toNat < e_N) (hs : e_sh a.toNat = (100, n)) (h0 : 0 ≤ i) (hi : i < n) : e_st 100 [a, i, v] M = some (e_up M a.toNat i.toNat v) := by
  refine if_pos ⟨h8, by omega, ha, by rw [hs], h0, ?_⟩
  unfold e_sz
  rw [if_neg (by omega), hs]
  show i.toNat < n
  omega
theorem r_ld {a i : Int} {n : Nat} {M : EM} (h8 : 8 ≤ a) (ha : a.toNat < e_N) (hs : e_sh a.toNat = (100, n)) (h0 : 0 ≤ i) (hi : i < n) : e_op 60 [a, i] M = some (M a.toNat i.toNat) := by
  have hin : e_in2 M 100 a i := by
    refine ⟨by omega, ha, by rw [hs], h0, ?_⟩
    unfold e_sz
    rw [if_neg (by omega), hs]
    show i.toNat < n
    omega
  simp only [e_op, if_pos]
  rw [if_pos hin]
theorem r_isIn (x lo hi : Int) (M : EM) : E_C 168 [x, lo, hi] M = some (if lo ≤ x ∧ x ≤ hi then 1 else 0, M) := by
  have h1 : E_C 168 [x, lo, hi] M = e_tv E_C (E_V 168) e_t168_0 [x, 0, lo, 0, hi, 0] M := by
    unfold E_C
    rw [if_pos (show e_rok 168 [x, lo, hi] = true from rfl), E_V_eq]
    rfl
  rw [h1]
  unfold e_t168_0
  by_cases q0 : lo ≤ x
  · by_cases q1 : x ≤ hi
    · simp [e_tv, e_ev, e_op, e_b2, q0, q1]
    · simp [e_tv, e_ev, e_op, e_b2, q0, q1]
  · simp [e_tv, e_ev, e_op, e_b2, q0]
theorem r_isShelf (d : Int) (M : EM) : E_C 173 [d] M = some (if 0 ≤ d ∧ d ≤ 7 then 1 else 0, M) := by
  have h1 : E_C 173 [d] M = e_tv E_C (E_V 173) e_t173_0 [d] M := by
    unfold E_C
    rw [if_pos (show e_rok 173 [d] = true from rfl), E_V_eq]
    rfl
  rw [h1]
  unfold e_t173_0
  simp [e_tv, e_ev, e_op, e_b1, r_isIn]
theorem r_up {M : EM} {a k : Nat} {v : Int} (h5 : a ≠ 5) (ho : a ≠ e_OUT) (hm : a_mi a = []) (hv : -2147483648 ≤ v ∧ v ≤ 2147483647) (hM : a_M M) : a_M (e_up M a k v) := by
  intro b j hb
  by_cases hc : b = a ∧ j = k
  · obtain ⟨rfl, rfl⟩ := hc
    rw [c_up_s]
    refine ⟨?_, ?_, fun s hs => ?_⟩
    · unfold a_lo; rw [if_neg ho]; exact hv.1
    · unfold a_hi; rw [if_neg ho]; exact hv.2
    · rw [hm] at hs; cases hs
  · rw [c_up_n hc]; exact hM b j hb
theorem r_row_loop {d k n : Int} (hd : 0 ≤ d ∧ d ≤ 7) : ∀ (m : Nat) (i : Int) (M : EM), a_M M → (120 - i).toNat ≤ m → 0 ≤ i → i ≤ 120 → ∃ M', E_V 259 58 [192, d, k, n, i] M = some (0, M') ∧ a_M M' ∧ a_fr [(198, 0, 959)] M M' := by
  have g5 : ∀ M, e_gf 773 [192] M = some 198 := fun M => r_g 773 198 M (by decide +kernel)
  intro m
  induction m with
  | zero =>
    intro i M hM hm h0 h1
    refine ⟨M, ?_, hM, a_fr_rf⟩
    have hlt : ¬ (i < 120) := by omega
    rw [E_V_eq]
    show e_tv E_C (E_V 259) e_t259_58 [192, d, k, n, i] M = _
    unfold e_t259_58
    simp [e_tv, e_ev, e_sv, e_op, e_b2, hlt]
  | succ m ih =>
    intro i M hM hm h0 h1
    by_cases hlt : i < 120
    · have w1 : e_w (120 * d) = 120 * d := a_w_id (by omega) (by omega)
      have w2 : e_w (120 * d + i) = 120 * d + i := a_w_id (by omega) (by omega)
      have w3 : e_w (i + 1) = i + 1 := a_w_id (by omega) (by omega)
      have st : e_st 100 [198, 120 * d + i, 0] M = some (e_up M 198 (120 * d + i).toNat 0) := r_st (n := 960) (by decide) (by decide +kernel) (by decide +kernel) (by omega) (by omega)
      obtain ⟨M', k1, k2, k3⟩ := ih (i + 1) _ (r_up (M := M) (a := 198) (k := (120 * d + i).toNat) (v := 0) (by decide) (by decide +kernel) (by decide +kernel) (by decide) hM) (by omega) (by omega) (by omega)
      refine ⟨M', ?_, k2, a_fr_tr (fun b j hw => ?_) k3⟩
      · rw [E_V_eq]
        show e_tv E_C (E_V 259) e_t259_58 [192, d, k, n, i] M = _
        unfold e_t259_58
        simp [e_tv, e_ev, e_sv, e_op, e_b2, g5, w1, w2, w3, hlt, st, k1]
      · refine c_up_n (fun hc => hw _ List.mem_cons_self ⟨hc.1.symm, Nat.zero_le _, ?_⟩)
        have := hc.2
        show j ≤ 959
        omega
    · refine ⟨M, ?_, hM, a_fr_rf⟩
      rw [E_V_eq]
      show e_tv E_C (E_V 259) e_t259_58 [192, d, k, n, i] M = _
      unfold e_t259_58
      simp [e_tv, e_ev, e_sv, e_op, e_b2, hlt]
def r_w259 : AW := [(195, 0, 7), (196, 0, 7), (197, 0, 7), (198, 0, 959)]
theorem r_row {d k n : Int} {M : EM} (hM : a_M M) (hn : n ≤ 2147483647) : ∃ M', E_C 259 [192, d, k, n] M = some (if 0 ≤ d ∧ d ≤ 7 ∧ 0 ≤ k ∧ k ≤ 2 ∧ n ≤ 120 then (if n < 0 then -14 else 0) else -1, M') ∧ a_M M' ∧ a_fr r_w259 M M' ∧ (∀ j, M' 197 j = M 197 j ∨ (0 ≤ M' 197 j ∧ M' 197 j ≤ 120)) := by
  have h1 : E_C 259 [192, d, k, n] M = e_tv E_C (E_V 259) e_t259_0 [192, d, k, n, 0] M := by
    unfold E_C
    rw [if_pos (show e_rok 259 [192, d, k, n] = true from decide_eq_true r_ref), E_V_eq]
    rfl
  have g2 : ∀ M, e_gf 770 [192] M = some 195 := fun M => r_g 770 195 M (by decide +kernel)
  have g3 : ∀ M, e_gf 771 [192] M = some 196 := fun M => r_g 771 196 M (by decide +kernel)
  have g4 : ∀ M, e_gf 772 [192] M = some 197 := fun M => r_g 772 197 M (by decide +kernel)
  rw [h1]
  unfold e_t259_0
  by_cases q0 : 0 ≤ d ∧ d ≤ 7
  · by_cases q1 : 0 ≤ k ∧ k ≤ 2
    · by_cases q2 : 120 < n
      · refine ⟨M, ?_, hM, a_fr_rf, fun j => Or.inl rfl⟩
        have q2' : ¬ (n ≤ 120) := by omega
        simp [e_tv, e_ev, e_sv, e_op, e_b1, e_b2, r_isShelf, r_isIn, q0, q1, q2, q2']
      · have q2' : n ≤ 120 := by omega
        by_cases q3 : n < 0
        · refine ⟨M, ?_, hM, a_fr_rf, fun j => Or.inl rfl⟩
          simp [e_tv, e_ev, e_sv, e_op, e_b1, e_b2, r_isShelf, r_isIn, q0, q1, q2', q3]
        · have s1 : ∀ M, e_st 100 [195, d, 2] M = some (e_up M 195 d.toNat 2) := fun M => r_st (n := 8) (by decide) (by decide +kernel) (by decide +kernel) (by omega) (by omega)
          have s2 : ∀ M, e_st 100 [196, d, k] M = some (e_up M 196 d.toNat k) := fun M => r_st (n := 8) (by decide) (by decide +kernel) (by decide +kernel) (by omega) (by omega)
          have s3 : ∀ M, e_st 100 [197, d, n] M = some (e_up M 197 d.toNat n) := fun M => r_st (n := 8) (by decide) (by decide +kernel) (by decide +kernel) (by omega) (by omega)
          have a1 := r_up (M := M) (a := 195) (k := d.toNat) (v := 2) (by decide) (by decide +kernel) (by decide +kernel) (by decide) hM
          have a2 := r_up (a := 196) (k := d.toNat) (v := k) (by decide) (by decide +kernel) (by decide +kernel) ⟨by omega, by omega⟩ a1
          have a3 := r_up (a := 197) (k := d.toNat) (v := n) (by decide) (by decide +kernel) (by decide +kernel) ⟨by omega, by omega⟩ a2
          obtain ⟨M', k1, k2, k3⟩ := r_row_loop (k := k) (n := n) q0 120 0 _ a3 (by decide) (by decide) (by decide)
          refine ⟨M', ?_, k2, a_fr_tr (fun b j hw => ?_) (a_sub_fr (by decide +kernel) k3), fun j => ?_⟩
          · simp [e_tv, e_ev, e_sv, e_op, e_b1, e_b2, r_isShelf, r_isIn, g2, g3, g4, s1, s2, s3, q0, q1, q2', q3, k1]
          · have hb : ∀ w ∈ r_w259, ¬ (w.1 = b ∧ w.2.1 ≤ j ∧ j ≤ w.2.2) := hw
            have hj : d.toNat ≤ 7 := by omega
            rw [c_up_n (fun hc => hb (197, 0, 7) (by decide) ⟨hc.1.symm, Nat.zero_le _, by rw [hc.2]; exact hj⟩), c_up_n (fun hc => hb (196, 0, 7) (by decide) ⟨hc.1.symm, Nat.zero_le _, by rw [hc.2]; exact hj⟩), c_up_n (fun hc => hb (195, 0, 7) (by decide) ⟨hc.1.symm, Nat.zero_le _, by rw [hc.2]; exact hj⟩)]
          · have h7 := k3 197 j (by intro w hw hc; cases List.mem_singleton.mp hw; exact absurd hc.1 (by decide))
            rw [h7]
            by_cases hj : j = d.toNat
            · rw [hj, c_up_s]; exact Or.inr ⟨by omega, by omega⟩
            · rw [c_up_n (fun hc => hj hc.2), c_up_n (fun hc => absurd hc.1 (by decide)), c_up_n (fun hc => absurd hc.1 (by decide))]; exact Or.inl rfl
    · refine ⟨M, ?_, hM, a_fr_rf, fun j => Or.inl rfl⟩
      have q1' : ¬ (0 ≤ d ∧ d ≤ 7 ∧ 0 ≤ k ∧ k ≤ 2 ∧ n ≤ 120) := by omega
      simp only [if_neg q1']
      simp [e_tv, e_ev, e_sv, e_op, e_b1, e_b2, r_isShelf, r_isIn, q0, q1]
  · refine ⟨M, ?_, hM, a_fr_rf, fun j => Or.inl rfl⟩
    have q1' : ¬ (0 ≤ d ∧ d ≤ 7 ∧ 0 ≤ k ∧ k ≤ 2 ∧ n ≤ 120) := by omega
    simp only [if_neg q1']
    simp [e_tv, e_ev, e_sv, e_op, e_b1, e_b2, r_isShelf, r_isIn, q0]
