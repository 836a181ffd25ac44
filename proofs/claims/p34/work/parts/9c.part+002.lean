theorem r_shl8 {n : Int} (h : 2 ≤ n ∧ n ≤ 8) : 0 ≤ e_bit (fun x y => x <<< (y &&& 31)) 1 n ∧ e_bit (fun x y => x <<< (y &&& 31)) 1 n ≤ 256 := by
  have key : ∀ k : Fin 9, 0 ≤ e_bit (fun x y => x <<< (y &&& 31)) 1 (k.val : Int) ∧ e_bit (fun x y => x <<< (y &&& 31)) 1 (k.val : Int) ≤ 256 := by decide +kernel
  have := key ⟨n.toNat, by omega⟩
  rwa [show ((⟨n.toNat, by omega⟩ : Fin 9).val : Int) = n from Int.toNat_of_nonneg (by omega)] at this
theorem r_pz_in {d w n x5 x6 S : Int} (hn : 2 ≤ n ∧ n ≤ 8) (hS : 0 ≤ S ∧ S ≤ 1000) (H : ∀ M, r_J M → ∀ y5 y6 y8, ∃ r M', E_V 240 104 [192, d, w, 0, n, y5, y6, S + 2, y8] M = some (r, M') ∧ r_J M' ∧ a_fr r_wq M M') : ∀ (m : Nat) (x8 : Int) (M : EM), r_J M → (1000 - x8).toNat ≤ m → 0 ≤ x8 → ∃ r M', E_V 240 116 [192, d, w, 0, n, x5, x6, S, x8] M = some (r, M') ∧ r_J M' ∧ a_fr r_wq M M' := by
  have w2 : e_w (S + 2) = S + 2 := a_w_id (by omega) (by omega)
  have hend : ∀ x8 M, r_J M → ¬ (x8 < 1000) → ∃ r M', E_V 240 116 [192, d, w, 0, n, x5, x6, S, x8] M = some (r, M') ∧ r_J M' ∧ a_fr r_wq M M' := by
    intro x8 M hJ q
    obtain ⟨M1, k1, t1, t2⟩ := r_givesSet (S := S) hn.2 hJ
    obtain ⟨M2, k2, u1, u2⟩ := r_givesSet (S := e_bit (fun x y => x &&& y) (e_w (e_bit (fun x y => x <<< (y &&& 31)) 1 n - 1)) (e_bit (fun x y => x ^^^ y) S (-1))) hn.2 t1
    obtain ⟨b, kb, hb⟩ := r_bestOf u1.1
    have g1 := r_rd5 (M := M2) hb.1 (by omega)
    have hgo : ∀ y5 y6, ∃ r M', E_V 240 203 [192, d, w, 0, n, y5, y6, S, b] M2 = some (r, M') ∧ r_J M' ∧ a_fr r_wq M2 M' := by
      intro y5 y6
      obtain ⟨r, M', k, t⟩ := H M2 u1 y5 y6 b
      refine ⟨r, M', ?_, t⟩
      rw [E_V_eq]
      show e_tv E_C (E_V 240) e_t240_203 [192, d, w, 0, n, y5, y6, S, b] M2 = _
      unfold e_t240_203
      simp [e_tv, e_ev, e_sv, e_b1, e_b2, x_o1, x_o2, w2, k]
    rcases x_le (e_w (b * M2 205 b.toNat)) x6 with ⟨c, c_n⟩ | ⟨c, c_n⟩
    · obtain ⟨r, M', k, v1, v2⟩ := hgo x5 x6
      refine ⟨r, M', ?_, v1, a_fr_tr t2 (a_fr_tr u2 v2)⟩
      rw [E_V_eq]
      show e_tv E_C (E_V 240) e_t240_116 [192, d, w, 0, n, x5, x6, S, x8] M = _
      unfold e_t240_116
      simp [e_tv, e_ev, e_sv, e_b1, e_b2, x_o1, x_o2, r_O25, q, k1, k2, kb, g1, c, c_n, k]
    · obtain ⟨r, M', k, v1, v2⟩ := hgo S (e_w (b * M2 205 b.toNat))
      refine ⟨r, M', ?_, v1, a_fr_tr t2 (a_fr_tr u2 v2)⟩
      rw [E_V_eq]
      show e_tv E_C (E_V 240) e_t240_116 [192, d, w, 0, n, x5, x6, S, x8] M = _
      unfold e_t240_116
      simp [e_tv, e_ev, e_sv, e_b1, e_b2, x_o1, x_o2, r_O25, q, k1, k2, kb, g1, c, c_n, k]
  intro m
  induction m with
  | zero => intro x8 M hJ hm h0; exact hend x8 M hJ (by omega)
  | succ m ih =>
    intro x8 M hJ hm h0
    rcases x_lt x8 1000 with ⟨q, q_n⟩ | ⟨q, q_n⟩
    · have w4 : e_w (x8 + 1) = x8 + 1 := a_w_id (by omega) (by omega)
      obtain ⟨u1, u2⟩ := r_e5 (M := M) (k := x8.toNat) (v := 0) (by omega) (by decide) hJ
      obtain ⟨r, M', k, t1, t2⟩ := ih (x8 + 1) _ u1 (by omega) (by omega)
      refine ⟨r, M', ?_, t1, a_fr_tr u2 t2⟩
      rw [E_V_eq]
      show e_tv E_C (E_V 240) e_t240_116 [192, d, w, 0, n, x5, x6, S, x8] M = _
      unfold e_t240_116
      simp [e_tv, e_ev, e_sv, e_b1, e_b2, x_o1, x_o2, r_O25, q, q_n, w4, r_st5 h0 q, q_n, k]
    · exact hend x8 M hJ q
theorem r_pz_out {d w n : Int} (hn : 2 ≤ n ∧ n ≤ 8) : ∀ (m : Nat) (x5 x6 S x8 : Int) (M : EM), r_J M → (260 - S).toNat ≤ m → 0 ≤ S → ∃ r M', E_V 240 104 [192, d, w, 0, n, x5, x6, S, x8] M = some (r, M') ∧ r_J M' ∧ a_fr r_wq M M' := by
  have hb := r_shl8 hn
  have hend : ∀ x5 x6 S x8 M, r_J M → ¬ (S < e_bit (fun x y => x <<< (y &&& 31)) 1 n) → ∃ r M', E_V 240 104 [192, d, w, 0, n, x5, x6, S, x8] M = some (r, M') ∧ r_J M' ∧ a_fr r_wq M M' := by
    intro x5 x6 S x8 M hJ q
    by_cases c : w = 0
    · refine ⟨x6, M, ?_, hJ, a_fr_rf⟩
      rw [E_V_eq]
      show e_tv E_C (E_V 240) e_t240_104 [192, d, w, 0, n, x5, x6, S, x8] M = _
      unfold e_t240_104
      simp [e_tv, e_ev, e_sv, e_b1, e_b2, x_o1, x_o2, q, c]
    · refine ⟨x5, M, ?_, hJ, a_fr_rf⟩
      rw [E_V_eq]
      show e_tv E_C (E_V 240) e_t240_104 [192, d, w, 0, n, x5, x6, S, x8] M = _
      unfold e_t240_104
      simp [e_tv, e_ev, e_sv, e_b1, e_b2, x_o1, x_o2, q, c]
  intro m
  induction m with
  | zero => intro x5 x6 S x8 M hJ hm h0; exact hend x5 x6 S x8 M hJ (by omega)
  | succ m ih =>
    intro x5 x6 S x8 M hJ hm h0
    by_cases q : S < e_bit (fun x y => x <<< (y &&& 31)) 1 n
    · obtain ⟨r, M', k, t⟩ := r_pz_in (d := d) (w := w) (x5 := x5) (x6 := x6) hn ⟨h0, by omega⟩ (fun M1 j1 y5 y6 y8 => ih y5 y6 (S + 2) y8 M1 j1 (by omega) (by omega)) 1000 0 M hJ (by decide) (by decide)
      refine ⟨r, M', ?_, t⟩
      rw [E_V_eq]
      show e_tv E_C (E_V 240) e_t240_104 [192, d, w, 0, n, x5, x6, S, x8] M = _
      unfold e_t240_104
      simp [e_tv, e_ev, e_sv, e_b1, e_b2, x_o1, x_o2, q, k]
    · exact hend x5 x6 S x8 M hJ q
theorem r_q_same {M M' : EM} (h : a_fr r_wq M M') {id k : Nat} (hi : 193 ≤ id ∧ id ≤ 201) : M' id k = M id k := r_wq_out h (by omega)
theorem r_pt_in {d w n x5 : Int} (hd : 0 ≤ d ∧ d ≤ 7) (hn : 2 ≤ n ∧ n ≤ 8) (h5 : 0 ≤ x5 ∧ x5 < n) (H : ∀ M, r_J M → r_cells M d n → ∀ y6 y7 y8, ∃ r M', E_V 240 35 [192, d, w, 0, n, x5 + 1, y6, y7, y8] M = some (r, M') ∧ r_J M' ∧ a_fr r_wq M M') : ∀ (m : Nat) (x6 x7 x8 : Int) (M : EM), r_J M → r_cells M d n → (100 - x6).toNat ≤ m → 0 ≤ x6 → ∃ r M', E_V 240 45 [192, d, w, 0, n, x5, x6, x7, x8] M = some (r, M') ∧ r_J M' ∧ a_fr r_wq M M' := by
  have w0 : e_w (x5 + 1) = x5 + 1 := a_w_id (by omega) (by omega)
  have hend : ∀ x6 x7 x8 M, r_J M → r_cells M d n → ¬ (x6 < 100) → ∃ r M', E_V 240 45 [192, d, w, 0, n, x5, x6, x7, x8] M = some (r, M') ∧ r_J M' ∧ a_fr r_wq M M' := by
    intro x6 x7 x8 M hJ hc q
    obtain ⟨r, M', k, t⟩ := H M hJ hc x6 x7 x8
    refine ⟨r, M', ?_, t⟩
    rw [E_V_eq]
    show e_tv E_C (E_V 240) e_t240_45 [192, d, w, 0, n, x5, x6, x7, x8] M = _
    unfold e_t240_45
    simp [e_tv, e_ev, e_sv, e_b1, e_b2, x_o1, x_o2, q, w0, k]
  intro m
  induction m with
  | zero => intro x6 x7 x8 M hJ hc hm h0; exact hend x6 x7 x8 M hJ hc (by omega)
  | succ m ih =>
    intro x6 x7 x8 M hJ hc hm h0
    rcases x_lt x6 100 with ⟨q, q_n⟩ | ⟨q, q_n⟩
    · have w1 : e_w (120 * d) = 120 * d := a_w_id (by omega) (by omega)
      have w2 : e_w (120 * d + x5) = 120 * d + x5 := a_w_id (by omega) (by omega)
      have w3 : e_w (100 * x5) = 100 * x5 := a_w_id (by omega) (by omega)
      have w4 : e_w (100 * x5 + x6) = 100 * x5 + x6 := a_w_id (by omega) (by omega)
      have w5 : e_w (x6 + 1) = x6 + 1 := a_w_id (by omega) (by omega)
      have le := r_rdE (i := 120 * d + x5) (M := M) (by omega) (by omega)
      obtain ⟨l, kl, hl⟩ := r_lowPush (b := 40) (c := x6) (r_J_E hJ) (by decide) (Or.inl (hc x5 h5.1 h5.2))
      obtain ⟨u1, u2⟩ := r_qarr (a := 209) (n := 799) (k := (100 * x5 + x6).toNat) (by decide) (by omega) hl hJ
      have st : e_st 100 [209, 100 * x5 + x6, l] M = some (e_up M 209 (100 * x5 + x6).toNat l) := r_stA (a := 209) (n := 799) (by decide) (by decide) (by decide +kernel) (by omega) (by omega)
      have hc' : r_cells (e_up M 209 (100 * x5 + x6).toNat l) d n := by
        unfold r_cells
        rw [r_q_G u2]
        intro k k0 k1
        rw [r_q_same u2 (by decide)]
        exact hc k k0 k1
      obtain ⟨r, M', k, t1, t2⟩ := ih (x6 + 1) x7 x8 _ u1 hc' (by omega) (by omega)
      refine ⟨r, M', ?_, t1, a_fr_tr u2 t2⟩
      rw [E_V_eq]
      show e_tv E_C (E_V 240) e_t240_45 [192, d, w, 0, n, x5, x6, x7, x8] M = _
      unfold e_t240_45
      simp [e_tv, e_ev, e_sv, e_b1, e_b2, x_o1, x_o2, r_O5, r_O36, q, q_n, w1, w2, w3, w4, w5, le, kl, st, k]
    · exact hend x6 x7 x8 M hJ hc q
