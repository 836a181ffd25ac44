section YR
variable {b : Nat → Int} {n : Nat} {p : Nat} {N : EM} {X G D : Nat → Int} {g0 : Int → Int} {f : Nat} {Q : Int → Prop}
def y_RH (b : Nat → Int) (n : Nat) (p : Nat) (Q : Int → Prop) (N : EM) (X G D : Nat → Int) (g0 : Int → Int) (f k0 : Nat) : Prop := ∀ (k : Nat) (M : EM) (x2 x4 x5 x6 x7 : Int) (i gr : Nat), k0 < k → y_B b n k M → k < n → y_fr N M → w_T b (k + 1) 2 = 1 → w_T b (k + 1) 3 = 114 → w_T b (k + 1) 5 = 0 → w_T b (k + 1) 8 = ((f + i : Nat) : Int) → w_T b (k + 1) 6 = (gr : Int) + 1 → y_IR g0 p Q X G D f i gr M x2 x4 → (∀ j, j < i → 0 ≤ G (f + j) ∧ G (f + j) < gr) → y_gp G f i ((gr : Int) - 1) → gr ≤ i → (∀ x : Int, 0 ≤ x → x < p → g0 (28 * x) = r_G M (28 * x)) → y_RE b n N g0 p Q X G D f k i (E_V 186 7 [192, (p : Int), x2, (gr : Int), x4, x5, x6, x7] M)
theorem y_r195 (hA : w_A b n) (hz : w_T b n 2 = 0) (hp : p < 40) {k0 : Nat} (hH : y_RH b n p Q N X G D g0 f k0) {k : Nat} {M : EM} {x2 x4 x5 x6 x7 : Int} {i gr : Nat} (hk0 : k0 < k) (hB : y_B b n k M) (hf : y_fr N M) (rd : y_rd b n k) (h3 : w_T b k 3 = 114) (h5 : w_T b k 5 = 0) (h8 : w_T b k 8 = ((f + i : Nat) : Int)) (h6 : w_T b k 6 = (gr : Int) + 1) (hI : y_IR g0 p Q X G D f i (gr + 1) M x2 x4) (hG : ∀ j, j < i → 0 ≤ G (f + j) ∧ G (f + j) ≤ gr) (hgp : y_gp G f i gr) (hgi : gr + 1 ≤ i) (hkd : ∀ x : Int, 0 ≤ x → x < p → g0 (28 * x) = r_G M (28 * x)) {i0 : Nat} (hi0 : i0 < i) (h7 : w_T b k 7 = w_T b (k0 + 1) 7) : y_RE b n N g0 p Q X G D f k0 i0 (E_V 186 195 [192, (p : Int), x2, (gr : Int), x4, x5, x6, x7] M) := by
  have hkn := hB.2.2.1
  have hn120 := hB.2.2.2.2.1
  obtain ⟨hl, sg⟩ := y_sig hA hz hkn rd
  have A1 := w_Al hA hkn
  have ksg := r_sign (y_ty hB)
  rw [y_sg hB, y_sb hl] at ksg
  have i120 : i ≤ 120 := by
    have := w_Ii A1
    unfold w_I at this
    omega
  have w0 : e_w ((gr : Int) + 1) = ((gr + 1 : Nat) : Int) := by
    clear ksg sg hI hkd hG hgp
    exact (a_w_id (by omega) (by omega)).trans (by omega)
  by_cases c : b k = 32
  · obtain ⟨a1, a2, a3, a4, a5, a6, a7, a8⟩ := y_spc A1 rd hl c (by clear w0; omega) (by clear w0; omega)
    rw [if_pos h5] at a6
    obtain ⟨r, M', k', l, gr', u1, u2, u3, u4, u5, u6, u7, u8, u9, u10, u11, u12⟩ := hH k M x2 x4 x5 x6 x7 i (gr + 1) hk0 hB hl hf a2 (by clear w0; omega) (by clear w0; omega) (by clear w0; omega) (by clear w0; omega) hI (fun j hj => ⟨(hG j hj).1, by have := (hG j hj).2; clear w0; omega⟩) (by
      rw [show (((gr + 1 : Nat) : Int) - 1) = gr by clear w0; omega]
      exact hgp) hgi hkd
    refine ⟨r, M', k', l, gr', ?_, u2, u3, by clear w0; omega, u5, u6, u7, u8, u9, by clear w0; omega, by clear w0; omega, u12⟩
    rw [c] at ksg
    generalize ((gr + 1 : Nat) : Int) = y at w0 u1
    clear hH
    rw [E_V_eq]
    show e_tv E_C (E_V 186) e_t186_195 [192, (p : Int), x2, (gr : Int), x4, x5, x6, x7] M = _
    unfold e_t186_195
    simp [e_tv, e_ev, e_sv, e_b1, e_b2, x_o1, x_o2, w0, ksg, u1]
  · have c59 : b k = 59 := by clear w0; omega
    obtain ⟨i1, i2⟩ := hI
    have b1 : 0 ≤ 28 * (p : Int) + 2 ∧ 28 * (p : Int) + 2 < 1330 := by clear w0; omega
    have b2 : 0 ≤ 28 * (p : Int) + 19 ∧ 28 * (p : Int) + 19 < 1330 := by clear w0; omega
    have hk1 : 28 * (p : Int) + 2 ≥ 1 := by clear w0; omega
    have hk2 : 28 * (p : Int) + 19 ≥ 1 := by clear w0; omega
    obtain ⟨L, hL⟩ : ∃ L : Int, L = if gr + 1 < 8 then ((gr + 1 : Nat) : Int) else 8 := ⟨_, rfl⟩
    have hL2 : (gr + 1 ≤ 8 → L = ((gr + 1 : Nat) : Int)) ∧ 0 ≤ L ∧ L ≤ 8 := by
      rw [hL]
      clear w0
      split <;> omega
    have les : ∀ M, E_C 174 [((gr + 1 : Nat) : Int), 8] M = some (L, M) := by
      intro M
      rw [hL]
      rcases x_lt (gr + 1) 8 with ⟨q, q_n⟩ | ⟨q, q_n⟩
      · rw [if_pos (by clear w0; omega)]
        have q' : ((gr + 1 : Nat) : Int) < 8 := by clear w0; omega
        generalize ((gr + 1 : Nat) : Int) = y at q' ⊢
        rw [r_ent (show e_rok 174 [y, 8] = true from rfl)]
        show e_tv E_C (E_V 174) e_t174_0 [y, 8] M = _
        unfold e_t174_0
        simp [e_tv, e_ev, e_sv, e_b1, e_b2, x_o1, x_o2, q']
      · rw [if_neg (by clear w0; omega)]
        have q' : ¬ (((gr + 1 : Nat) : Int) < 8) := by clear w0; omega
        generalize ((gr + 1 : Nat) : Int) = y at q' ⊢
        rw [r_ent (show e_rok 174 [y, 8] = true from rfl)]
        show e_tv E_C (E_V 174) e_t174_0 [y, 8] M = _
        unfold e_t174_0
        simp [e_tv, e_ev, e_sv, e_b1, e_b2, x_o1, x_o2, q']
    have s1 := fun v => r_stw (i := 28 * (p : Int) + 2) (v := v) (M := M) b1.1 b1.2
    have s2 := fun v M => r_stw (i := 28 * (p : Int) + 19) (v := v) (M := M) b2.1 b2.2
    have H2 : r_G (e_up (e_up M 193 (28 * (p : Int) + 2).toNat x2) 193 (28 * (p : Int) + 19).toNat L) (28 * (p : Int) + 2) = x2 := (r_G_n hk2 (by clear w0; omega)).trans r_G_s
    have H9 : r_G (e_up (e_up M 193 (28 * (p : Int) + 2).toNat x2) 193 (28 * (p : Int) + 19).toNat L) (28 * (p : Int) + 19) = L := r_G_s
    have H : ∀ x, x ≠ 28 * (p : Int) + 2 → x ≠ 28 * (p : Int) + 19 → r_G (e_up (e_up M 193 (28 * (p : Int) + 2).toNat x2) 193 (28 * (p : Int) + 19).toNat L) x = r_G M x := fun x x1 x2 => (r_G_n hk2 x2).trans (r_G_n hk1 x1)
    have BN : y_B b n k (e_up (e_up M 193 (28 * (p : Int) + 2).toNat x2) 193 (28 * (p : Int) + 19).toNat L) := y_Bw (y_Bw hB ⟨by clear w0; omega, by clear w0; omega⟩) ⟨by clear w0; omega, by clear w0; omega⟩
    have fN : y_fr N (e_up (e_up M 193 (28 * (p : Int) + 2).toNat x2) 193 (28 * (p : Int) + 19).toNat L) := y_frw (y_frw hf)
    obtain ⟨N1, hN1⟩ : ∃ N1, N1 = e_up (e_up M 193 (28 * (p : Int) + 2).toNat x2) 193 (28 * (p : Int) + 19).toNat L := ⟨_, rfl⟩
    rw [← hN1] at H2 H9 H BN fN
    have hN1' := hN1.symm
    refine ⟨x4, N1, k, i, gr + 1, ?_, BN, fN, hk0, hl, c59, rd, h5, h3, h7, hi0, h8, by clear w0; omega, by
      rw [show (((gr + 1 : Nat) : Int) - 1) = gr by clear w0; omega]
      exact hgp, hgi, ?_⟩
    · rw [c59] at ksg
      have wp : e_w (28 * (p : Int)) = 28 * (p : Int) ∧ e_w (28 * (p : Int) + 2) = 28 * (p : Int) + 2 ∧ e_w (28 * (p : Int) + 19) = 28 * (p : Int) + 19 := by
        clear w0 ksg s1 s2 H H2 H9 hN1 hN1' i2 hkd hG hgp sg
        refine ⟨?_, ?_, ?_⟩ <;> exact a_w_id (by omega) (by omega)
      obtain ⟨v1, v2, v3⟩ := wp
      generalize ((gr + 1 : Nat) : Int) = y at w0 les
      obtain ⟨ia, hia⟩ : ∃ ia, 28 * (p : Int) + 2 = ia := ⟨_, rfl⟩
      obtain ⟨ib, hib⟩ : ∃ ib, 28 * (p : Int) + 19 = ib := ⟨_, rfl⟩
      have v2 := v2.trans hia
      have v3 := v3.trans hib
      rw [hia] at s1 hN1'
      rw [hib] at s2 hN1'
      generalize ia.toNat = na at s1 hN1'
      generalize ib.toNat = nb at s2 hN1'
      clear hH
      rw [E_V_eq]
      show e_tv E_C (E_V 186) e_t186_195 [192, (p : Int), x2, (gr : Int), x4, x5, x6, x7] M = _
      unfold e_t186_195
      simp [e_tv, e_ev, e_sv, e_b1, e_b2, x_o1, x_o2, r_O0, w0, ksg, v1, v2, v3, s1, s2, les, hN1']
    · clear w0
      rcases i2 with ⟨e1, e2, e3, e4, e5, e6, e7⟩ | ⟨e1, e2⟩
      · refine Or.inl ⟨e1, e3, e4, ⟨fun j hj => ?_, fun x x0 hx hn => ?_⟩, fun j hj => ?_, ?_, ?_, ?_, ?_⟩
        · obtain ⟨v1, v2⟩ := e5.1 j hj
          have hj2 := (e4 j hj).1
          exact ⟨(H _ (by omega) (by omega)).trans v1, (H _ (by omega) (by omega)).trans v2⟩
        · exact (H _ (by omega) (by omega)).trans (e5.2 x x0 hx hn)
        · obtain ⟨v1, v2⟩ := e6 j hj
          have hg := hG j hj
          exact ⟨(H _ (by omega) (by omega)).trans v1, (H _ (by omega) (by omega)).trans (v2 (by omega))⟩
        · rw [H _ (by omega) (by omega)]
          have := e7 0 (by decide) (by decide) (by omega)
          rw [Int.add_zero] at this
          exact this
        · rw [H _ (by omega) (by omega)]
          exact e7 1 (by decide) (by decide) (by omega)
        · rw [H2, e2]
        · rw [H9, hL2.1 (by omega)]
      · exact Or.inr ⟨e1, e2⟩
end YR
