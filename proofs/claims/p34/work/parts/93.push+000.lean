/-! SHARE, PUSH and CURRENT of CELLS and ROWS of the reference -/
def r_P (u : Nat) (as : List Int) (M : EM) : Prop := ∃ r, E_C u as M = some (r, M) ∧ -2147483648 ≤ r ∧ r ≤ 2147483647
theorem r_share {p : Int} {M : EM} (hE : r_E M) (hp : 0 ≤ p ∧ p < 40) (hl : r_lies (r_G M) p) : r_P 192 [192, p] M := by
  obtain ⟨hM, hW, hh⟩ := hE
  have w1 : e_w (28 * p) = 28 * p := a_w_id (by omega) (by omega)
  have w2 : e_w (28 * p + 15) = 28 * p + 15 := a_w_id (by omega) (by omega)
  have w3 : e_w (28 * p + 15 + 4) = 28 * p + 15 + 4 := a_w_id (by omega) (by omega)
  have w4 : e_w (28 * p + 15 + 1) = 28 * p + 15 + 1 := a_w_id (by omega) (by omega)
  have w5 : e_w (28 * p + 15 + 2) = 28 * p + 15 + 2 := a_w_id (by omega) (by omega)
  have l0 : e_op 60 [193, 28 * p + 15] M = some (r_G M (28 * p + 15)) := r_rd (by omega) (by omega)
  have l1 : e_op 60 [193, 28 * p + 15 + 4] M = some (r_G M (28 * p + 15 + 4)) := r_rd (by omega) (by omega)
  have l2 : e_op 60 [193, 28 * p + 15 + 1] M = some (r_G M (28 * p + 15 + 1)) := r_rd (by omega) (by omega)
  have l3 : e_op 60 [193, 28 * p + 15 + 2] M = some (r_G M (28 * p + 15 + 2)) := r_rd (by omega) (by omega)
  unfold r_P
  suffices hs : E_C 192 [192, p] M = some (0, M) ∨ ∃ a b c, E_C 192 [192, p] M = some (e_w ((e_w (e_w (a * e_w (100 - b)) * e_w (100 - c))).tdiv 10000), M) by
    rcases hs with hs | ⟨a, b, c, hs⟩
    · exact ⟨0, hs, by decide, by decide⟩
    · exact ⟨_, hs, a_w _⟩
  by_cases c0 : r_G M (28 * p + 15 + 4) = 1
  · refine Or.inl ?_
    rw [r_ent (show e_rok 192 [192, p] = true from decide_eq_true r_ref)]
    show e_tv E_C (E_V 192) e_t192_0 [192, p, 0, 0, 0, 0] M = _
    unfold e_t192_0
    simp [e_tv, e_ev, e_sv, e_b1, e_b2, x_o1, x_o2, r_O0, w1, w2, w3, l1, c0]
  · by_cases c1 : M 192 23 = p
    · refine Or.inl ?_
      rw [r_ent (show e_rok 192 [192, p] = true from decide_eq_true r_ref)]
      show e_tv E_C (E_V 192) e_t192_0 [192, p, 0, 0, 0, 0] M = _
      unfold e_t192_0
      simp [e_tv, e_ev, e_sv, e_b1, e_b2, x_o1, x_o2, r_O0, r_F23, w1, w2, w3, l1, c0, c1]
    · refine Or.inr ?_
      by_cases c2 : e_bit (fun x y => x &&& y) (M 192 22) 1 = 1
      · by_cases c4 : e_bit (fun x y => x &&& y) (M 192 22) 2 = 2
        · by_cases c5 : e_bit (fun x y => x &&& y) (M 192 22) 4 = 4
          · refine ⟨100, 0, 0, ?_⟩
            rw [r_ent (show e_rok 192 [192, p] = true from decide_eq_true r_ref)]
            show e_tv E_C (E_V 192) e_t192_0 [192, p, 0, 0, 0, 0] M = _
            unfold e_t192_0
            simp [e_tv, e_ev, e_sv, e_b1, e_b2, x_o1, x_o2, r_O0, r_F20, r_F21, r_F22, r_F23, w1, w2, w3, w4, w5, l0, l1, l2, l3, c0, c1, c2, c4, c5]
          · refine ⟨100, 0, r_G M (28 * p + 15 + 2), ?_⟩
            rw [r_ent (show e_rok 192 [192, p] = true from decide_eq_true r_ref)]
            show e_tv E_C (E_V 192) e_t192_0 [192, p, 0, 0, 0, 0] M = _
            unfold e_t192_0
            simp [e_tv, e_ev, e_sv, e_b1, e_b2, x_o1, x_o2, r_O0, r_F20, r_F21, r_F22, r_F23, w1, w2, w3, w4, w5, l0, l1, l2, l3, c0, c1, c2, c4, c5]
        · by_cases c5 : e_bit (fun x y => x &&& y) (M 192 22) 4 = 4
          · refine ⟨100, r_G M (28 * p + 15 + 1), 0, ?_⟩
            rw [r_ent (show e_rok 192 [192, p] = true from decide_eq_true r_ref)]
            show e_tv E_C (E_V 192) e_t192_0 [192, p, 0, 0, 0, 0] M = _
            unfold e_t192_0
            simp [e_tv, e_ev, e_sv, e_b1, e_b2, x_o1, x_o2, r_O0, r_F20, r_F21, r_F22, r_F23, w1, w2, w3, w4, w5, l0, l1, l2, l3, c0, c1, c2, c4, c5]
          · refine ⟨100, r_G M (28 * p + 15 + 1), r_G M (28 * p + 15 + 2), ?_⟩
            rw [r_ent (show e_rok 192 [192, p] = true from decide_eq_true r_ref)]
            show e_tv E_C (E_V 192) e_t192_0 [192, p, 0, 0, 0, 0] M = _
            unfold e_t192_0
            simp [e_tv, e_ev, e_sv, e_b1, e_b2, x_o1, x_o2, r_O0, r_F20, r_F21, r_F22, r_F23, w1, w2, w3, w4, w5, l0, l1, l2, l3, c0, c1, c2, c4, c5]
      · rcases x_lt (M 192 20) 0 with c3 | c3
        · by_cases c4 : e_bit (fun x y => x &&& y) (M 192 22) 2 = 2
          · by_cases c5 : e_bit (fun x y => x &&& y) (M 192 22) 4 = 4
            · refine ⟨r_G M (28 * p + 15), 0, 0, ?_⟩
              rw [r_ent (show e_rok 192 [192, p] = true from decide_eq_true r_ref)]
              show e_tv E_C (E_V 192) e_t192_0 [192, p, 0, 0, 0, 0] M = _
              unfold e_t192_0
              simp [e_tv, e_ev, e_sv, e_b1, e_b2, x_o1, x_o2, r_O0, r_F20, r_F21, r_F22, r_F23, w1, w2, w3, w4, w5, l0, l1, l2, l3, c0, c1, c2, c3, c4, c5]
            · refine ⟨r_G M (28 * p + 15), 0, r_G M (28 * p + 15 + 2), ?_⟩
              rw [r_ent (show e_rok 192 [192, p] = true from decide_eq_true r_ref)]
              show e_tv E_C (E_V 192) e_t192_0 [192, p, 0, 0, 0, 0] M = _
              unfold e_t192_0
              simp [e_tv, e_ev, e_sv, e_b1, e_b2, x_o1, x_o2, r_O0, r_F20, r_F21, r_F22, r_F23, w1, w2, w3, w4, w5, l0, l1, l2, l3, c0, c1, c2, c3, c4, c5]
          · by_cases c5 : e_bit (fun x y => x &&& y) (M 192 22) 4 = 4
            · refine ⟨r_G M (28 * p + 15), r_G M (28 * p + 15 + 1), 0, ?_⟩
              rw [r_ent (show e_rok 192 [192, p] = true from decide_eq_true r_ref)]
              show e_tv E_C (E_V 192) e_t192_0 [192, p, 0, 0, 0, 0] M = _
              unfold e_t192_0
              simp [e_tv, e_ev, e_sv, e_b1, e_b2, x_o1, x_o2, r_O0, r_F20, r_F21, r_F22, r_F23, w1, w2, w3, w4, w5, l0, l1, l2, l3, c0, c1, c2, c3, c4, c5]
            · refine ⟨r_G M (28 * p + 15), r_G M (28 * p + 15 + 1), r_G M (28 * p + 15 + 2), ?_⟩
              rw [r_ent (show e_rok 192 [192, p] = true from decide_eq_true r_ref)]
              show e_tv E_C (E_V 192) e_t192_0 [192, p, 0, 0, 0, 0] M = _
              unfold e_t192_0
              simp [e_tv, e_ev, e_sv, e_b1, e_b2, x_o1, x_o2, r_O0, r_F20, r_F21, r_F22, r_F23, w1, w2, w3, w4, w5, l0, l1, l2, l3, c0, c1, c2, c3, c4, c5]
        · obtain ⟨t, kt, -⟩ := r_litOf (p := p) (h := M 192 20) hM ⟨c3.2, hh.2⟩ hp hl
          by_cases c4 : e_bit (fun x y => x &&& y) (M 192 22) 2 = 2
          · by_cases c5 : e_bit (fun x y => x &&& y) (M 192 22) 4 = 4
            · refine ⟨e_w ((e_w (t * M 192 21)).tdiv 100), 0, 0, ?_⟩
              rw [r_ent (show e_rok 192 [192, p] = true from decide_eq_true r_ref)]
              show e_tv E_C (E_V 192) e_t192_0 [192, p, 0, 0, 0, 0] M = _
              unfold e_t192_0
              simp [e_tv, e_ev, e_sv, e_b1, e_b2, x_o1, x_o2, r_O0, r_F20, r_F21, r_F22, r_F23, w1, w2, w3, w4, w5, l0, l1, l2, l3, c0, c1, c2, c3, kt, c4, c5]
            · refine ⟨e_w ((e_w (t * M 192 21)).tdiv 100), 0, r_G M (28 * p + 15 + 2), ?_⟩
              rw [r_ent (show e_rok 192 [192, p] = true from decide_eq_true r_ref)]
              show e_tv E_C (E_V 192) e_t192_0 [192, p, 0, 0, 0, 0] M = _
              unfold e_t192_0
              simp [e_tv, e_ev, e_sv, e_b1, e_b2, x_o1, x_o2, r_O0, r_F20, r_F21, r_F22, r_F23, w1, w2, w3, w4, w5, l0, l1, l2, l3, c0, c1, c2, c3, kt, c4, c5]
          · by_cases c5 : e_bit (fun x y => x &&& y) (M 192 22) 4 = 4
            · refine ⟨e_w ((e_w (t * M 192 21)).tdiv 100), r_G M (28 * p + 15 + 1), 0, ?_⟩
              rw [r_ent (show e_rok 192 [192, p] = true from decide_eq_true r_ref)]
              show e_tv E_C (E_V 192) e_t192_0 [192, p, 0, 0, 0, 0] M = _
              unfold e_t192_0
              simp [e_tv, e_ev, e_sv, e_b1, e_b2, x_o1, x_o2, r_O0, r_F20, r_F21, r_F22, r_F23, w1, w2, w3, w4, w5, l0, l1, l2, l3, c0, c1, c2, c3, kt, c4, c5]
            · refine ⟨e_w ((e_w (t * M 192 21)).tdiv 100), r_G M (28 * p + 15 + 1), r_G M (28 * p + 15 + 2), ?_⟩
              rw [r_ent (show e_rok 192 [192, p] = true from decide_eq_true r_ref)]
              show e_tv E_C (E_V 192) e_t192_0 [192, p, 0, 0, 0, 0] M = _
              unfold e_t192_0
              simp [e_tv, e_ev, e_sv, e_b1, e_b2, x_o1, x_o2, r_O0, r_F20, r_F21, r_F22, r_F23, w1, w2, w3, w4, w5, l0, l1, l2, l3, c0, c1, c2, c3, kt, c4, c5]
