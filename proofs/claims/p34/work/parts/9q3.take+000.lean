/-! the class's takeAll, image and restore -/
theorem p_C_tr {so to : Nat} {D D' : AW} {M0 M1 M2 : EM} (hd : p_dir so to) (h : p_C so to D M0 M1) (k : p_C so to D' M1 M2) : p_C so to (D' ++ D) M0 M2 := by
  have hs : ∀ id j, 10 ≤ id ∧ id ≤ 76 → M1 (id + so) j = M0 (id + so) j := fun id j hi => p_C_src hd hi h j
  obtain ⟨h1, h2, h3⟩ := h
  obtain ⟨k1, k2, k3⟩ := k
  refine ⟨fun w hw j j0 j1 => ?_, fun id j hn => ?_, fun w hw => ?_⟩
  · by_cases c : ∃ w' ∈ D', w'.1 = w.1 ∧ w'.2.1 ≤ j ∧ j ≤ w'.2.2
    · obtain ⟨w', hw', e, e1, e2⟩ := c
      rw [← e, k1 w' hw' j e1 e2, hs _ _ (k3 w' hw')]
    · rcases List.mem_append.mp hw with hw | hw
      · exact absurd ⟨w, hw, rfl, j0, j1⟩ c
      · rw [k2 _ _ (fun w' hw' hc => c ⟨w', hw', by omega, hc.2⟩)]
        exact h1 w hw j j0 j1
  · rw [k2 _ _ (fun w hw hc => hn w (List.mem_append.mpr (Or.inl hw)) hc)]
    exact h2 _ _ (fun w hw hc => hn w (List.mem_append.mpr (Or.inr hw)) hc)
  · rcases List.mem_append.mp hw with hw | hw
    · exact k3 w hw
    · exact h3 w hw
theorem p_is7 {n : Nat} (h : (37 ≤ n ∧ n ≤ 76) ∨ (105 ≤ n ∧ n ≤ 144)) : e_isO 7 (n : Int) := (by decide +kernel : ∀ n : Fin 145, ((37 ≤ n.val ∧ n.val ≤ 76) ∨ (105 ≤ n.val ∧ n.val ≤ 144)) → e_isO 7 (n.val : Int)) ⟨n, by omega⟩ h
theorem p_80 {so to id s t : Nat} (hd : p_dir so to) (hi : 37 ≤ id ∧ id ≤ 76) (es : s = id + so) (et : t = id + to) {D : AW} {M0 M : EM} (h : p_C so to D M0 M) : ∃ M1, E_C 80 [(t : Int), (s : Int)] M = some (0, M1) ∧ p_C so to ((id, 4, 4) :: (id, 3, 3) :: (id, 2, 2) :: (id, 1, 1) :: (id, 0, 0) :: D) M0 M1 := by
  have is : e_isO 7 (s : Int) := p_is7 (by unfold p_dir at hd; omega)
  have it : e_isO 7 (t : Int) := p_is7 (by unfold p_dir at hd; omega)
  have g0 : ∀ M, e_gf 448 [(s : Int)] M = some (M s 0) := fun M => c_gf is (by decide +kernel)
  have w0 : ∀ v M, e_pf 448 [(t : Int), v] M = some (e_up M t 0 v) := fun v M => c_pf it (by decide +kernel)
  have g1 : ∀ M, e_gf 449 [(s : Int)] M = some (M s 1) := fun M => c_gf is (by decide +kernel)
  have w1 : ∀ v M, e_pf 449 [(t : Int), v] M = some (e_up M t 1 v) := fun v M => c_pf it (by decide +kernel)
  have g2 : ∀ M, e_gf 450 [(s : Int)] M = some (M s 2) := fun M => c_gf is (by decide +kernel)
  have w2 : ∀ v M, e_pf 450 [(t : Int), v] M = some (e_up M t 2 v) := fun v M => c_pf it (by decide +kernel)
  have g3 : ∀ M, e_gf 451 [(s : Int)] M = some (M s 3) := fun M => c_gf is (by decide +kernel)
  have w3 : ∀ v M, e_pf 451 [(t : Int), v] M = some (e_up M t 3 v) := fun v M => c_pf it (by decide +kernel)
  have g4 : ∀ M, e_gf 452 [(s : Int)] M = some (M s 4) := fun M => c_gf is (by decide +kernel)
  have w4 : ∀ v M, e_pf 452 [(t : Int), v] M = some (e_up M t 4 v) := fun v M => c_pf it (by decide +kernel)
  have hi10 : 10 ≤ id ∧ id ≤ 76 := ⟨by omega, hi.2⟩
  refine ⟨(e_up (e_up (e_up (e_up (e_up M t 0 (M s 0)) t 1 ((e_up M t 0 (M s 0)) s 1)) t 2 ((e_up (e_up M t 0 (M s 0)) t 1 ((e_up M t 0 (M s 0)) s 1)) s 2)) t 3 ((e_up (e_up (e_up M t 0 (M s 0)) t 1 ((e_up M t 0 (M s 0)) s 1)) t 2 ((e_up (e_up M t 0 (M s 0)) t 1 ((e_up M t 0 (M s 0)) s 1)) s 2)) s 3)) t 4 ((e_up (e_up (e_up (e_up M t 0 (M s 0)) t 1 ((e_up M t 0 (M s 0)) s 1)) t 2 ((e_up (e_up M t 0 (M s 0)) t 1 ((e_up M t 0 (M s 0)) s 1)) s 2)) t 3 ((e_up (e_up (e_up M t 0 (M s 0)) t 1 ((e_up M t 0 (M s 0)) s 1)) t 2 ((e_up (e_up M t 0 (M s 0)) t 1 ((e_up M t 0 (M s 0)) s 1)) s 2)) s 3)) s 4)), ?_, ?_⟩
  · rw [r_ent (show e_rok 80 [(t : Int), (s : Int)] = true from decide_eq_true it)]
    show e_tv E_C (E_V 80) e_t80_0 [(t : Int), (s : Int)] M = _
    unfold e_t80_0
    simp [e_tv, e_ev, e_sv, e_b1, e_b2, x_o1, x_o2, g0, g1, g2, g3, g4, w0, w1, w2, w3, w4]
  · subst es et
    exact (p_C_cell (j := 4) hd hi10 (p_C_cell (j := 3) hd hi10 (p_C_cell (j := 2) hd hi10 (p_C_cell (j := 1) hd hi10 (p_C_cell (j := 0) hd hi10 h)))))
def p_DL : Nat → AW
  | 0 => []
  | i + 1 => (37 + i, 4, 4) :: (37 + i, 3, 3) :: (37 + i, 2, 2) :: (37 + i, 1, 1) :: (37 + i, 0, 0) :: p_DL i
theorem p_gr25 {i : Nat} (h : i < 40) : e_gr 25 i = ((37 + i : Nat) : Int) ∧ e_gr 93 i = ((105 + i : Nat) : Int) := (by decide +kernel : ∀ i : Fin 40, e_gr 25 i.val = ((37 + i.val : Nat) : Int) ∧ e_gr 93 i.val = ((105 + i.val : Nat) : Int)) ⟨i, h⟩
theorem p_len {a : Int} {n : Nat} (h : 8 ≤ a ∧ a.toNat < e_N ∧ 100 ≤ (e_sh a.toNat).1 ∧ (e_sh a.toNat).2 = n) (M : EM) : e_op 63 [a] M = some (n : Int) := by
  obtain ⟨h1, h2, h3, h4⟩ := h
  have z : e_sz M a.toNat = n := (if_neg (by omega)).trans h4
  have h0 : 0 ≤ a := by omega
  simp [e_op, z, h0, h2, h3]
theorem p_len25 (M : EM) : e_op 63 [25] M = some 40 ∧ e_op 63 [93] M = some 40 := ⟨p_len (n := 40) (by decide +kernel) M, p_len (n := 40) (by decide +kernel) M⟩
theorem p_rd25 {i : Nat} (h : i < 40) (M : EM) : e_op 62 [25, (i : Int)] M = some ((37 + i : Nat) : Int) ∧ e_op 62 [93, (i : Int)] M = some ((105 + i : Nat) : Int) := by
  have z1 : e_sz M 25 = 40 := (if_neg (by decide)).trans (by decide +kernel)
  have z2 : e_sz M 93 = 40 := (if_neg (by decide)).trans (by decide +kernel)
  refine ⟨?_, ?_⟩
  · have c : (0 : Int) ≤ 25 ∧ (25 : Int).toNat < e_N ∧ 102 ≤ (e_sh (25 : Int).toNat).1 ∧ 0 ≤ (i : Int) ∧ (i : Int).toNat < e_sz M (25 : Int).toNat := ⟨by decide, by decide +kernel, by decide +kernel, by omega, by show _ < e_sz M 25; omega⟩
    exact (if_pos c).trans (congrArg some ((congrArg (e_gr 25) (Int.toNat_natCast i)).trans (p_gr25 h).1))
  · have c : (0 : Int) ≤ 93 ∧ (93 : Int).toNat < e_N ∧ 102 ≤ (e_sh (93 : Int).toNat).1 ∧ 0 ≤ (i : Int) ∧ (i : Int).toNat < e_sz M (93 : Int).toNat := ⟨by decide, by decide +kernel, by decide +kernel, by omega, by show _ < e_sz M 93; omega⟩
    exact (if_pos c).trans (congrArg some ((congrArg (e_gr 93) (Int.toNat_natCast i)).trans (p_gr25 h).2))
def p_D48 : AW := p_D93 ++ (p_D72 ++ (p_DL 40 ++ (p_D34 ++ p_D51)))

theorem p_48i_step {i : Nat} (h : i < 40) {x3 x4 : Int} {D : AW} {M0 M : EM} (hC : p_C 0 68 (p_DL i ++ D) M0 M) : ∃ y3 y4 M1, E_V 48 24 [77, 9, (i : Int), x3, x4] M = E_V 48 24 [77, 9, ((i + 1 : Nat) : Int), y3, y4] M1 ∧ p_C 0 68 (p_DL (i + 1) ++ D) M0 M1 := by
  have hd : p_dir 0 68 := by unfold p_dir; decide
  obtain ⟨M1, k, c⟩ := p_80 (id := 37 + i) (s := 37 + i) (t := 105 + i) hd ⟨by omega, by omega⟩ (by omega) (by omega) hC
  have fs : ∀ M, e_gf 194 [9] M = some 25 := fun M => p_g 194 9 25 M (by decide +kernel)
  have ft : ∀ M, e_gf 194 [77] M = some 93 := fun M => p_g 194 77 93 M (by decide +kernel)
  have ls := fun M => (p_len25 M).1
  have lt := fun M => (p_len25 M).2
  have rs := fun M => (p_rd25 h M).1
  have rt := fun M => (p_rd25 h M).2
  refine ⟨(((105 + i : Nat)) : Int), (((37 + i : Nat)) : Int), M1, ?_, c⟩
  generalize hb : ((105 + i : Nat) : Int) = bt at k rt ⊢
  generalize hc : ((37 + i : Nat) : Int) = bs at k rs ⊢
  generalize hi1 : ((i + 1 : Nat) : Int) = i1
  generalize hi0 : (i : Int) = i0 at rs rt ⊢
  have nb : ¬ (bt = -1) := by omega
  have nc : ¬ (bs = -1) := by omega
  have w : e_w (i0 + 1) = i1 := (a_w_id (by omega) (by omega)).trans (by omega)
  have q : i0 < 40 := by omega
  have q_n : ¬ (40 ≤ i0) := by omega
  have e72 : ∀ M, E_V 48 72 [77, 9, i0, bt, bs] M = E_V 48 24 [77, 9, i1, bt, bs] M := by
    intro M
    rw [E_V_eq]
    show e_tv E_C (E_V 48) e_t48_72 [77, 9, i0, bt, bs] M = _
    unfold e_t48_72
    simp [e_tv, e_ev, e_sv, e_b1, e_b2, x_o1, x_o2, w]
  rw [E_V_eq]
  show e_tv E_C (E_V 48) e_t48_24 [77, 9, i0, x3, x4] M = _
  unfold e_t48_24
  simp [e_tv, e_ev, e_sv, e_b1, e_b2, x_o1, x_o2, fs, ft, ls, lt, rs, rt, nb, nc, q, q_n, k, e72]
