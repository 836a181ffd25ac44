theorem r_204 {i : Int} {M : EM} (h0 : 0 ≤ i) (hi : i < 1330) : e_op 60 [204, i] M = some (M 204 i.toNat) := r_ld (n := 1330) (by decide) (by decide +kernel) (by decide +kernel) h0 hi
theorem r_s204 {i v : Int} {M : EM} (h0 : 0 ≤ i) (hi : i < 1330) : e_st 100 [204, i, v] M = some (e_up M 204 i.toNat v) := r_st (n := 1330) (by decide) (by decide +kernel) (by decide +kernel) h0 hi
/-- the row is kept -/
theorem r_tx_65 {d x4 : Int} : ∀ (m : Nat) (i : Nat) (M : EM), 1330 - i ≤ m → i ≤ 1330 → E_V 190 65 [192, d, 0, (i : Int), x4] M = E_V 190 95 [192, d, 0, 1330, x4] (e_up (r_cp M 193 204 i) 192 15 0) := by
  have hend : ∀ (i : Nat) (M : EM), ¬ (i < 1330) → i ≤ 1330 → E_V 190 65 [192, d, 0, (i : Int), x4] M = E_V 190 95 [192, d, 0, 1330, x4] (e_up (r_cp M 193 204 i) 192 15 0) := by
    intro i M q h1
    have hi : i = 1330 := by omega
    subst hi
    rw [r_cp_end M 193 204 1330 (by omega)]
    rw [E_V_eq]
    show e_tv E_C (E_V 190) e_t190_65 [192, d, 0, ((1330 : Nat) : Int), x4] M = _
    unfold e_t190_65
    simp [e_tv, e_ev, e_sv, e_b1, e_b2, x_o1, x_o2, r_P15]
  intro m
  induction m with
  | zero => intro i M hm h1; exact hend i M (by omega) h1
  | succ m ih =>
    intro i M hm h1
    rcases Nat.lt_or_ge i 1330 with q | q
    · have q' : (i : Int) < 1330 := by omega
      have q'' : ¬ (1330 ≤ (i : Int)) := by omega
      have w1 : e_w ((i : Int) + 1) = ((i + 1 : Nat) : Int) := by rw [a_w_id (by omega) (by omega)]; omega
      have ld : e_op 60 [193, (i : Int)] M = some (M 193 i) := r_s (by omega) (by omega)
      have st : e_st 100 [204, (i : Int), M 193 i] M = some (e_up M 204 i (M 193 i)) := r_s204 (by omega) (by omega)
      have hrec := ih (i + 1) (e_up M 204 i (M 193 i)) (by omega) (by omega)
      rw [r_cp_step M 193 204 i q (by decide)] at hrec
      rw [← hrec]
      rw [E_V_eq]
      show e_tv E_C (E_V 190) e_t190_65 [192, d, 0, (i : Int), x4] M = _
      unfold e_t190_65
      simp only [e_tv, e_ev, e_sv]
      simp [e_b2, x_o2, r_O0, r_O19, q', q'', ld, st, w1]
    · exact hend i M (by omega) h1
/-- the row as it was -/
theorem r_tx_124 {d x3 : Int} : ∀ (m : Nat) (i : Nat) (M : EM), 1330 - i ≤ m → i ≤ 1330 → E_V 190 124 [192, d, 0, x3, (i : Int)] M = some (e_w (-2000 - x3), r_cp M 204 193 i) := by
  have hend : ∀ (i : Nat) (M : EM), ¬ (i < 1330) → i ≤ 1330 → E_V 190 124 [192, d, 0, x3, (i : Int)] M = some (e_w (-2000 - x3), r_cp M 204 193 i) := by
    intro i M q h1
    have hi : i = 1330 := by omega
    subst hi
    rw [r_cp_end M 204 193 1330 (by omega)]
    rw [E_V_eq]
    show e_tv E_C (E_V 190) e_t190_124 [192, d, 0, x3, ((1330 : Nat) : Int)] M = _
    unfold e_t190_124
    simp [e_tv, e_ev, e_sv, e_b1, e_b2, x_o1, x_o2]
  intro m
  induction m with
  | zero => intro i M hm h1; exact hend i M (by omega) h1
  | succ m ih =>
    intro i M hm h1
    rcases Nat.lt_or_ge i 1330 with q | q
    · have q' : (i : Int) < 1330 := by omega
      have q'' : ¬ (1330 ≤ (i : Int)) := by omega
      have w1 : e_w ((i : Int) + 1) = ((i + 1 : Nat) : Int) := by rw [a_w_id (by omega) (by omega)]; omega
      have ld : e_op 60 [204, (i : Int)] M = some (M 204 i) := r_204 (by omega) (by omega)
      have st : e_st 100 [193, (i : Int), M 204 i] M = some (e_up M 193 i (M 204 i)) := r_stw (by omega) (by omega)
      have hrec := ih (i + 1) (e_up M 193 i (M 204 i)) (by omega) (by omega)
      rw [r_cp_step M 204 193 i q (by decide)] at hrec
      rw [← hrec]
      rw [E_V_eq]
      show e_tv E_C (E_V 190) e_t190_124 [192, d, 0, x3, (i : Int)] M = _
      unfold e_t190_124
      simp only [e_tv, e_ev, e_sv]
      simp [e_b2, x_o2, r_O0, r_O19, q', q'', ld, st, w1]
    · exact hend i M (by omega) h1
/-- while STATEMENTS are made; M0: as the text began -/
def r_TV (M0 N : EM) : Prop := a_M N ∧ r_W (r_G N) ∧ r_N99 N ∧ (∀ id k, id ≠ 193 → id ≠ 204 → ¬ (id = 192 ∧ (15 ≤ k ∧ k ≤ 18)) → N id k = M0 id k) ∧ (∀ i, 1120 ≤ i → i ≠ 1198 → r_G N i = r_G M0 i) ∧ (∀ k, k < 1330 → N 204 k = M0 193 k) ∧ (∀ k, 1330 ≤ k → N 204 k = M0 204 k) ∧ 0 ≤ N 192 15 ∧ r_bl N
def r_wX : AW := [(193, 0, 1119), (193, 1198, 1198), (204, 0, 1329)]
theorem r_TV_fin {M0 M' : EM} (hJ : r_J M0) (hM : a_M M') (hW : r_W (r_G M')) (h4 : ∀ id k, id ≠ 193 → id ≠ 204 → ¬ (id = 192 ∧ (15 ≤ k ∧ k ≤ 18)) → M' id k = M0 id k) (h5 : ∀ i, 1120 ≤ i → i ≠ 1198 → r_G M' i = r_G M0 i) (h7 : ∀ k, 1330 ≤ k → M' 204 k = M0 204 k) : r_J M' ∧ a_fr (r_wX ++ r_wq) M0 M' := by
  obtain ⟨j1, j2, j3, j4, j5⟩ := hJ
  have e2 : r_Gi M' = r_Gi M0 := funext fun i => h4 _ _ (by decide) (by decide) (by omega)
  refine ⟨⟨hM, fun j hj => ?_, hW, ?_, ?_⟩, fun id k hw => ?_⟩
  · rw [h4 _ _ (by decide) (by decide) (by omega)]; exact j2 j hj
  · rw [h4 _ _ (by decide) (by decide) (by omega), e2]; exact j4
  · rw [h4 _ _ (by decide) (by decide) (by omega)]; exact j5
  · have w1 := hw (193, 0, 1119) (by decide)
    have w2 := hw (193, 1198, 1198) (by decide)
    have w3 := hw (204, 0, 1329) (by decide)
    have w4 := hw (192, 10, 35) (by decide)
    by_cases c : id = 193
    · subst c
      have a1 : ¬ (k ≤ 1119) := fun e => w1 ⟨rfl, Nat.zero_le _, e⟩
      have a2 : k ≠ 1198 := fun e => w2 ⟨rfl, by show 1198 ≤ k; omega, by show k ≤ 1198; omega⟩
      have h := h5 (k : Int) (by omega) (by omega)
      exact h
    · by_cases c2 : id = 204
      · subst c2
        exact h7 k (by
          have a1 : ¬ (k ≤ 1329) := fun e => w3 ⟨rfl, Nat.zero_le _, e⟩
          omega)
      · exact h4 id k c c2 (fun e => w4 ⟨e.1.symm, by show 10 ≤ k; omega, by show k ≤ 35; omega⟩)
theorem r_tx_95 {d : Int} {M0 : EM} (hJ : r_J M0) : ∀ (m : Nat) (x3 x4 : Int) (N : EM), r_TV M0 N → (N 192 17 - N 192 15).toNat ≤ m → ∃ r M', E_V 190 95 [192, d, 0, x3, x4] N = some (r, M') ∧ r_J M' ∧ a_fr (r_wX ++ r_wq) M0 M' := by
  have hend : ∀ (x3 x4 : Int) (N : EM), r_TV M0 N → ¬ (N 192 15 < N 192 17) → ∃ r M', E_V 190 95 [192, d, 0, x3, x4] N = some (r, M') ∧ r_J M' ∧ a_fr (r_wX ++ r_wq) M0 M' := by
    intro x3 x4 N hv q
    obtain ⟨v1, v2, v3, v4, v5, v6, v7, v8, v9⟩ := hv
    have l1 : e_op 60 [193, 1198] N = some (r_G N 1198) := r_rd (by decide) (by decide)
    have l2 : e_op 60 [204, 1198] N = some (N 204 1198) := r_204 (by decide) (by decide)
    refine ⟨e_w (r_G N 1198 - N 204 1198), N, ?_, r_TV_fin hJ v1 v2 v4 v5 v7⟩
    rw [E_V_eq]
    show e_tv E_C (E_V 190) e_t190_95 [192, d, 0, x3, x4] N = _
    unfold e_t190_95
    simp [e_tv, e_ev, e_sv, e_b1, e_b2, x_o1, x_o2, r_O0, r_O19, r_F15, r_F17, q, l1, l2]
  intro m
  induction m with
  | zero => intro x3 x4 N hv hm; exact hend x3 x4 N hv (by omega)
  | succ m ih =>
    intro x3 x4 N hv hm
    rcases x_lt (N 192 15) (N 192 17) with ⟨q, q_n⟩ | ⟨q, q_n⟩
    · have hv' := hv
      obtain ⟨v1, v2, v3, v4, v5, v6, v7, v8, v9⟩ := hv'
      obtain ⟨b1, b2, b3⟩ := v9
      have back : ∀ N1 : EM, a_M N1 → (∀ id k, id ≠ 193 → ¬ (id = 192 ∧ (k = 15 ∨ k = 18)) → N1 id k = N id k) → (∀ i, 1120 ≤ i → i ≠ 1198 → r_G N1 i = r_G N i) → r_J (r_cp N1 204 193 0) ∧ a_fr (r_wX ++ r_wq) M0 (r_cp N1 204 193 0) := by
        intro N1 n1 n2 n5
        have hi : ∀ i, i < 1330 → r_G (r_cp N1 204 193 0) i = r_G M0 i := fun i hi => by
          have e1 : r_G (r_cp N1 204 193 0) i = N1 204 i.toNat := r_cp_t (by omega)
          rw [e1, n2 _ _ (by decide) (by omega), v6 _ (by omega)]
          rfl
        refine r_TV_fin hJ (r_cp_M ⟨by decide, by decide +kernel⟩ ⟨by decide, by decide +kernel, by decide +kernel⟩ n1) (r_W_far (r_J_E hJ).2.1 (fun i h => hi i (by omega)) (r_Z_eq (r_Zof hJ) (fun i i0 i1 => hi i (by omega)))) (fun id k h1 h2 h3 => ?_) (fun i i0 i1 => ?_) (fun k hk => ?_)
        · rw [r_cp_n h1, n2 id k h1 (by omega)]
          exact v4 id k h1 h2 h3
        · rcases x_lt i 1330 with ⟨hi2, hi2_n⟩ | ⟨hi2, hi2_n⟩
          · exact hi i hi2
          · have e1 : r_G (r_cp N1 204 193 0) i = r_G N1 i := if_neg (fun c => by have := c.2.2; omega)
            rw [e1, n5 i i0 i1]
            exact v5 i i0 i1
        · rw [r_cp_n (by decide), n2 _ _ (by decide) (by omega)]
          exact v7 k hk
      have T : r_ty N := ⟨v1, v8, by omega, b1, b2, b3⟩
      rcases r_makes v2 T v3 ⟨v8, by omega⟩ with ⟨-, k1⟩ | ⟨s, N1, k1, n1, n2, n3, n5, n6, n7, n8⟩
      · have k2 := r_tx_124 (d := d) (x3 := N 192 15) 1330 0 N (by decide) (by decide)
        obtain ⟨z1, z2⟩ := back N v1 (fun _ _ _ _ => rfl) (fun _ _ _ => rfl)
        refine ⟨e_w (-2000 - N 192 15), r_cp N 204 193 0, ?_, z1, z2⟩
        rw [E_V_eq]
        show e_tv E_C (E_V 190) e_t190_95 [192, d, 0, x3, x4] N = _
        unfold e_t190_95
        simp [e_tv, e_ev, e_sv, e_b1, e_b2, x_o1, x_o2, r_F15, r_F17, q, q_n, k1]
        exact k2
      · by_cases hs : s = 0
        · subst hs
          have k2 := r_tx_124 (d := d) (x3 := N 192 15) 1330 0 N1 (by decide) (by decide)
          obtain ⟨z1, z2⟩ := back N1 n1 n2 n5
          refine ⟨e_w (-2000 - N 192 15), r_cp N1 204 193 0, ?_, z1, z2⟩
          rw [E_V_eq]
          show e_tv E_C (E_V 190) e_t190_95 [192, d, 0, x3, x4] N = _
          unfold e_t190_95
          simp [e_tv, e_ev, e_sv, e_b1, e_b2, x_o1, x_o2, r_F15, r_F17, q, q_n, k1]
          exact k2
        · have e17 := n2 192 17 (by decide) (by omega)
          have e16 := n2 192 16 (by decide) (by omega)
          obtain ⟨r, M', k, t⟩ := ih (N 192 15) x4 N1 ⟨n1, n8 hs, n3, fun id k h1 h2 h3 => (n2 id k h1 (by omega)).trans (v4 id k h1 h2 h3), fun i i0 i1 => (n5 i i0 i1).trans (v5 i i0 i1), fun k hk => (n2 _ _ (by decide) (by omega)).trans (v6 k hk), fun k hk => (n2 _ _ (by decide) (by omega)).trans (v7 k hk), by omega, ⟨by omega, by omega, by omega⟩⟩ (by omega)
          refine ⟨r, M', ?_, t⟩
          rw [E_V_eq]
          show e_tv E_C (E_V 190) e_t190_95 [192, d, 0, x3, x4] N = _
          unfold e_t190_95
          simp [e_tv, e_ev, e_sv, e_b1, e_b2, x_o1, x_o2, r_F15, r_F17, q, q_n, k1, hs, k]
    · exact hend x3 x4 N hv q
