/-! image, restore of the reference: exactly -/
def r_cp (M : EM) (s t i : Nat) : EM := fun b j => if b = t ∧ i ≤ j ∧ j < 1330 then M s j else M b j
theorem r_cp_end (M : EM) (s t i : Nat) (h : 1330 ≤ i) : r_cp M s t i = M := by
  funext b j
  exact if_neg (fun hc => by have := hc.2.1; have := hc.2.2; omega)
theorem r_cp_step (M : EM) (s t i : Nat) (h : i < 1330) (hst : s ≠ t) : r_cp (e_up M t i (M s i)) s t (i + 1) = r_cp M s t i := by
  funext b j
  unfold r_cp
  by_cases hb : b = t
  · subst hb
    by_cases h1 : i + 1 ≤ j ∧ j < 1330
    · rw [if_pos ⟨rfl, h1⟩, if_pos ⟨rfl, by omega, h1.2⟩, c_up_n (fun hc => hst hc.1)]
    · rw [if_neg (fun hc => h1 hc.2)]
      by_cases h2 : j = i
      · subst h2
        rw [c_up_s, if_pos ⟨rfl, Nat.le_refl _, h⟩]
      · rw [c_up_n (fun hc => h2 hc.2), if_neg (fun hc => by have := hc.2.1; have := hc.2.2; omega)]
  · rw [if_neg (fun hc => hb hc.1), if_neg (fun hc => hb hc.1), c_up_n (fun hc => hb hc.1)]
theorem r_image_loop : ∀ (m : Nat) (i : Nat) (M : EM), 1330 - i ≤ m → i ≤ 1330 → E_V 255 2 [192, (i : Int)] M = some (M 193 1198, e_up (r_cp M 193 194 i) 192 9 1) := by
  have g0 : ∀ M, e_gf 768 [192] M = some 193 := fun M => r_g 768 193 M (by decide +kernel)
  have g1 : ∀ M, e_gf 769 [192] M = some 194 := fun M => r_g 769 194 M (by decide +kernel)
  have p9 : ∀ v M, e_pf 777 [192, v] M = some (e_up M 192 9 v) := fun v M => c_pf r_ref (by decide +kernel)
  have l0 : ∀ M, e_op 60 [193, 1198] M = some (M 193 1198) := fun M => r_ld (n := 1330) (by decide) (by decide +kernel) (by decide +kernel) (by decide) (by decide)
  have hend : ∀ (i : Nat) (M : EM), ¬ (i < 1330) → E_V 255 2 [192, (i : Int)] M = some (M 193 1198, e_up (r_cp M 193 194 i) 192 9 1) := by
    intro i M hlt
    have hlt' : ¬ ((i : Int) < 1330) := by omega
    have l1 : e_op 60 [193, 1198] (e_up M 192 9 1) = some (M 193 1198) := (l0 _).trans (congrArg some (c_up_n (by decide)))
    rw [r_cp_end M 193 194 i (by omega), E_V_eq]
    show e_tv E_C (E_V 255) e_t255_2 [192, (i : Int)] M = _
    unfold e_t255_2
    simp [e_tv, e_ev, e_sv, e_b2, x_o2, g0, p9, hlt', l1]
  intro m
  induction m with
  | zero => intro i M hm h1; exact hend i M (by omega)
  | succ m ih =>
    intro i M hm h1
    by_cases hlt : i < 1330
    · have hlt' : (i : Int) < 1330 := by omega
      have w1 : e_w ((i : Int) + 1) = ((i + 1 : Nat) : Int) := by rw [a_w_id (by omega) (by omega)]; omega
      have ld : e_op 60 [193, (i : Int)] M = some (M 193 i) := r_ld (n := 1330) (by decide) (by decide +kernel) (by decide +kernel) (by omega) (by omega)
      have st : e_st 100 [194, (i : Int), M 193 i] M = some (e_up M 194 i (M 193 i)) := r_st (n := 1330) (by decide) (by decide +kernel) (by decide +kernel) (by omega) (by omega)
      have hrec := ih (i + 1) (e_up M 194 i (M 193 i)) (by omega) (by omega)
      rw [r_cp_step M 193 194 i hlt (by decide), c_up_n (fun hc => absurd hc.1 (by decide))] at hrec
      rw [← hrec, E_V_eq]
      show e_tv E_C (E_V 255) e_t255_2 [192, (i : Int)] M = _
      unfold e_t255_2
      simp only [e_tv, e_ev, e_sv]
      simp [e_b2, x_o2, g0, g1, hlt', ld, st, w1]
    · exact hend i M hlt
