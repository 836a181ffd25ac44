/-! sky: what both leave -/
def h_Sk (M : EM) (d i : Nat) (M' : EM) : Prop := (∀ id k, ¬ (id = 193 ∧ 1202 + i ≤ k ∧ k < 1322) → M' id k = M id k) ∧ ∀ j, i ≤ j → j < 120 → M' 193 (1202 + j) = M 198 (120 * d + j)
theorem h_225L {d : Nat} {z : Int} (hd : d < 8) : ∀ (m i : Nat) (M : EM), i + m = 120 → ∃ M', E_V 225 43 [192, (d : Int), z, (i : Int)] M = some (M 197 d, M') ∧ h_Sk M d i M' := by
  intro m
  induction m with
  | zero =>
    intro i M hm
    have e : i = 120 := by omega
    subst e
    have b : 0 ≤ (d : Int) ∧ (d : Int) ≤ 7 := by omega
    have l := (r_isD (d : Int) M b).2.2.1
    rw [Int.toNat_natCast] at l
    exact ⟨M, h_225e l, fun _ _ _ => rfl, fun j h1 h2 => absurd h1 (by omega)⟩
  | succ m ih =>
    intro i M hm
    have q : (i : Int) < 120 := by omega
    have b1 : 0 ≤ 1202 + (i : Int) ∧ 1202 + (i : Int) < 1330 := by omega
    have b2 : 0 ≤ 120 * (d : Int) + (i : Int) ∧ 120 * (d : Int) + (i : Int) < 960 := by omega
    have st := fun v => r_stw (i := 1202 + (i : Int)) (v := v) (M := M) b1.1 b1.2
    have l := r_rdE (M := M) b2.1 b2.2
    have w : e_w (1202 + (i : Int)) = 1202 + (i : Int) ∧ e_w (120 * (d : Int)) = 120 * (d : Int) ∧ e_w (120 * (d : Int) + (i : Int)) = 120 * (d : Int) + (i : Int) ∧ e_w ((i : Int) + 1) = ((i + 1 : Nat) : Int) := by
      clear st l ih
      refine ⟨?_, ?_, ?_, (a_w_id (by omega) (by omega)).trans (by omega)⟩ <;> exact a_w_id (by omega) (by omega)
    obtain ⟨M', k, s1, s2⟩ := ih (i + 1) (e_up M 193 (1202 + (i : Int)).toNat (M 198 (120 * (d : Int) + (i : Int)).toNat)) (by omega)
    rw [c_up_n (fun h => absurd h.1 (by decide))] at k
    have w0 := w
    clear w
    refine ⟨M', (h_225s q w0.1 w0.2.1 w0.2.2.1 w0.2.2.2 l st).trans k, ?_, ?_⟩
    · clear w0 st l ih k s2
      intro id j h
      rw [s1 id j (by omega)]
      exact c_up_n (by omega)
    · clear w0 st l ih k
      intro j h1 h2
      by_cases c : j = i
      · subst c
        rw [s1 193 _ (by omega)]
        have t1 : (1202 + (j : Int)).toNat = 1202 + j := by omega
        have t2 : (120 * (d : Int) + (j : Int)).toNat = 120 * d + j := by omega
        rw [t1, t2, c_up_s]
      · rw [s2 j (by omega) h2]
        exact c_up_n (by omega)
