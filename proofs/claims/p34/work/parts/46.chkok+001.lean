section ECHK
variable {ro : MRo} {d mid hv : Nat} {K : Nat → List Int → EM → EO} {G : List (Nat × Nat)} {L : List Int} {ML1 : ML}
theorem e_re_cj {k p pt pf : Nat} {ts : List Nat} {xs : List Int} {vs st : List MV} {M : EM} {w : MWd} {b : Int} (hj : e_cj mid k ts p pt pf = true) (hvs : e_vs ts xs vs) (he : e_op k xs M = some b) :
    e_re ro d mid p ML1 (vs.reverse ++ st) w (if b = 0 then pf else pt) ML1 st w := by
  unfold e_cj at hj
  split at hj
  · rename_i c off hi
    split at hj
    · rename_i t u
      obtain ⟨x, y, v, v2, rfl, rfl, h1, h2⟩ := e_vs_2 hvs
      simp only [Bool.and_eq_true, decide_eq_true_eq] at hj
      obtain ⟨⟨ht, hu⟩, hbr⟩ := hj
      obtain ⟨a, rfl, rfl⟩ := e_v_int ht h1
      obtain ⟨a2, rfl, rfl⟩ := e_v_int hu h2
      have hk : ∀ n, n < 6 → k = 40 + n → b = if e_crb n a.toInt a2.toInt = true then 1 else 0 := by
        intro n hn hk
        subst hk
        simp only [e_op, if_neg (show ¬ (40 + n = 60) by omega), if_neg (show ¬ (40 + n = 61) by omega), if_neg (show ¬ (40 + n = 62) by omega), (e_cr2 hn a.toInt a2.toInt).1] at he
        cases he; rfl
      obtain ⟨h4, h5⟩ := e_br_to hbr (e_cn_lt c) hk
      rw [← h4]
      refine e_re_pr (r := (if e_crb (e_cn c) a.toInt a2.toInt = true then ((p : Int) + off).toNat else p + 3, ML1, st)) hi ?_
      show m_br2 p off ML1 (.inl a2 :: .inl a :: st) (m_cmp c) = _
      simp only [m_br2, if_pos h5, e_cmp]
    · cases hj
  · rename_i c off hi
    split at hj
    · rename_i t
      obtain ⟨x, v, rfl, rfl, h1⟩ := e_vs_1 hvs
      simp only [Bool.and_eq_true, decide_eq_true_eq] at hj
      obtain ⟨ht, hbr⟩ := hj
      obtain ⟨a, rfl, rfl⟩ := e_v_int ht h1
      have hk : ∀ n, n < 6 → k = 46 + n → b = if e_crb n a.toInt 0 = true then 1 else 0 := by
        intro n hn hk
        subst hk
        simp only [e_op, if_neg (show ¬ (46 + n = 63) by omega), (e_cr2 hn a.toInt 0).2.2] at he
        cases he; rfl
      obtain ⟨h4, h5⟩ := e_br_to hbr (e_cn_lt c) hk
      rw [← h4]
      refine e_re_pr (r := (if e_crb (e_cn c) a.toInt 0 = true then ((p : Int) + off).toNat else p + 3, ML1, st)) hi ?_
      show m_br1 p off ML1 (.inl a :: st) (fun x => m_cmp c x 0) = _
      simp only [m_br1, if_pos h5, e_cmp]
      rfl
    · cases hj
  · rename_i hi
    split at hj
    · rename_i t u c off hi2
      obtain ⟨x, y, v, v2, rfl, rfl, h1, h2⟩ := e_vs_2 hvs
      simp only [Bool.and_eq_true, decide_eq_true_eq] at hj
      obtain ⟨⟨rfl, rfl⟩, hbr⟩ := hj
      obtain ⟨a, rfl, rfl⟩ := h1
      obtain ⟨a2, rfl, rfl⟩ := h2
      have hk : ∀ n, n < 6 → k = 54 + n → b = if e_crb n a.toInt a2.toInt = true then 1 else 0 := by
        intro n hn hk
        subst hk
        by_cases h60 : 54 + n < 60
        · simp only [e_op, if_neg (show ¬ (54 + n = 60) by omega), if_neg (show ¬ (54 + n = 61) by omega), if_neg (show ¬ (54 + n = 62) by omega), (e_cr2 hn a.toInt a2.toInt).2.1] at he
          cases he; rfl
        · omega
      obtain ⟨h4, h5⟩ := e_br_to hbr (e_cn_lt c) hk
      rw [← h4]
      refine e_re_tr (e_re_pr (r := (p + 1, ML1, .inl (lg_cmp a a2) :: st)) hi rfl) ?_
      refine e_re_pr (r := (if e_crb (e_cn c) a.toInt a2.toInt = true then ((p : Int) + 1 + off).toNat else p + 4, ML1, st)) hi2 ?_
      show m_br1 (p + 1) off ML1 (.inl (lg_cmp a a2) :: st) (fun x => m_cmp c x 0) = _
      have h6 : (((p + 1 : Nat) : Int) + off) = (p : Int) + 1 + off := by omega
      have h7 : e_crb (e_cn c) (lg_cmp a a2).toInt 0 = e_crb (e_cn c) a.toInt a2.toInt := by
        rw [e_lgcmp]
        cases c <;> simp only [e_cn, e_crb, decide_eq_decide] <;> (repeat' split) <;> omega
      simp only [m_br1, h6, if_pos h5, e_cmp]
      rw [show (0 : Int32).toInt = 0 from rfl, h7]
    · cases hj
  · rename_i off hi
    split at hj
    · rename_i t
      obtain ⟨x, v, rfl, rfl, h1⟩ := e_vs_1 hvs
      simp only [Bool.and_eq_true, Bool.or_eq_true, decide_eq_true_eq] at hj
      obtain ⟨rfl, ⟨⟨rfl, h2⟩, h3⟩ | ⟨⟨rfl, h2⟩, h3⟩⟩ := hj
      · simp only [e_op, if_neg (show ¬ (52 = 63) by decide), e_b1] at he
        cases he
        rcases h1 with ⟨rfl, rfl⟩ | ⟨a, rfl, rfl⟩
        · refine e_re_pr (r := (pt, ML1, st)) hi ?_
          show m_to p off ML1 st = _
          unfold m_to; rw [h2, if_pos (by omega)]; simp
        · rw [if_neg (show ¬ ((a : Int) = -1) by omega), if_pos rfl]
          exact e_re_pr (r := (pf, ML1, st)) hi (by rw [← h3]; rfl)
      · simp only [e_op, if_neg (show ¬ (53 = 63) by decide), e_b1] at he
        cases he
        rcases h1 with ⟨rfl, rfl⟩ | ⟨a, rfl, rfl⟩
        · refine e_re_pr (r := (pf, ML1, st)) hi ?_
          show m_to p off ML1 st = _
          unfold m_to; rw [h2, if_pos (by omega)]; simp
        · rw [if_pos (show ((a : Int) ≠ -1) by omega), if_neg (by decide)]
          exact e_re_pr (r := (pt, ML1, st)) hi (by rw [← h3]; rfl)
    · cases hj
  · rename_i off hi
    split at hj
    · rename_i t
      obtain ⟨x, v, rfl, rfl, h1⟩ := e_vs_1 hvs
      simp only [Bool.and_eq_true, Bool.or_eq_true, decide_eq_true_eq] at hj
      obtain ⟨rfl, ⟨⟨rfl, h2⟩, h3⟩ | ⟨⟨rfl, h2⟩, h3⟩⟩ := hj
      · simp only [e_op, if_neg (show ¬ (53 = 63) by decide), e_b1] at he
        cases he
        rcases h1 with ⟨rfl, rfl⟩ | ⟨a, rfl, rfl⟩
        · exact e_re_pr (r := (pf, ML1, st)) hi (by rw [← h3]; rfl)
        · rw [if_pos (show ((a : Int) ≠ -1) by omega), if_neg (by decide)]
          refine e_re_pr (r := (pt, ML1, st)) hi ?_
          show m_to p off ML1 st = _
          unfold m_to; rw [h2, if_pos (by omega)]; simp
      · simp only [e_op, if_neg (show ¬ (52 = 63) by decide), e_b1] at he
        cases he
        rcases h1 with ⟨rfl, rfl⟩ | ⟨a, rfl, rfl⟩
        · exact e_re_pr (r := (pt, ML1, st)) hi (by rw [← h3]; rfl)
        · rw [if_neg (show ¬ ((a : Int) = -1) by omega), if_pos rfl]
          refine e_re_pr (r := (pf, ML1, st)) hi ?_
          show m_to p off ML1 st = _
          unfold m_to; rw [h2, if_pos (by omega)]; simp
    · cases hj
  · cases hj
theorem e_take {vs st : List MV} {n : Nat} (h : n = vs.length) : ((vs.reverse ++ st).take n).reverse = vs ∧ (vs.reverse ++ st).drop n = st ∧ n ≤ (vs.reverse ++ st).length := by
  subst h
  have h1 : vs.length = vs.reverse.length := by simp
  refine ⟨?_, ?_, ?_⟩
  · rw [h1, List.take_left, List.reverse_reverse]
  · rw [h1, List.drop_left]
  · simp
end ECHK
