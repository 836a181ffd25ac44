theorem x_E0 {ρ : Nat → Int32} (h : s_drv ρ) : s_in ρ s_E0 := by
  have hf : ∀ x : Int32, (-2147483648 : Int) ≤ x.toInt ∧ x.toInt ≤ 2147483647 := fun x => ⟨Int32.le_toInt x, by have := Int32.toInt_lt x; omega⟩
  exact ⟨h, fun k => match k with
    | 0 | 1 | 2 | 3 | 4 | 5 | 6 | 7 => hf _
    | _ + 8 => hf _⟩
set_option maxRecDepth 100000 in
theorem x_pre {ro : MRo} {ρ : Nat → Int32} {r : MOut × MWd} (h7 : s_drv ρ) (hro : s_ro ro ρ) (h : ∃ k, m_run ro k 60 274 23 (sl_val ρ x_L1) [] (s_w ρ x_A3) = some r) :
    ∃ k, m_run ro k 60 274 0 (sl_val ρ [(0, .inl (.inr (.inr (some 0))))]) [] (s_w ρ (8, 0, 0, [])) = some r := by
  have hE := x_E0 h7
  show ∃ k, m_run ro k 60 274 0 (sl_val ρ [(0, .inl (.inr (.inr (some 0))))]) (([] : List SV).map (s_val ρ)) (s_w ρ (8, 0, 0, [])) = some r
  refine x_st (i := .new 8) (pc' := 3) (L' := [(0, .inl (.inr (.inr (some 0))))]) (st' := [.inl (.inr (.inr (some 8)))]) (A' := s_mk (8, 0, 0, []) (11, 10)) hE hro (by decide +kernel) (by decide +kernel) (x_eqR (by decide +kernel)) ?_
  refine x_st (i := .dup) (pc' := 4) (L' := [(0, .inl (.inr (.inr (some 0))))]) (st' := [.inl (.inr (.inr (some 8))), .inl (.inr (.inr (some 8)))]) (A' := s_mk (8, 0, 0, []) (11, 10)) hE hro (by decide +kernel) (by decide +kernel) (x_eqR (by decide +kernel)) ?_
  refine x_cl (d := 59) (i := .invokespecial 24) (z := (103, [.inl (.inr (.inr (some 8)))], [.inl (.inr (.inr (some 8)))])) (A' := x_A1) hE hro (by decide +kernel) (by decide +kernel) (x_eqC (by decide +kernel)) x_c1 ?_
  show ∃ k, m_run ro k 60 274 7 (sl_val ρ [(0, .inl (.inr (.inr (some 0))))]) (([.inl (.inr (.inr (some 8)))] : List SV).map (s_val ρ)) (s_w ρ x_A1) = some r
  refine x_st (i := .astore_n 1) (pc' := 8) (L' := [(1, .inl (.inr (.inr (some 8)))), (0, .inl (.inr (.inr (some 0))))]) (st' := []) (A' := x_A1) hE hro (by decide +kernel) (by decide +kernel) (x_eqR (by decide +kernel)) ?_
  refine x_st (i := .new 25) (pc' := 11) (L' := [(1, .inl (.inr (.inr (some 8)))), (0, .inl (.inr (.inr (some 0))))]) (st' := [.inl (.inr (.inr (some 192)))]) (A' := s_mk x_A1 (12, 40)) hE hro (by decide +kernel) (by decide +kernel) (x_eqR (by decide +kernel)) ?_
  refine x_st (i := .dup) (pc' := 12) (L' := [(1, .inl (.inr (.inr (some 8)))), (0, .inl (.inr (.inr (some 0))))]) (st' := [.inl (.inr (.inr (some 192))), .inl (.inr (.inr (some 192)))]) (A' := s_mk x_A1 (12, 40)) hE hro (by decide +kernel) (by decide +kernel) (x_eqR (by decide +kernel)) ?_
  refine x_cl (d := 59) (i := .invokespecial 27) (z := (167, [.inl (.inr (.inr (some 192)))], [.inl (.inr (.inr (some 192)))])) (A' := x_A2) hE hro (by decide +kernel) (by decide +kernel) (x_eqC (by decide +kernel)) x_c2 ?_
  show ∃ k, m_run ro k 60 274 15 (sl_val ρ [(1, .inl (.inr (.inr (some 8)))), (0, .inl (.inr (.inr (some 0))))]) (([.inl (.inr (.inr (some 192)))] : List SV).map (s_val ρ)) (s_w ρ x_A2) = some r
  refine x_st (i := .astore_n 2) (pc' := 16) (L' := [(2, .inl (.inr (.inr (some 192)))), (1, .inl (.inr (.inr (some 8)))), (0, .inl (.inr (.inr (some 0))))]) (st' := []) (A' := x_A2) hE hro (by decide +kernel) (by decide +kernel) (x_eqR (by decide +kernel)) ?_
  refine x_st (i := .iconst 1) (pc' := 17) (L' := [(2, .inl (.inr (.inr (some 192)))), (1, .inl (.inr (.inr (some 8)))), (0, .inl (.inr (.inr (some 0))))]) (st' := [.inl (.inl 1)]) (A' := x_A2) hE hro (by decide +kernel) (by decide +kernel) (x_eqR (by decide +kernel)) ?_
  refine x_st (i := .newarray .long) (pc' := 19) (L' := [(2, .inl (.inr (.inr (some 192)))), (1, .inl (.inr (.inr (some 8)))), (0, .inl (.inr (.inr (some 0))))]) (st' := [.inl (.inr (.inr (some 213)))]) (A' := x_A3) hE hro (by decide +kernel) (by decide +kernel) (x_eqR (by decide +kernel)) ?_
  refine x_st (i := .astore_n 3) (pc' := 20) (L' := [(3, .inl (.inr (.inr (some 213)))), (2, .inl (.inr (.inr (some 192)))), (1, .inl (.inr (.inr (some 8)))), (0, .inl (.inr (.inr (some 0))))]) (st' := []) (A' := x_A3) hE hro (by decide +kernel) (by decide +kernel) (x_eqR (by decide +kernel)) ?_
  refine x_st (i := .iconst 0) (pc' := 21) (L' := [(3, .inl (.inr (.inr (some 213)))), (2, .inl (.inr (.inr (some 192)))), (1, .inl (.inr (.inr (some 8)))), (0, .inl (.inr (.inr (some 0))))]) (st' := [.inl (.inl 0)]) (A' := x_A3) hE hro (by decide +kernel) (by decide +kernel) (x_eqR (by decide +kernel)) ?_
  refine x_st (i := .istore 4) (pc' := 23) (L' := x_L1) (st' := []) (A' := x_A3) hE hro (by decide +kernel) (by decide +kernel) (x_eqR (by decide +kernel)) ?_
  exact h

