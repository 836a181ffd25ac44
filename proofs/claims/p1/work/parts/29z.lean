set_option maxRecDepth 100000 in
theorem x_iz : s_go 10 256 59 2 (x_Li 1330) [] (x_Ai 1330) x_E32 = some (40, x_Li 1330, [.inl (.inl 0)], x_A5) := x_eqG (by decide +kernel)
theorem x_im2 {ro : MRo} {ρ : Nat → Int32} (hE : s_in ρ x_E32) (hro : s_ro ro ρ) : ∃ k, m_run ro k 59 256 0 (sl_val ρ [(0, .inl (.inr (.inr (some 192))))]) (([] : List SV).map (s_val ρ)) (s_w ρ x_A4) = some (.inl (some (.inl 0)), s_w ρ x_A5) := by
  refine s_go_ok hE hro _ _ _ _ _ _ x_ig ?_
  refine s_go_ok hE hro _ _ _ _ _ _ x_i0 ?_
  refine s_go_ok hE hro _ _ _ _ _ _ x_i1 ?_
  refine s_go_ok hE hro _ _ _ _ _ _ x_i2 ?_
  refine s_go_ok hE hro _ _ _ _ _ _ x_i3 ?_
  refine s_go_ok hE hro _ _ _ _ _ _ x_i4 ?_
  refine s_go_ok hE hro _ _ _ _ _ _ x_i5 ?_
  refine s_go_ok hE hro _ _ _ _ _ _ x_i6 ?_
  refine s_go_ok hE hro _ _ _ _ _ _ x_i7 ?_
  refine s_go_ok hE hro _ _ _ _ _ _ x_i8 ?_
  refine s_go_ok hE hro _ _ _ _ _ _ x_i9 ?_
  refine s_go_ok hE hro _ _ _ _ _ _ x_i10 ?_
  refine s_go_ok hE hro _ _ _ _ _ _ x_i11 ?_
  refine s_go_ok hE hro _ _ _ _ _ _ x_i12 ?_
  refine s_go_ok hE hro _ _ _ _ _ _ x_i13 ?_
  refine s_go_ok hE hro _ _ _ _ _ _ x_iz ?_
  exact x_rt (v := some (.inl (.inl 0))) (i := .ireturn) (by decide +kernel) (by decide +kernel) rfl
set_option maxRecDepth 100000 in
theorem x_w1 : s_go 13 275 60 23 x_L1 [] x_A3 x_E32 = some (1597, x_L1, [.inl (.inr (.inr (some 8)))], x_A3) := x_eqG (by decide +kernel)
set_option maxRecDepth 100000 in
theorem x_w2 : s_go 1 275 60 1600 x_L1 [.inl (.inl 0)] x_A4 x_E32 = some (1601, x_L1, [.inl (.inr (.inr (some 192))), .inl (.inl 0)], x_A4) := x_eqG (by decide +kernel)
set_option maxRecDepth 100000 in
theorem x_w3 : s_go 10 275 60 1604 x_L1 [.inl (.inl 0), .inl (.inl 0)] x_A5 x_E32 = some (1991, [(4, .inl (.inl 6)), (3, .inl (.inr (.inr (some 213)))), (2, .inl (.inr (.inr (some 192)))), (1, .inl (.inr (.inr (some 8)))), (0, .inl (.inr (.inr (some 0))))], [.inl (.inl 1)], x_A5) := x_eqG (by decide +kernel)
theorem x_32 {ro : MRo} {ρ : Nat → Int32} (hE : s_in ρ x_E32) (hro : s_ro ro ρ) : ∃ k, m_run ro k 60 275 23 (sl_val ρ x_L1) (([] : List SV).map (s_val ρ)) (s_w ρ x_A3) = some (.inl (some (.inl 1)), s_w ρ x_A5) := by
  refine s_go_ok hE hro _ _ _ _ _ _ x_w1 ?_
  refine x_cl (d := 59) (i := .invokevirtual 167) (z := (136, [.inl (.inr (.inr (some 8)))], [])) (A' := x_A4) hE hro (by decide +kernel) (by decide +kernel) (x_eqC (by decide +kernel)) x_im1 ?_
  refine s_go_ok hE hro _ _ _ _ _ _ x_w2 ?_
  refine x_cl2 (d := 59) (i := .invokevirtual 170) (z := (256, [.inl (.inr (.inr (some 192)))], [.inl (.inl 0)])) (v := some (.inl (.inl 0))) (A' := x_A5) (by decide +kernel) (by decide +kernel) (x_eqC (by decide +kernel)) (x_im2 hE hro) ?_
  refine s_go_ok hE hro _ _ _ _ _ _ x_w3 ?_
  exact x_rt (v := some (.inl (.inl 1))) (i := .ireturn) (by decide +kernel) (by decide +kernel) rfl
