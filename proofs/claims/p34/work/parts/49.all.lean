section EALL
variable {ro : MRo} {d mid hv v : Nat} {K J : Nat → List Int → EM → EO}
theorem e_put_key {M : EM} {key : Nat} {x u : Int} (h : e_gf key [x] M = some u) : 8 ≤ x := by
  simp only [e_gf] at h
  split at h
  · rename_i hc; exact hc.1
  · cases h
theorem e_ai8 {M M' : EM} {x y z : Int} (h : e_st 100 [x, y, z] M = some M') : 8 ≤ x := by
  simp only [e_st] at h
  split at h
  · rename_i hc; exact hc.1
  · cases h
theorem e_re_sto {p : Nat} {i : Instr} {x : Nat × Nat × Nat} {x0 : Int} {v0 : MV} {ML1 : ML} {w : MWd} (hi : e_in mid p = some i) (hs : e_sto i = some x) (hb : e_v x.2.1 x0 v0) (h3 : x.1 + e_one x.2.1 < q_nl mid) :
    e_re ro d mid p ML1 [v0] w (p + x.2.2) (if x.2.1 = 1 then m_store2 ML1 x.1 v0 else m_store ML1 x.1 v0) [] w := by
  cases i
  case istore j =>
    cases hs
    refine e_re_pr (r := (p + 2, m_store ML1 j v0, [])) hi ?_
    simp only [m_pure, m_st1]
    exact if_pos ⟨e_f0 _ _ hb, h3⟩
  case istore_n j =>
    cases hs
    refine e_re_pr (r := (p + 1, m_store ML1 j v0, [])) hi ?_
    simp only [m_pure, m_st1]
    exact if_pos ⟨e_f0 _ _ hb, h3⟩
  case lstore j =>
    cases hs
    refine e_re_pr (r := (p + 2, m_store2 ML1 j v0, [])) hi ?_
    simp only [m_pure, m_st2]
    exact if_pos ⟨e_f1 _ _ hb, h3⟩
  case lstore_n j =>
    cases hs
    refine e_re_pr (r := (p + 1, m_store2 ML1 j v0, [])) hi ?_
    simp only [m_pure, m_st2]
    exact if_pos ⟨e_f1 _ _ hb, h3⟩
  case astore j =>
    cases hs
    refine e_re_pr (r := (p + 2, m_store ML1 j v0, [])) hi ?_
    simp only [m_pure, m_st1]
    exact if_pos ⟨e_f2 _ _ hb, h3⟩
  case astore_n j =>
    cases hs
    refine e_re_pr (r := (p + 1, m_store ML1 j v0, [])) hi ?_
    simp only [m_pure, m_st1]
    exact if_pos ⟨e_f2 _ _ hb, h3⟩
  all_goals cases hs
/-- a statement does what the machine does -/
theorem e_cs_ok (HK : e_KOK ro K) (hvd : hv ≤ d) (h0 : 0 < d) {G G' : List (Nat × Nat)} {s : e_X} {pc p : Nat} (hc : e_cs mid hv G s pc = some (G', p)) {L L' : List Int} {M M' : EM} (he : e_sv K s L M = some (L', M')) {ML1 : ML} {w : MWd} (hL : e_lr (q_nl mid) G L ML1) (hW : e_wr ro M w) :
    ∃ ML2 w', e_lr (q_nl mid) G' L' ML2 ∧ e_wr ro M' w' ∧ e_re ro d mid pc ML1 [] w p ML2 [] w' := by
  have chk : ∀ {x : e_X} {pc h : Nat} {R : List Nat × Nat}, e_chk mid hv G x none pc h = some R → ∀ {M : EM} {r : List Int × EM}, e_ev K L x M = some r → ∀ {st : List MV} {w : MWd}, m_cats st = h → e_wr ro M w → ∃ vs w', e_vs R.1 r.1 vs ∧ e_wr ro r.2 w' ∧ e_re ro d mid pc ML1 st w R.2 ML1 (vs.reverse ++ st) w' :=
    fun {x pc h R} hx {M r} he {st w} hst hW => e_chk_ok HK hvd h0 (SizeOf.sizeOf x) x (Nat.le_refl _) none pc h R hx M r he st w hst hL hW
  unfold e_cs at hc
  unfold e_sv at he
  split at hc
  · rename_i k e
    dsimp only at he
    split at hc
    · rename_i hk
      split at hc
      · cases hc
      rename_i R hR
      rcases hk with rfl | rfl | rfl
      · rw [if_pos rfl] at he
        obtain ⟨r, hr, he⟩ := Option.bind_eq_some_iff.mp he
        obtain ⟨M2, hM2, he⟩ := Option.bind_eq_some_iff.mp he
        cases he
        obtain ⟨vs, w1, a1, a2, a3⟩ := chk hR hr (st := []) rfl hW
        split at hc
        · rename_i hi
          rw [if_pos rfl] at hc
          split at hc
          · rename_i t u s hts
            split at hc
            · rename_i h1
              cases hc
              rw [hts] at a1
              obtain ⟨x, y, z, v1, v2, v3, e1, rfl, b1, b2, b3⟩ := e_vs_3 a1
              rw [e1] at hM2
              obtain ⟨w2, c1, c2⟩ := e_re_ias (d := d) (ML1 := ML1) (st := []) hi a2 h1.1 h1.2.1 h1.2.2 b1 b2 b3 hM2
              exact ⟨ML1, w2, hL, c1, e_re_tr a3 c2⟩
            · cases hc
          · cases hc
        · rw [if_neg (by decide)] at hc; cases hc
        · rw [if_neg (by decide)] at hc; cases hc
        · cases hc
      · rw [if_neg (by decide), if_pos rfl] at he
        obtain ⟨r, hr, he⟩ := Option.bind_eq_some_iff.mp he
        obtain ⟨M2, hM2, he⟩ := Option.bind_eq_some_iff.mp he
        cases he
        obtain ⟨vs, w1, a1, a2, a3⟩ := chk hR hr (st := []) rfl hW
        split at hc
        · rw [if_neg (by decide)] at hc; cases hc
        · rename_i hi
          rw [if_pos rfl] at hc
          split at hc
          · rename_i t u s hts
            split at hc
            · rename_i h1
              cases hc
              rw [hts] at a1
              obtain ⟨x, y, z, v1, v2, v3, e1, rfl, b1, b2, b3⟩ := e_vs_3 a1
              rw [e1] at hM2
              rw [h1.2.2] at b3
              obtain ⟨w2, c1, c2⟩ := e_re_las (d := d) (ML1 := ML1) (st := []) hi a2 h1.1 h1.2.1 b1 b2 b3 hM2
              exact ⟨ML1, w2, hL, c1, e_re_tr a3 c2⟩
            · cases hc
          · cases hc
        · rw [if_neg (by decide)] at hc; cases hc
        · cases hc
      · rw [if_neg (by decide), if_neg (by decide), if_pos rfl] at he
        obtain ⟨r, hr, he⟩ := Option.bind_eq_some_iff.mp he
        obtain ⟨M2, hM2, he⟩ := Option.bind_eq_some_iff.mp he
        cases he
        obtain ⟨vs, w1, a1, a2, a3⟩ := chk hR hr (st := []) rfl hW
        split at hc
        · rw [if_neg (by decide)] at hc; cases hc
        · rw [if_neg (by decide)] at hc; cases hc
        · rename_i idx hi
          rw [if_pos rfl] at hc
          split at hc
          · rename_i t u s x y z hts hq
            split at hc
            · rename_i h1
              cases hc
              obtain ⟨rfl, h2, rfl, h4, h5, h6⟩ := h1
              rw [hts] at a1
              obtain ⟨x1, x2, x3, x4, x5, v1, v2, v3, v4, v5, e1, rfl, b1, b2, b3, b4, b5⟩ := e_vs_5 a1
              rw [e1] at hM2
              obtain ⟨w2, c1, c2⟩ := e_re_cp (t1 := 0) (t3 := 0) (d := d) (ML1 := ML1) (st := []) hi hq h0 (by decide) a2 b1 b2 b3 b4 b5 h2 h4 h5 hM2
              exact ⟨ML1, w2, hL, c1, e_re_tr a3 c2⟩
            · cases hc
          · cases hc
        · cases hc
    rename_i hk1
    split at hc
    · rename_i hk
      subst hk
      rw [if_neg (by decide), if_neg (by decide), if_neg (by decide), if_pos rfl] at he
      split at hc
      · rename_i o x key
        dsimp only at he
        obtain ⟨r, hr, he⟩ := Option.bind_eq_some_iff.mp he
        obtain ⟨u, hu, he⟩ := Option.bind_eq_some_iff.mp he
        obtain ⟨q, hq, he⟩ := Option.bind_eq_some_iff.mp he
        obtain ⟨z, hz, he⟩ := Option.bind_eq_some_iff.mp he
        obtain ⟨M2, hM2, he⟩ := Option.bind_eq_some_iff.mp he
        cases he
        split at hc
        · rename_i p1 hR
          split at hc
          · rename_i idx hi1 hi2
            split at hc
            · rename_i h1
              split at hc
              · rename_i t p2 hR2
                split at hc
                · rename_i idx2 hi3 hi4
                  split at hc
                  · rename_i h2
                    cases hc
                    obtain ⟨vs, w1, a1, a2, a3⟩ := chk hR hr (st := []) rfl hW
                    obtain ⟨x0, v0, e0, rfl, b0⟩ := e_vs_1 a1
                    rw [e0] at hu hM2
                    have hdup : e_re ro d mid p1 ML1 [v0] w1 (p1 + 1) ML1 [v0, v0] w1 := by
                      refine e_re_pr (r := (p1 + 1, ML1, [v0, v0])) hi1 ?_
                      simp only [m_pure]
                      rw [e_v_L b0]
                      rfl
                    obtain ⟨g, g1, g2⟩ := e_re_get (d := d) (L := ML1) (st := [v0]) hi2 h1.1 a2 b0 hu
                    have hg0 : m_cats [g, v0] = 2 := by
                      rw [e_cats_cons, e_cats_cons, e_v_L b0, e_v_L g1, h1.2]; rfl
                    obtain ⟨vs2, w2, d1, d2, d3⟩ := chk hR2 hq (st := [g, v0]) hg0 a2
                    obtain ⟨x2, v2, e2, rfl, d4⟩ := e_vs_1 d1
                    rw [e2] at hz
                    rw [h1.2] at g1
                    obtain ⟨s1, s2, s3⟩ := e_re_i2 (ro := ro) (d := d) (L := ML1) (st := [v0]) (w := w2) (c := (10, 0, 0)) (t := 0) hi3 rfl rfl h2.1 g1 d4 hz
                    obtain ⟨w3, f1, f2⟩ := e_re_put (d := d) (ML1 := ML1) (st := []) hi4 h2.2.1 h2.2.2 d2 b0 (by rw [h1.2]; exact s2) hM2
                    exact ⟨ML1, w3, hL, f1, e_re_tr a3 (e_re_tr hdup (e_re_tr g2 (e_re_tr d3 (e_re_tr s3 f2))))⟩
                  · cases hc
                · cases hc
              · cases hc
            · cases hc
          · cases hc
        · cases hc
      · cases hc
    rename_i hk2
    split at hc
    · rename_i hk
      subst hk
      rw [if_neg (by decide), if_neg (by decide), if_neg (by decide), if_neg (by decide), if_pos rfl] at he
      split at hc
      · rename_i ai x
        dsimp only at he
        obtain ⟨r, hr, he⟩ := Option.bind_eq_some_iff.mp he
        obtain ⟨u, hu, he⟩ := Option.bind_eq_some_iff.mp he
        obtain ⟨q, hq, he⟩ := Option.bind_eq_some_iff.mp he
        obtain ⟨z, hz, he⟩ := Option.bind_eq_some_iff.mp he
        obtain ⟨M2, hM2, he⟩ := Option.bind_eq_some_iff.mp he
        cases he
        split at hc
        · rename_i ut p1 hR
          split at hc
          · rename_i hi1 hi2
            split at hc
            · rename_i h1
              split at hc
              · rename_i t p2 hR2
                split at hc
                · rename_i hi3 hi4
                  split at hc
                  · rename_i h2
                    cases hc
                    obtain ⟨vs, w1, a1, a2, a3⟩ := chk hR hr (st := []) rfl hW
                    obtain ⟨x0, y0, v0, v1, e0, rfl, b0, b1⟩ := e_vs_2 a1
                    rw [e0] at hu hM2
                    have hb1 : m_isL v1 = false := by obtain ⟨_, rfl, -⟩ := e_v_int h1 b1; rfl
                    have hb0 : m_isL v0 = false := by rw [e_v_L b0]; rfl
                    have hdup : e_re ro d mid p1 ML1 [v1, v0] w1 (p1 + 1) ML1 [v1, v0, v1, v0] w1 := by
                      refine e_re_pr (r := (p1 + 1, ML1, [v1, v0, v1, v0])) hi1 ?_
                      simp only [m_pure, hb1, hb0]
                      rfl
                    obtain ⟨g, g1, g2⟩ := e_re_iald (d := d) (L := ML1) (st := [v1, v0]) hi2 a2 rfl h1 b0 b1 hu
                    have hg0 : m_cats [g, v1, v0] = 3 := by
                      rw [e_cats_cons, e_cats_cons, e_cats_cons, hb0, hb1, e_v_L g1]; rfl
                    obtain ⟨vs2, w2, d1, d2, d3⟩ := chk hR2 hq (st := [g, v1, v0]) hg0 a2
                    obtain ⟨x2, v2, e2, rfl, d4⟩ := e_vs_1 d1
                    rw [e2] at hz
                    obtain ⟨s1, s2, s3⟩ := e_re_i2 (ro := ro) (d := d) (L := ML1) (st := [v1, v0]) (w := w2) (c := (10, 0, 0)) (t := 0) hi3 rfl rfl h2 g1 d4 hz
                    obtain ⟨w3, f1, f2⟩ := e_re_ias (d := d) (ML1 := ML1) (st := []) hi4 d2 rfl h1 (s := 0) rfl b0 b1 s2 hM2
                    exact ⟨ML1, w3, hL, f1, e_re_tr a3 (e_re_tr hdup (e_re_tr g2 (e_re_tr d3 (e_re_tr s3 f2))))⟩
                  · cases hc
                · cases hc
              · cases hc
            · cases hc
          · cases hc
        · cases hc
      · cases hc
    rename_i hk3
    have n64 : ¬ k = 64 := fun q => hk1 (Or.inl q)
    have n65 : ¬ k = 65 := fun q => hk1 (Or.inr (Or.inl q))
    have n66 : ¬ k = 66 := fun q => hk1 (Or.inr (Or.inr q))
    rw [if_neg n64, if_neg n65, if_neg n66, if_neg hk2, if_neg hk3] at he
    split at hc
    · rename_i hk
      rw [if_pos hk] at he
      obtain ⟨r, hr, he⟩ := Option.bind_eq_some_iff.mp he
      cases he
      split at hc
      · rename_i t p1 hR
        split at hc
        · rename_i x hx
          split at hc
          · rename_i h1
            cases hc
            obtain ⟨h1, h2, h3⟩ := h1
            obtain ⟨vs, w1, a1, a2, a3⟩ := chk hR hr (st := []) rfl hW
            obtain ⟨x0, v0, e0, rfl, b0⟩ := e_vs_1 a1
            obtain ⟨i, hi, hs⟩ := Option.bind_eq_some_iff.mp hx
            rw [e0, ← h1]
            show ∃ ML2 w', e_lr (q_nl mid) (e_gs G x.1 t) (L.set x.1 x0) ML2 ∧ _
            have hb2 := e_v_kt b0
            rw [h2] at hb2
            have h31 : x.1 + e_one x.2.1 < q_nl mid := by
              have : x.1 + e_one t < q_nl mid := h3
              have h9 : e_one x.2.1 = e_one t := by
                rw [← h2]
                unfold e_kt e_one
                split
                · rename_i h8; subst h8; rfl
                · rfl
              omega
            have hst := e_re_sto (ro := ro) (d := d) (ML1 := ML1) (w := w1) hi hs hb2 h31
            by_cases ht1 : t = 1
            · subst ht1
              have h8 : x.2.1 = 1 := h2.symm
              rw [if_pos h8] at hst
              have : x.1 + 1 < q_nl mid := h3
              exact ⟨m_store2 ML1 x.1 v0, w1, e_lr_s2 hL b0 (by omega), a2, e_re_tr a3 hst⟩
            · have h8 : ¬ x.2.1 = 1 := by
                rw [← h2]
                unfold e_kt
                split
                · decide
                · exact ht1
              rw [if_neg h8] at hst
              exact ⟨m_store ML1 x.1 v0, w1, e_lr_s1 hL b0 (by omega), a2, e_re_tr a3 hst⟩
          · cases hc
        · cases hc
      · cases hc
    rename_i hk4
    rw [if_neg hk4] at he
    split at hc
    · rename_i hk
      rw [if_pos hk] at he
      split at hc
      · rename_i c i n hi
        dsimp only at he
        cases he
        split at hc
        · rename_i t ht
          split at hc
          · rename_i h1
            cases hc
            obtain ⟨h9, h2, h3, h4⟩ := h1
            rw [← h9]
            obtain ⟨mv, m1, m2⟩ := hL.2 _ _ ht
            obtain ⟨y, rfl, hy⟩ := e_v_int h2 m2
            refine ⟨m_store ML1 i (.inl (y + Int32.ofInt n)), w, e_lr_s1 hL ⟨_, rfl, ?_⟩ h4, hW, ?_⟩
            · rw [Int32.toInt_add, h3, hy]; exact e_wb _
            · refine e_re_pr (r := (_, _, [])) hi ?_
              simp only [m_pure, m1]
              exact if_pos h4
          · cases hc
        · cases hc
      · cases hc
    rename_i hk5
    rw [if_neg hk5] at he
    split at hc
    · rename_i hk
      rw [if_pos hk] at he
      obtain ⟨r, hr, he⟩ := Option.bind_eq_some_iff.mp he
      cases he
      unfold e_ev at hr
      rw [if_neg (by omega)] at hr
      obtain ⟨ra, hra, hr⟩ := Option.bind_eq_some_iff.mp hr
      rw [if_pos hk] at hr
      obtain ⟨q, hq, hr⟩ := Option.bind_eq_some_iff.mp hr
      cases hr
      split at hc
      · cases hc
      rename_i R hR
      obtain ⟨vs, w1, a1, a2, a3⟩ := chk hR hra (st := []) rfl hW
      split at hc
      · rename_i h6
        obtain ⟨o, w', g1, g2, g3⟩ := e_re_call (ML1 := ML1) (st := []) HK hvd h6.1 a1 rfl a2 hq
        rw [h6.2] at g2
        rcases g2 with ⟨ov, rfl, g4⟩ | ⟨g4, -⟩
        · split at hc
          · rename_i hrt
            cases hc
            rw [hrt] at g4
            dsimp only at g4
            subst g4
            exact ⟨ML1, w', hL, g1, e_re_tr a3 (fun kk oo hkk => g3 kk oo hkk)⟩
          · rename_i t hrt
            rw [hrt] at g4
            obtain ⟨mv, rfl, g5⟩ := g4
            have hcall : e_re ro d mid R.2 ML1 (vs.reverse ++ []) w1 (R.2 + 3) ML1 [mv] w' := fun kk oo hkk => g3 kk oo hkk
            split at hc
            · rename_i hpop
              split at hc
              · cases hc
              · rename_i ht1
                cases hc
                refine ⟨ML1, w', hL, g1, e_re_tr a3 (e_re_tr hcall ?_)⟩
                refine e_re_pr (r := (_, ML1, [])) hpop ?_
                simp only [m_pure]
                rw [e_v_L g5, decide_eq_false ht1]
                rfl
            · cases hc
        · cases g4
      · cases hc
    · cases hc
  · rename_i e key
    dsimp only at he
    obtain ⟨r, hr, he⟩ := Option.bind_eq_some_iff.mp he
    obtain ⟨M2, hM2, he⟩ := Option.bind_eq_some_iff.mp he
    cases he
    split at hc
    · rename_i t p1 hR
      split at hc
      · rename_i idx hi
        split at hc
        · rename_i h1
          cases hc
          obtain ⟨h1, h2, h3, h4⟩ := h1
          obtain ⟨vs, w1, a1, a2, a3⟩ := chk hR hr (st := []) rfl hW
          obtain ⟨x0, y0, v0, v1, e0, rfl, b0, b1⟩ := e_vs_2 a1
          rw [e0] at hM2
          have b2 : e_v (e_fty key.toNat) y0 v1 := (e_fit_vs (xs := [y0]) (vs := [v1]) h3 ⟨b1, trivial⟩).1
          obtain ⟨w2, c1, c2⟩ := e_re_put (d := d) (ML1 := ML1) (st := []) hi h1 h2 a2 b0 b2 hM2
          exact ⟨ML1, w2, hL, c1, e_re_tr a3 c2⟩
        · cases hc
      · cases hc
    · cases hc
  · cases hc
end EALL
