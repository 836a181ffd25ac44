section
section EALL
variable {ro : MRo} {d mid hv v : Nat} {K J : Nat → List Int → EM → EO}
theorem e_put_key {M : EM} {key : Nat} {x u : Int} (h : e_gf key [x] M = some u) : 8 ≤ x := by
  simp only [e_gf] at h
  split at h
  · rename_i hc; exact hc.1
  · cases h
theorem e_ai8 {M M' : EM} {x y z : Int} (h : e_st 100 [x, y, z] M = some M') : 8 ≤ x := by
  simp only [e_st] at h
  split at h
  · rename_i hc; exact hc.1
  · cases h
theorem e_re_sto {p : Nat} {i : Instr} {x : Nat × Nat × Nat} {x0 : Int} {v0 : MV} {ML1 : ML} {w : MWd} (hi : e_in mid p = some i) (hs : e_sto i = some x) (hb : e_v x.2.1 x0 v0) (h3 : x.1 + e_one x.2.1 < q_nl mid) :
    e_re ro d mid p ML1 [v0] w (p + x.2.2) (if x.2.1 = 1 then m_store2 ML1 x.1 v0 else m_store ML1 x.1 v0) [] w := by
  cases i
  case istore j =>
    cases hs
    refine e_re_pr (r := (p + 2, m_store ML1 j v0, [])) hi ?_
    simp only [m_pure, m_st1]
    exact if_pos ⟨e_f0 _ _ hb, h3⟩
  case istore_n j =>
    cases hs
    refine e_re_pr (r := (p + 1, m_store ML1 j v0, [])) hi ?_
    simp only [m_pure, m_st1]
    exact if_pos ⟨e_f0 _ _ hb, h3⟩
  case lstore j =>
    cases hs
    refine e_re_pr (r := (p + 2, m_store2 ML1 j v0, [])) hi ?_
    simp only [m_pure, m_st2]
    exact if_pos ⟨e_f1 _ _ hb, h3⟩
  case lstore_n j =>
    cases hs
    refine e_re_pr (r := (p + 1, m_store2 ML1 j v0, [])) hi ?_
    simp only [m_pure, m_st2]
    exact if_pos ⟨e_f1 _ _ hb, h3⟩
  case astore j =>
    cases hs
    refine e_re_pr (r := (p + 2, m_store ML1 j v0, [])) hi ?_
    simp only [m_pure, m_st1]
    exact if_pos ⟨e_f2 _ _ hb, h3⟩
  case astore_n j =>
    cases hs
    refine e_re_pr (r := (p + 1, m_store ML1 j v0, [])) hi ?_
    simp only [m_pure, m_st1]
    exact if_pos ⟨e_f2 _ _ hb, h3⟩
  all_goals cases hs
/-- a statement does what the machine does -/
theorem e_cs_ok (HK : e_KOK ro K) (hvd : hv ≤ d) (h0 : 0 < d) {G G' : List (Nat × Nat)} {s : e_X} {pc p : Nat} (hc : e_cs mid hv G s pc = some (G', p)) {L L' : List Int} {M M' : EM} (he : e_sv K s L M = some (L', M')) {ML1 : ML} {w : MWd} (hL : e_lr (q_nl mid) G L ML1) (hW : e_wr ro M w) :
    ∃ ML2 w', e_lr (q_nl mid) G' L' ML2 ∧ e_wr ro M' w' ∧ e_re ro d mid pc ML1 [] w p ML2 [] w' := by
  have chk : ∀ {x : e_X} {pc h : Nat} {R : List Nat × Nat}, e_chk mid hv G x none pc h = some R → ∀ {M : EM} {r : List Int × EM}, e_ev K L x M = some r → ∀ {st : List MV} {w : MWd}, m_cats st = h → e_wr ro M w → ∃ vs w', e_vs R.1 r.1 vs ∧ e_wr ro r.2 w' ∧ e_re ro d mid pc ML1 st w R.2 ML1 (vs.reverse ++ st) w' :=
    fun {x pc h R} hx {M r} he {st w} hst hW => e_chk_ok HK hvd h0 (SizeOf.sizeOf x) x (Nat.le_refl _) none pc h R hx M r he st w hst hL hW
  unfold e_cs at hc
  unfold e_sv at he
  split at hc
  · rename_i k e
    dsimp only at he
    split at hc
    · rename_i hk
      split at hc
      · cases hc
      rename_i R hR
      rcases hk with rfl | rfl | rfl
      · rw [if_pos rfl] at he
        obtain ⟨r, hr, he⟩ := Option.bind_eq_some_iff.mp he
        obtain ⟨M2, hM2, he⟩ := Option.bind_eq_some_iff.mp he
        cases he
        obtain ⟨vs, w1, a1, a2, a3⟩ := chk hR hr (st := []) rfl hW
        split at hc
        · rename_i hi
          rw [if_pos rfl] at hc
          split at hc
          · rename_i t u s hts
            split at hc
            · rename_i h1
              cases hc
              rw [hts] at a1
              obtain ⟨x, y, z, v1, v2, v3, e1, rfl, b1, b2, b3⟩ := e_vs_3 a1
              rw [e1] at hM2
              obtain ⟨w2, c1, c2⟩ := e_re_ias (d := d) (ML1 := ML1) (st := []) hi a2 h1.1 h1.2.1 h1.2.2 b1 b2 b3 hM2
              exact ⟨ML1, w2, hL, c1, e_re_tr a3 c2⟩
            · cases hc
          · cases hc
        · rw [if_neg (by decide)] at hc; cases hc
        · rw [if_neg (by decide)] at hc; cases hc
        · cases hc
      · rw [if_neg (by decide), if_pos rfl] at he
        obtain ⟨r, hr, he⟩ := Option.bind_eq_some_iff.mp he
        obtain ⟨M2, hM2, he⟩ := Option.bind_eq_some_iff.mp he
        cases he
        obtain ⟨vs, w1, a1, a2, a3⟩ := chk hR hr (st := []) rfl hW
        split at hc
        · rw [if_neg (by decide)] at hc; cases hc
        · rename_i hi
          rw [if_pos rfl] at hc
          split at hc
          · rename_i t u s hts
            split at hc
            · rename_i h1
              cases hc
              rw [hts] at a1
              obtain ⟨x, y, z, v1, v2, v3, e1, rfl, b1, b2, b3⟩ := e_vs_3 a1
              rw [e1] at hM2
              rw [h1.2.2] at b3
              obtain ⟨w2, c1, c2⟩ := e_re_las (d := d) (ML1 := ML1) (st := []) hi a2 h1.1 h1.2.1 b1 b2 b3 hM2
              exact ⟨ML1, w2, hL, c1, e_re_tr a3 c2⟩
            · cases hc
          · cases hc
        · rw [if_neg (by decide)] at hc; cases hc
        · cases hc
      · rw [if_neg (by decide), if_neg (by decide), if_pos rfl] at he
        obtain ⟨r, hr, he⟩ := Option.bind_eq_some_iff.mp he
        obtain ⟨M2, hM2, he⟩ := Option.bind_eq_some_iff.mp he
        cases he
        obtain ⟨vs, w1, a1, a2, a3⟩ := chk hR hr (st := []) rfl hW
        split at hc
        · rw [if_neg (by decide)] at hc; cases hc
        · rw [if_neg (by decide)] at hc; cases hc
        · rename_i idx hi
          rw [if_pos rfl] at hc
          split at hc
          · rename_i t u s x y z hts hq
            split at hc
            · rename_i h1
              cases hc
              obtain ⟨rfl, h2, rfl, h4, h5, h6⟩ := h1
              rw [hts] at a1
              obtain ⟨x1, x2, x3, x4, x5, v1, v2, v3, v4, v5, e1, rfl, b1, b2, b3, b4, b5⟩ := e_vs_5 a1
              rw [e1] at hM2
              obtain ⟨w2, c1, c2⟩ := e_re_cp (t1 := 0) (t3 := 0) (d := d) (ML1 := ML1) (st := []) hi hq h0 (by decide) a2 b1 b2 b3 b4 b5 h2 h4 h5 hM2
              exact ⟨ML1, w2, hL, c1, e_re_tr a3 c2⟩
            · cases hc
          · cases hc
        · cases hc
    rename_i hk1
    split at hc
    · rename_i hk
      subst hk
      rw [if_neg (by decide), if_neg (by decide), if_neg (by decide), if_pos rfl] at he
      split at hc
      · rename_i o x key
        dsimp only at he
        obtain ⟨r, hr, he⟩ := Option.bind_eq_some_iff.mp he
        obtain ⟨u, hu, he⟩ := Option.bind_eq_some_iff.mp he
        obtain ⟨q, hq, he⟩ := Option.bind_eq_some_iff.mp he
        obtain ⟨z, hz, he⟩ := Option.bind_eq_some_iff.mp he
        obtain ⟨M2, hM2, he⟩ := Option.bind_eq_some_iff.mp he
        cases he
        split at hc
        · rename_i p1 hR
          split at hc
          · rename_i idx hi1 hi2
            split at hc
            · rename_i h1
              split at hc
              · rename_i t p2 hR2
                split at hc
                · rename_i idx2 hi3 hi4
                  split at hc
                  · rename_i h2
                    cases hc
                    obtain ⟨vs, w1, a1, a2, a3⟩ := chk hR hr (st := []) rfl hW
                    obtain ⟨x0, v0, e0, rfl, b0⟩ := e_vs_1 a1
                    rw [e0] at hu hM2
                    have hdup : e_re ro d mid p1 ML1 [v0] w1 (p1 + 1) ML1 [v0, v0] w1 := by
                      refine e_re_pr (r := (p1 + 1, ML1, [v0, v0])) hi1 ?_
                      simp only [m_pure]
                      rw [e_v_L b0]
                      rfl
                    obtain ⟨g, g1, g2⟩ := e_re_get (d := d) (L := ML1) (st := [v0]) hi2 h1.1 a2 b0 hu
                    have hg0 : m_cats [g, v0] = 2 := by
                      rw [e_cats_cons, e_cats_cons, e_v_L b0, e_v_L g1, h1.2]; rfl
                    obtain ⟨vs2, w2, d1, d2, d3⟩ := chk hR2 hq (st := [g, v0]) hg0 a2
                    obtain ⟨x2, v2, e2, rfl, d4⟩ := e_vs_1 d1
                    rw [e2] at hz
                    rw [h1.2] at g1
                    obtain ⟨s1, s2, s3⟩ := e_re_i2 (ro := ro) (d := d) (L := ML1) (st := [v0]) (w := w2) (c := (10, 0, 0)) (t := 0) hi3 rfl rfl h2.1 g1 d4 hz
                    obtain ⟨w3, f1, f2⟩ := e_re_put (d := d) (ML1 := ML1) (st := []) hi4 h2.2.1 h2.2.2 d2 b0 (by rw [h1.2]; exact s2) hM2
                    exact ⟨ML1, w3, hL, f1, e_re_tr a3 (e_re_tr hdup (e_re_tr g2 (e_re_tr d3 (e_re_tr s3 f2))))⟩
                  · cases hc
                · cases hc
              · cases hc
            · cases hc
          · cases hc
        · cases hc
      · cases hc
    rename_i hk2
    split at hc
    · rename_i hk
      subst hk
      rw [if_neg (by decide), if_neg (by decide), if_neg (by decide), if_neg (by decide), if_pos rfl] at he
      split at hc
      · rename_i ai x
        dsimp only at he
        obtain ⟨r, hr, he⟩ := Option.bind_eq_some_iff.mp he
        obtain ⟨u, hu, he⟩ := Option.bind_eq_some_iff.mp he
        obtain ⟨q, hq, he⟩ := Option.bind_eq_some_iff.mp he
        obtain ⟨z, hz, he⟩ := Option.bind_eq_some_iff.mp he
        obtain ⟨M2, hM2, he⟩ := Option.bind_eq_some_iff.mp he
        cases he
        split at hc
        · rename_i ut p1 hR
          split at hc
          · rename_i hi1 hi2
            split at hc
            · rename_i h1
              split at hc
              · rename_i t p2 hR2
                split at hc
                · rename_i hi3 hi4
                  split at hc
                  · rename_i h2
                    cases hc
                    obtain ⟨vs, w1, a1, a2, a3⟩ := chk hR hr (st := []) rfl hW
                    obtain ⟨x0, y0, v0, v1, e0, rfl, b0, b1⟩ := e_vs_2 a1
                    rw [e0] at hu hM2
                    have hb1 : m_isL v1 = false := by obtain ⟨_, rfl, -⟩ := e_v_int h1 b1; rfl
                    have hb0 : m_isL v0 = false := by rw [e_v_L b0]; rfl
                    have hdup : e_re ro d mid p1 ML1 [v1, v0] w1 (p1 + 1) ML1 [v1, v0, v1, v0] w1 := by
                      refine e_re_pr (r := (p1 + 1, ML1, [v1, v0, v1, v0])) hi1 ?_
                      simp only [m_pure, hb1, hb0]
                      rfl
                    obtain ⟨g, g1, g2⟩ := e_re_iald (d := d) (L := ML1) (st := [v1, v0]) hi2 a2 rfl h1 b0 b1 hu
                    have hg0 : m_cats [g, v1, v0] = 3 := by
                      rw [e_cats_cons, e_cats_cons, e_cats_cons, hb0, hb1, e_v_L g1]; rfl
                    obtain ⟨vs2, w2, d1, d2, d3⟩ := chk hR2 hq (st := [g, v1, v0]) hg0 a2
                    obtain ⟨x2, v2, e2, rfl, d4⟩ := e_vs_1 d1
                    rw [e2] at hz
                    obtain ⟨s1, s2, s3⟩ := e_re_i2 (ro := ro) (d := d) (L := ML1) (st := [v1, v0]) (w := w2) (c := (10, 0, 0)) (t := 0) hi3 rfl rfl h2 g1 d4 hz
                    obtain ⟨w3, f1, f2⟩ := e_re_ias (d := d) (ML1 := ML1) (st := []) hi4 d2 rfl h1 (s := 0) rfl b0 b1 s2 hM2
                    exact ⟨ML1, w3, hL, f1, e_re_tr a3 (e_re_tr hdup (e_re_tr g2 (e_re_tr d3 (e_re_tr s3 f2))))⟩
                  · cases hc
                · cases hc
              · cases hc
            · cases hc
          · cases hc
        · cases hc
      · cases hc
    rename_i hk3
    have n64 : ¬ k = 64 := fun q => hk1 (Or.inl q)
    have n65 : ¬ k = 65 := fun q => hk1 (Or.inr (Or.inl q))
    have n66 : ¬ k = 66 := fun q => hk1 (Or.inr (Or.inr q))
    rw [if_neg n64, if_neg n65, if_neg n66, if_neg hk2, if_neg hk3] at he
    split at hc
    · rename_i hk
      rw [if_pos hk] at he
      obtain ⟨r, hr, he⟩ := Option.bind_eq_some_iff.mp he
      cases he
      split at hc
      · rename_i t p1 hR
        split at hc
        · rename_i x hx
          split at hc
          · rename_i h1
            cases hc
            obtain ⟨h1, h2, h3⟩ := h1
            obtain ⟨vs, w1, a1, a2, a3⟩ := chk hR hr (st := []) rfl hW
            obtain ⟨x0, v0, e0, rfl, b0⟩ := e_vs_1 a1
            obtain ⟨i, hi, hs⟩ := Option.bind_eq_some_iff.mp hx
            rw [e0, ← h1]
            show ∃ ML2 w', e_lr (q_nl mid) (e_gs G x.1 t) (L.set x.1 x0) ML2 ∧ _
            have hb2 := e_v_kt b0
            rw [h2] at hb2
            have h31 : x.1 + e_one x.2.1 < q_nl mid := by
              have : x.1 + e_one t < q_nl mid := h3
              have h9 : e_one x.2.1 = e_one t := by
                rw [← h2]
                unfold e_kt e_one
                split
                · rename_i h8; subst h8; rfl
                · rfl
              omega
            have hst := e_re_sto (ro := ro) (d := d) (ML1 := ML1) (w := w1) hi hs hb2 h31
            by_cases ht1 : t = 1
            · subst ht1
              have h8 : x.2.1 = 1 := h2.symm
              rw [if_pos h8] at hst
              have : x.1 + 1 < q_nl mid := h3
              exact ⟨m_store2 ML1 x.1 v0, w1, e_lr_s2 hL b0 (by omega), a2, e_re_tr a3 hst⟩
            · have h8 : ¬ x.2.1 = 1 := by
                rw [← h2]
                unfold e_kt
                split
                · decide
                · exact ht1
              rw [if_neg h8] at hst
              exact ⟨m_store ML1 x.1 v0, w1, e_lr_s1 hL b0 (by omega), a2, e_re_tr a3 hst⟩
          · cases hc
        · cases hc
      · cases hc
    rename_i hk4
    rw [if_neg hk4] at he
    split at hc
    · rename_i hk
      rw [if_pos hk] at he
      split at hc
      · rename_i c i n hi
        dsimp only at he
        cases he
        split at hc
        · rename_i t ht
          split at hc
          · rename_i h1
            cases hc
            obtain ⟨h9, h2, h3, h4⟩ := h1
            rw [← h9]
            obtain ⟨mv, m1, m2⟩ := hL.2 _ _ ht
            obtain ⟨y, rfl, hy⟩ := e_v_int h2 m2
            refine ⟨m_store ML1 i (.inl (y + Int32.ofInt n)), w, e_lr_s1 hL ⟨_, rfl, ?_⟩ h4, hW, ?_⟩
            · rw [Int32.toInt_add, h3, hy]; exact e_wb _
            · refine e_re_pr (r := (_, _, [])) hi ?_
              simp only [m_pure, m1]
              exact if_pos h4
          · cases hc
        · cases hc
      · cases hc
    rename_i hk5
    rw [if_neg hk5] at he
    split at hc
    · rename_i hk
      rw [if_pos hk] at he
      obtain ⟨r, hr, he⟩ := Option.bind_eq_some_iff.mp he
      cases he
      unfold e_ev at hr
      rw [if_neg (by omega)] at hr
      obtain ⟨ra, hra, hr⟩ := Option.bind_eq_some_iff.mp hr
      rw [if_pos hk] at hr
      obtain ⟨q, hq, hr⟩ := Option.bind_eq_some_iff.mp hr
      cases hr
      split at hc
      · cases hc
      rename_i R hR
      obtain ⟨vs, w1, a1, a2, a3⟩ := chk hR hra (st := []) rfl hW
      split at hc
      · rename_i h6
        obtain ⟨o, w', g1, g2, g3⟩ := e_re_call (ML1 := ML1) (st := []) HK hvd h6.1 a1 rfl a2 hq
        rw [h6.2] at g2
        rcases g2 with ⟨ov, rfl, g4⟩ | ⟨g4, -⟩
        · split at hc
          · rename_i hrt
            cases hc
            rw [hrt] at g4
            dsimp only at g4
            subst g4
            exact ⟨ML1, w', hL, g1, e_re_tr a3 (fun kk oo hkk => g3 kk oo hkk)⟩
          · rename_i t hrt
            rw [hrt] at g4
            obtain ⟨mv, rfl, g5⟩ := g4
            have hcall : e_re ro d mid R.2 ML1 (vs.reverse ++ []) w1 (R.2 + 3) ML1 [mv] w' := fun kk oo hkk => g3 kk oo hkk
            split at hc
            · rename_i hpop
              split at hc
              · cases hc
              · rename_i ht1
                cases hc
                refine ⟨ML1, w', hL, g1, e_re_tr a3 (e_re_tr hcall ?_)⟩
                refine e_re_pr (r := (_, ML1, [])) hpop ?_
                simp only [m_pure]
                rw [e_v_L g5, decide_eq_false ht1]
                rfl
            · cases hc
        · cases g4
      · cases hc
    · cases hc
  · rename_i e key
    dsimp only at he
    obtain ⟨r, hr, he⟩ := Option.bind_eq_some_iff.mp he
    obtain ⟨M2, hM2, he⟩ := Option.bind_eq_some_iff.mp he
    cases he
    split at hc
    · rename_i t p1 hR
      split at hc
      · rename_i idx hi
        split at hc
        · rename_i h1
          cases hc
          obtain ⟨h1, h2, h3, h4⟩ := h1
          obtain ⟨vs, w1, a1, a2, a3⟩ := chk hR hr (st := []) rfl hW
          obtain ⟨x0, y0, v0, v1, e0, rfl, b0, b1⟩ := e_vs_2 a1
          rw [e0] at hM2
          have b2 : e_v (e_fty key.toNat) y0 v1 := (e_fit_vs (xs := [y0]) (vs := [v1]) h3 ⟨b1, trivial⟩).1
          obtain ⟨w2, c1, c2⟩ := e_re_put (d := d) (ML1 := ML1) (st := []) hi h1 h2 a2 b0 b2 hM2
          exact ⟨ML1, w2, hL, c1, e_re_tr a3 c2⟩
        · cases hc
      · cases hc
    · cases hc
  · cases hc
end EALL
end
section
theorem e_rt_0 {mid : Nat} (h : e_rt mid = some 0) : q_rt mid = some .int := by
  unfold e_rt at h
  split at h <;> first
    | assumption
    | (exfalso; simp at h; done)
theorem e_rt_3 {mid : Nat} (h : e_rt mid = some 3) : q_rt mid = some .boolean := by
  unfold e_rt at h
  split at h <;> first
    | assumption
    | (exfalso; simp at h; done)
theorem e_rt_1 {mid : Nat} (h : e_rt mid = some 1) : q_rt mid = some .long := by
  unfold e_rt at h
  split at h <;> first
    | assumption
    | (exfalso; simp at h; done)
section ECT
variable {ro : MRo} {d mid hv v : Nat} {K J : Nat → List Int → EM → EO}
/-- from a frame's place on, with these locals, the machine ends as told -/
def e_ends (ro : MRo) (d mid v pc : Nat) (ML1 : ML) (w : MWd) (r : Int × EM) : Prop := ∃ k o w', m_run ro k d mid pc ML1 [] w = some (o, w') ∧ e_wr ro r.2 w' ∧ e_ok o (e_thr v) (e_rt mid) r.1
theorem e_ends_re {pc pc' : Nat} {ML1 ML2 : ML} {w w' : MWd} {r : Int × EM} (h : e_re ro d mid pc ML1 [] w pc' ML2 [] w') (he : e_ends ro d mid v pc' ML2 w' r) : e_ends ro d mid v pc ML1 w r := by
  obtain ⟨k, o, w2, h1, h2, h3⟩ := he
  obtain ⟨k', hk⟩ := h k _ h1
  exact ⟨k', o, w2, hk, h2, h3⟩
def e_JOK (ro : MRo) (d mid v : Nat) (J : Nat → List Int → EM → EO) : Prop := ∀ l L M r, J l L M = some r → ∀ q, e_lb v l = some q → ∀ ML1 w, e_lr (q_nl mid) q.1 L ML1 → e_wr ro M w → e_ends ro d mid v l ML1 w r
theorem e_lok_ok (HJ : e_JOK ro d mid v J) {G : List (Nat × Nat)} {pc : Nat} {l : Int} (h : e_lok v mid pc l G = true) {L : List Int} {M : EM} {r : Int × EM} (he : J l.toNat L M = some r) {ML1 : ML} {w : MWd} (hL : e_lr (q_nl mid) G L ML1) (hW : e_wr ro M w) : e_ends ro d mid v pc ML1 w r := by
  unfold e_lok at h
  simp only [Bool.and_eq_true, Bool.or_eq_true, decide_eq_true_eq] at h
  obtain ⟨h1, h2⟩ := h
  split at h2
  · rename_i q hq
    have h3 := HJ _ _ _ _ he q hq ML1 w (e_lr_sub hL h2) hW
    rcases h1 with h1 | ⟨h1, h4⟩
    · subst h1; exact h3
    · refine e_ends_re (e_re_gt h4) ?_
      subst h1; exact h3
  · cases h2
theorem e_lok2_ok (HJ : e_JOK ro d mid v J) {G : List (Nat × Nat)} {l : Int} (h : e_lok2 v l G = true) {L : List Int} {M : EM} {r : Int × EM} (he : J l.toNat L M = some r) {ML1 : ML} {w : MWd} (hL : e_lr (q_nl mid) G L ML1) (hW : e_wr ro M w) : e_ends ro d mid v l.toNat ML1 w r := by
  unfold e_lok2 at h
  simp only [Bool.and_eq_true, decide_eq_true_eq] at h
  obtain ⟨h1, h2⟩ := h
  split at h2
  · rename_i q hq
    exact HJ _ _ _ _ he q hq ML1 w (e_lr_sub hL h2) hW
  · cases h2
theorem e_csw_ok {G : List (Nat × Nat)} {pc : Nat} {df : Int} : ∀ {cs : e_X} {os : List Int}, e_csw v G pc df cs os = true → e_len cs = os.length ∧ (∀ n (hn : n < os.length), (e_nth cs n : Int) = (pc : Int) + os[n] ∧ e_lok2 v (e_nth cs n : Int) G = true) ∧ (e_nth cs os.length : Int) = (pc : Int) + df ∧ e_lok2 v (e_nth cs os.length : Int) G = true
  | .num c, [], h => by
    unfold e_csw at h
    simp only [Bool.and_eq_true, decide_eq_true_eq] at h
    have h0 : 0 ≤ c := by
      have := h.2
      unfold e_lok2 at this
      simp only [Bool.and_eq_true, decide_eq_true_eq] at this
      exact this.1
    refine ⟨rfl, fun n hn => absurd hn (by simp), ?_, ?_⟩
    · show ((c.toNat : Nat) : Int) = _; omega
    · show e_lok2 v ((c.toNat : Nat) : Int) G = true
      rw [Int.toNat_of_nonneg h0]; exact h.2
  | .add (.num c) t, o :: os, h => by
    unfold e_csw at h
    simp only [Bool.and_eq_true, decide_eq_true_eq] at h
    obtain ⟨⟨h1, h2⟩, h3⟩ := h
    obtain ⟨g1, g2, g3, g4⟩ := e_csw_ok h3
    have h0 : 0 ≤ c := by
      have := h2
      unfold e_lok2 at this
      simp only [Bool.and_eq_true, decide_eq_true_eq] at this
      exact this.1
    refine ⟨by simp [e_len, g1], fun n hn => ?_, ?_, ?_⟩
    · cases n with
      | zero =>
        have e : e_nth (.add (.num c) t) 0 = c.toNat := rfl
        rw [e, Int.toNat_of_nonneg h0]
        exact ⟨h1.symm, h2⟩
      | succ n =>
        have e : e_nth (.add (.num c) t) (n + 1) = e_nth t n := rfl
        rw [e]
        exact g2 n (by simpa using hn)
    · exact g3
    · exact g4
  | .num _, _ :: _, h => by simp [e_csw] at h
  | .add (.num _) _, [], h => by simp [e_csw] at h
  | .add (.var _) _, _, h => by simp [e_csw] at h
  | .add (.add _ _) _, _, h => by simp [e_csw] at h
  | .add (.sub _ _) _, _, h => by simp [e_csw] at h
  | .add (.neg _) _, _, h => by simp [e_csw] at h
  | .add (.mulL _ _) _, _, h => by simp [e_csw] at h
  | .add (.mulR _ _) _, _, h => by simp [e_csw] at h
  | .var _, _, h => by simp [e_csw] at h
  | .sub _ _, _, h => by simp [e_csw] at h
  | .neg _, _, h => by simp [e_csw] at h
  | .mulL _ _, _, h => by simp [e_csw] at h
  | .mulR _ _, _, h => by simp [e_csw] at h
theorem e_ret {pc : Nat} {i : Instr} {ML1 : ML} {st : List MV} {w : MWd} {ov : Option MV} (hi : e_in mid pc = some i) (hv : m_ret mid i st = some ov) (hk : i = .return_ ∨ i = .ireturn ∨ i = .lreturn ∨ i = .areturn) : m_run ro 1 d mid pc ML1 st w = some (.inl ov, w) := by
  obtain ⟨h1, h2⟩ := e_in_ok hi
  exact m_run_ret h1 h2 hv hk
theorem e_num_none {t : e_X} (h : (match t with
    | .num _ => true
    | _ => false) = true) {L : List Int} {M : EM} : e_tv K J t L M = none := by
  split at h
  · rfl
  · cases h
theorem e_wr_thr {M : EM} {w : MWd} (hW : e_wr ro M w) : e_wr ro (e_up M 5 0 (M 5 0 + 1)) (m_thr w) := by
  obtain ⟨w1, w2, w3, w4, w5, w6, w7⟩ := hW
  have hne : ∀ b j, b ≠ 5 → e_up M 5 0 (M 5 0 + 1) b j = M b j := fun b j hb => by unfold e_up; rw [if_neg hb]
  have h50 : e_up M 5 0 (M 5 0 + 1) 5 0 = M 5 0 + 1 := by unfold e_up; simp
  have h51 : e_up M 5 0 (M 5 0 + 1) 5 1 = M 5 1 := by unfold e_up; simp
  refine ⟨w1, w2, fun a k h8 hn hk => ?_, ?_, ?_, ?_, fun a ha hk => ?_⟩
  · rw [hne a k (by omega)]; exact w3 a k h8 hn hk
  · rw [h50]; omega
  · rw [h50]
    show ((w.2.1 + 1 : Nat) : Int) = _
    have : ((w.2.1 : Nat) : Int) = e_C0 + M 5 0 := w5
    omega
  · rw [h50]
    show ((w.2.2.1 + 6 : Nat) : Int) = _
    have : ((w.2.2.1 : Nat) : Int) = e_S0 + 6 * M 5 0 := w6
    omega
  · obtain ⟨n, f, k1, k2, k3, k4⟩ := w7 a ha hk
    have h5 : a ≠ 5 := by
      intro h; subst h; exact absurd hk (by decide +kernel)
    refine ⟨n, f, k1, ?_, k3, fun j hj => by rw [hne a j h5]; exact k4 j hj⟩
    unfold e_sz at k2 ⊢
    rw [h51]; exact k2
theorem e_range_tab {c : Int} {y : Int64} (h : y.toInt = c) : c < e_TH := by
  have := e_rngL y
  unfold e_TH; omega
/-- a tree does what the machine does -/
theorem e_ct_ok (HK : e_KOK ro K) (HJ : e_JOK ro d mid v J) (hvd : hv ≤ d) (h0 : 0 < d) : ∀ (n : Nat) (t : e_X), SizeOf.sizeOf t ≤ n → ∀ (G : List (Nat × Nat)) (pc : Nat), e_ct v mid hv t G pc = true → ∀ (L : List Int) (M : EM) (r : Int × EM), e_tv K J t L M = some r → ∀ (ML1 : ML) (w : MWd), e_lr (q_nl mid) G L ML1 → e_wr ro M w → e_ends ro d mid v pc ML1 w r := by
  intro n
  induction n with
  | zero => intro t ht; cases t <;> simp at ht
  | succ n ih =>
    intro t ht G pc hc L M r he ML1 w hL hW
    have chk : ∀ {x : e_X} {z : Option (Nat × Nat)} {pc h : Nat} {R : List Nat × Nat}, e_chk mid hv G x z pc h = some R → ∀ {M : EM} {r : List Int × EM}, e_ev K L x M = some r → ∀ {st : List MV} {w : MWd}, m_cats st = h → e_wr ro M w → e_post ro d mid ML1 z R r pc st w :=
      fun {x z pc h R} hx {M r} he {st w} hst hW => e_chk_ok HK hvd h0 (SizeOf.sizeOf x) x (Nat.le_refl _) z pc h R hx M r he st w hst hL hW
    cases t with
    | num c => simp [e_ct] at hc
    | var c => simp [e_ct] at hc
    | mulL k e =>
      unfold e_ct at hc
      simp at ht
      unfold e_tv at he
      try dsimp only at he
      split at hc
      · rename_i h1
        rw [if_pos h1] at he
        exact ih e (by omega) G pc hc L M r he ML1 w hL hW
      rename_i hk0
      rw [if_neg hk0] at he
      split at hc
      · rename_i h1
        rw [if_pos h1] at he
        obtain ⟨ra, hra, he⟩ := Option.bind_eq_some_iff.mp he
        cases he
        split at hc
        · rename_i t1 p hR
          obtain ⟨vs, w1, a1, a2, a3⟩ := chk hR hra (st := []) rfl hW
          obtain ⟨x0, v0, e0, rfl, b0⟩ := e_vs_1 a1
          rw [e0]
          have fin : ∀ (i : Instr) (hi : e_in mid p = some i) (hr : m_ret mid i [v0] = some (some v0)) (hk : i = .return_ ∨ i = .ireturn ∨ i = .lreturn ∨ i = .areturn) (t2 : Nat) (hrt : e_rt mid = some t2) (hv2 : e_v t2 x0 v0), e_ends ro d mid v pc ML1 w (x0, ra.2) := by
            intro i hi hr hk t2 hrt hv2
            obtain ⟨k', hk'⟩ := a3 1 _ (e_ret (ro := ro) (d := d) (ML1 := ML1) (w := w1) hi hr hk)
            refine ⟨k', _, w1, hk', a2, Or.inl ⟨some v0, rfl, ?_⟩⟩
            rw [hrt]
            exact ⟨v0, rfl, hv2⟩
          split at hc
          · rename_i hi hrt
            obtain ⟨y, rfl, hy⟩ := e_v_int (of_decide_eq_true hc) b0
            refine fin _ hi ?_ (Or.inr (Or.inl rfl)) 0 hrt ⟨y, rfl, hy⟩
            have hq := e_rt_0 hrt
            simp only [m_ret, hq]
          · rename_i hi hrt
            have := of_decide_eq_true hc
            subst this
            obtain ⟨b1, y, rfl, hy⟩ := b0
            refine fin _ hi ?_ (Or.inr (Or.inl rfl)) 3 hrt ⟨b1, y, rfl, hy⟩
            have hq := e_rt_3 hrt
            simp only [m_ret, hq]
            rw [if_pos]
            rcases b1 with b1 | b1
            · exact Or.inl (e_zero.mpr (hy.trans b1))
            · exact Or.inr (by rw [← Int32.toInt_inj, hy, b1]; rfl)
          · rename_i hi hrt
            have := of_decide_eq_true hc
            subst this
            obtain ⟨y, rfl, hy⟩ := b0
            refine fin _ hi ?_ (Or.inr (Or.inr (Or.inl rfl))) 1 hrt ⟨y, rfl, hy⟩
            have hq := e_rt_1 hrt
            simp only [m_ret, hq]
          · rename_i hi hrt
            rw [Bool.and_eq_true] at hc
            have := of_decide_eq_true hc.1
            subst this
            refine fin _ hi ?_ (Or.inr (Or.inr (Or.inr rfl))) 2 hrt b0
            have hc2 := hc.2
            rcases b0 with ⟨-, rfl⟩ | ⟨a, -, rfl⟩
            · split at hc2
              · rename_i hq; simp only [m_ret, hq]
              · rename_i hq; simp only [m_ret, hq]
              · cases hc2
            · split at hc2
              · rename_i hq; simp only [m_ret, hq]
              · rename_i hq; simp only [m_ret, hq]
              · cases hc2
          · cases hc
        · cases hc
      rename_i hk1
      rw [if_neg hk1] at he
      split at hc
      · rename_i h1
        rw [if_pos h1] at he
        cases he
        split at hc
        · rename_i hi hrt
          refine ⟨1, _, w, e_ret hi (by simp only [m_ret, hrt]) (Or.inl rfl), hW, Or.inl ⟨none, rfl, ?_⟩⟩
          unfold e_rt
          rw [hrt]
        · cases hc
      rename_i hk2
      rw [if_neg hk2] at he
      split at hc
      · rename_i h1
        rw [if_pos h1] at he
        split at hc
        · rename_i c
          cases he
          simp only [Bool.and_eq_true, decide_eq_true_eq] at hc
          obtain ⟨⟨⟨c1, c2⟩, c3⟩, c4⟩ := hc
          refine ⟨1, .inr (e_ex c), m_thr w, ?_, e_wr_thr hW, Or.inr ⟨c3, ?_⟩⟩
          · rw [m_run, c2]
            dsimp only
            rw [if_pos ⟨by omega, rfl⟩]
          · rcases c1 with rfl | rfl
            · exact Or.inl ⟨by show e_TH + 0 = e_TH; omega, rfl⟩
            · exact Or.inr ⟨rfl, rfl⟩
        · cases hc
      rename_i hk3
      rw [if_neg hk3] at he
      split at hc
      · rename_i h1
        rw [if_pos h1] at he
        split at hc
        · rename_i l
          exact e_lok_ok HJ hc he hL hW
        · cases hc
      · cases hc
    | sub c e1 =>
     cases e1 with
     | add a' b' =>
       cases a' with
       | mulL pa a =>
         cases b' with
         | mulL pb b =>
           unfold e_ct at hc
           simp at ht
           unfold e_tv at he
           try dsimp only at he
           simp only [Bool.and_eq_true, decide_eq_true_eq] at hc
           obtain ⟨⟨⟨⟨hpa, hpb⟩, hcc⟩, hca⟩, hcb⟩ := hc
           obtain ⟨rc, hrc, he⟩ := Option.bind_eq_some_iff.mp he
           cases hR : e_chk mid hv G c (some (e_pc pa, e_pc pb)) pc 0 with
           | none => rw [hR] at hcc; cases hcc
           | some R =>
             obtain ⟨bb, w1, a1, a2, a3⟩ := chk hR hrc (st := []) rfl hW
             rw [a1] at he
             dsimp only at a3
             by_cases hb0 : bb = 0
             · subst hb0
               rw [if_pos rfl] at he a3
               unfold e_tv at he
               rw [if_pos hpb] at he
               exact e_ends_re a3 (ih b (by omega) G _ hcb L _ r he ML1 w1 hL a2)
             · rw [if_neg (fun q => hb0 (by cases q; rfl))] at he
               rw [if_neg hb0] at a3
               unfold e_tv at he
               rw [if_pos hpa] at he
               exact e_ends_re a3 (ih a (by omega) G _ hca L _ r he ML1 w1 hL a2)
         | _ => simp [e_ct] at hc
       | _ => simp [e_ct] at hc
     | _ => simp [e_ct] at hc
    | add s t =>
      unfold e_ct at hc
      simp at ht
      unfold e_tv at he
      try dsimp only at he
      obtain ⟨q, hq, he⟩ := Option.bind_eq_some_iff.mp he
      split at hc
      · rename_i R hR
        obtain ⟨ML2, w1, a1, a2, a3⟩ := e_cs_ok HK hvd h0 hR hq hL hW
        exact e_ends_re a3 (ih t (by omega) R.1 R.2 hc q.1 q.2 r he ML2 w1 a1 a2)
      · cases hc
    | mulR e1 ek =>
     cases e1 with
     | add x y =>
       cases y with
       | add zz cs =>
         cases zz with
         | num lo =>
           unfold e_ct at hc
           unfold e_tv at he
           try dsimp only at he
           obtain ⟨ra, hra, he⟩ := Option.bind_eq_some_iff.mp he
           split at hc
           · rename_i t1 p hR
             split at hc
             · rename_i df lo2 hi2 os hi
               simp only [Bool.and_eq_true, decide_eq_true_eq] at hc
               obtain ⟨⟨⟨c1, rfl⟩, c3⟩, c4⟩ := hc
               obtain ⟨vs, w1, a1, a2, a3⟩ := chk hR hra (st := []) rfl hW
               obtain ⟨x0, v0, e0, rfl, b0⟩ := e_vs_1 a1
               obtain ⟨y, rfl, rfl⟩ := e_v_int c1 b0
               rw [e0] at he
               obtain ⟨g1, g2, g3, g4⟩ := e_csw_ok c4
               have hlen : os.toList.length = os.size := by simp
               rw [g1, hlen] at he
               rw [hlen] at g3 g4
               rw [show ([y.toInt] : List Int).getD 0 0 = y.toInt from rfl] at he
               by_cases hout : y.toInt < lo ∨ lo + (os.size : Int) ≤ y.toInt
               · rw [if_pos hout] at he
                 have hj := e_lok2_ok (l := (e_nth cs os.size : Int)) HJ g4 he hL a2
                 refine e_ends_re (e_re_tr a3 (e_re_pr (r := (e_nth cs os.size, ML1, [])) hi ?_)) hj
                 simp only [m_pure, List.reverse_singleton, List.singleton_append]
                 rw [if_pos (by omega)]
                 unfold m_to
                 rw [← g3, if_pos (by omega)]
                 simp
               · rw [if_neg hout] at he
                 have hn : (y.toInt - lo).toNat < os.size := by omega
                 obtain ⟨k1, k2⟩ := g2 _ (by rw [hlen]; exact hn)
                 have hj := e_lok2_ok (l := (e_nth cs (y.toInt - lo).toNat : Int)) HJ k2 he hL a2
                 refine e_ends_re (e_re_tr a3 (e_re_pr (r := (e_nth cs (y.toInt - lo).toNat, ML1, [])) hi ?_)) hj
                 simp only [m_pure, List.reverse_singleton, List.singleton_append]
                 rw [if_neg (by omega), Array.getElem?_eq_getElem hn]
                 dsimp only
                 unfold m_to
                 rw [show os[(y.toInt - lo).toNat] = os.toList[(y.toInt - lo).toNat]'(by rw [hlen]; exact hn) by simp, ← k1, if_pos (by omega)]
                 simp
             · cases hc
           · cases hc
         | _ => simp [e_ct] at hc
       | _ => simp [e_ct] at hc
     | _ => simp [e_ct] at hc
    | neg e1 =>
     cases e1 with
     | add p' q' =>
       cases p' with
       | mulR p'' u =>
         cases p'' with
         | add ai as =>
           cases q' with
           | add t q'' =>
             cases q'' with
             | add h1 h2 =>
               unfold e_ct at hc
               simp at ht
               unfold e_tv at he
               try dsimp only at he
               obtain ⟨ra, hra, he⟩ := Option.bind_eq_some_iff.mp he
               obtain ⟨q, hq, he⟩ := Option.bind_eq_some_iff.mp he
               obtain ⟨z, hz, he⟩ := Option.bind_eq_some_iff.mp he
               split at hc
               · rename_i it p1 hR1
                 split at hc
                 · rename_i ts p2 hR2
                   simp only [Bool.and_eq_true, decide_eq_true_eq] at hc
                   obtain ⟨⟨⟨⟨⟨⟨c1, c2⟩, c3⟩, c4⟩, c5⟩, c6⟩, c7⟩ := hc
                   obtain ⟨vs, w1, a1, a2, a3⟩ := chk hR1 hra (st := []) rfl hW
                   obtain ⟨x0, y0, v0, v1, e0, rfl, b0, b1⟩ := e_vs_2 a1
                   have hb1 : m_isL v1 = false := by obtain ⟨_, rfl, -⟩ := e_v_int c1 b1; rfl
                   have hb0 : m_isL v0 = false := by rw [e_v_L b0]; rfl
                   have hcat : m_cats [v1, v0] = 2 := by rw [e_cats_cons, e_cats_cons, hb0, hb1]; rfl
                   obtain ⟨vs2, w2, d1, d2, d3⟩ := chk hR2 hq (st := [v1, v0]) hcat a2
                   obtain ⟨o, w', g1, g2, g3⟩ := e_re_call (ML1 := ML1) HK hvd c2 d1 hcat d2 hz
                   rw [c3] at g2
                   have pre : ∀ kk oo, m_aft ro kk d mid p2 ML1 [v1, v0] w' o = some oo → ∃ k', m_run ro k' d mid pc ML1 [] w = some oo := by
                     intro kk oo hkk
                     obtain ⟨k1, hk1⟩ := g3 kk oo hkk
                     obtain ⟨k2, hk2⟩ := d3 k1 oo hk1
                     exact a3 k2 oo hk2
                   have thrown : ∀ (c : Int) (hh : e_X), o = .inr (e_ex c) → (match q_h mid p2 (e_ex c) with
                       | some hq => e_ct v mid hv hh (e_gd G hq.2) hq.1
                       | none => (match hh with
                         | .num _ => true
                         | _ => false)) = true → SizeOf.sizeOf hh ≤ n → e_tv K J hh L z.2 = some r → e_ends ro d mid v pc ML1 w r := by
                     intro c hh ho hck hsz heh
                     split at hck
                     · rename_i hq hqq
                       obtain ⟨k, o2, w3, f1, f2, f3⟩ := ih hh hsz (e_gd G hq.2) hq.1 hck L z.2 r heh (m_drop ML1 hq.2) w' (e_lr_gd hL) g1
                       subst ho
                       obtain ⟨k', hk'⟩ := pre k (o2, w3) (by simp only [m_aft, hqq]; exact f1)
                       exact ⟨k', o2, w3, hk', f2, f3⟩
                     · rw [e_num_none hck] at heh; cases heh
                   rcases g2 with ⟨ov, rfl, mv, rfl, hmv⟩ | ⟨-, ⟨hz1, ho⟩ | ⟨hz1, ho⟩⟩
                   · obtain ⟨y, rfl, hy⟩ := hmv
                     have hr1 := e_range_tab hy
                     rw [if_neg (by omega), if_neg (by omega)] at he
                     obtain ⟨M2, hM2, he⟩ := Option.bind_eq_some_iff.mp he
                     rw [e0] at hM2
                     obtain ⟨w3, f1, f2⟩ := e_re_las (d := d) (ML1 := ML1) (st := []) c4 g1 rfl c1 b0 b1 ⟨y, rfl, hy⟩ hM2
                     obtain ⟨k, o2, w4, f3, f4, f5⟩ := ih t (by omega) G _ c5 L M2 r he ML1 w3 hL f1
                     obtain ⟨k1, hk1⟩ := f2 k _ f3
                     obtain ⟨k', hk'⟩ := pre k1 (o2, w4) hk1
                     exact ⟨k', o2, w4, hk', f4, f5⟩
                   · rw [if_pos hz1] at he
                     exact thrown 0 h1 ho c6 (by omega) he
                   · rw [if_neg (by omega), if_pos hz1] at he
                     exact thrown 1 h2 ho c7 (by omega) he
                 · cases hc
               · cases hc
             | _ => simp [e_ct] at hc
           | _ => simp [e_ct] at hc
         | _ => simp [e_ct] at hc
       | _ => simp [e_ct] at hc
     | _ => simp [e_ct] at hc
end ECT
end
section
theorem e_get_tl {j i : Nat} {v : MV} {t : ML} (h : ¬ j = i) : m_get ((j, v) :: t) i = m_get t i := by
  conv => lhs; unfold m_get
  rw [if_neg h]
theorem e_ent_pd : ∀ (P : List Nat) (j : Nat) (xs : List Int) (vs : List MV), e_vs P xs vs → ∀ i t, q_find (e_ent j P) i = some t → j ≤ i ∧ ∃ u, m_get (m_ent j vs) i = some u ∧ e_v t ((e_pd P xs).getD (i - j) 0) u ∧ i - j < (e_pd P xs).length
  | [], j, xs, vs, h, i, t, hi => by simp [e_ent, q_find] at hi
  | p :: P, j, x :: xs, v :: vs, h, i, t, hi => by
    have hL := e_v_L h.1
    by_cases hji : j = i
    · subst hji
      have h2 : q_find (e_ent j (p :: P)) j = some p := by
        show q_find ((j, p) :: _) j = _
        exact e_find_hd
      rw [h2] at hi
      cases hi
      refine ⟨Nat.le_refl _, v, ?_, ?_, ?_⟩
      · show m_get ((j, v) :: _) j = _
        unfold m_get; rw [if_pos rfl]
      · rw [Nat.sub_self]
        unfold e_pd
        split <;> exact h.1
      · rw [Nat.sub_self]
        unfold e_pd
        split <;> simp
    · have h2 : q_find (e_ent j (p :: P)) i = q_find (e_ent (if p = 1 then j + 2 else j + 1) P) i := by
        show q_find ((j, p) :: _) i = _
        exact e_find_tl (Ne.symm hji)
      rw [h2] at hi
      obtain ⟨h3, u, h4, h5, h6⟩ := e_ent_pd P _ xs vs h.2 i t hi
      have hget : m_get (m_ent j (v :: vs)) i = m_get (m_ent (if p = 1 then j + 2 else j + 1) vs) i := by
        show m_get ((j, v) :: m_ent (if m_isL v = true then j + 2 else j + 1) vs) i = _
        rw [hL, e_get_tl hji]
        by_cases hp : p = 1
        · simp [hp]
        · simp [hp]
      rw [hget]
      by_cases hp : p = 1
      · rw [if_pos hp] at h3 h4 h5 h6 ⊢
        refine ⟨by omega, u, h4, ?_, ?_⟩
        · unfold e_pd
          rw [if_pos hp]
          obtain ⟨m, hm⟩ : ∃ m, i - j = m + 2 := ⟨i - j - 2, by omega⟩
          rw [hm]
          rw [show i - (j + 2) = m by omega] at h5
          exact h5
        · unfold e_pd
          rw [if_pos hp]
          simp
          omega
      · rw [if_neg hp] at h3 h4 h5 h6 ⊢
        refine ⟨by omega, u, h4, ?_, ?_⟩
        · unfold e_pd
          rw [if_neg hp]
          obtain ⟨m, hm⟩ : ∃ m, i - j = m + 1 := ⟨i - j - 1, by omega⟩
          rw [hm]
          rw [show i - (j + 1) = m by omega] at h5
          exact h5
        · unfold e_pd
          rw [if_neg hp]
          simp
          omega
theorem e_pd_len : ∀ {P : List Nat} {xs : List Int} {vs : List MV}, e_vs P xs vs → (e_pd P xs).length = e_cat P
  | [], [], [], _ => rfl
  | p :: P, x :: xs, v :: vs, h => by
    have := e_pd_len h.2
    unfold e_pd e_cat
    by_cases hp : p = 1
    · rw [if_pos hp]; simp [hp, this, e_cat]; omega
    · rw [if_neg hp]; simp [hp, this, e_cat]; omega
/-- a frame's locals at its start -/
theorem e_lr_ent {u nl : Nat} {xs : List Int} {vs : List MV} (h : e_vs (e_pt u) xs vs) (hc : e_cat (e_pt u) ≤ nl) (hn : e_nl u = nl) : e_lr nl (e_ent 0 (e_pt u)) (e_pad u xs) (m_ent 0 vs) := by
  have hlen := e_pd_len h
  refine ⟨?_, fun i t hi => ?_⟩
  · unfold e_pad
    rw [List.length_append, List.length_replicate, hlen, hn]; omega
  · obtain ⟨-, v, h1, h2, h3⟩ := e_ent_pd _ _ _ _ h i t hi
    refine ⟨v, h1, ?_⟩
    unfold e_pad
    rw [List.getD_eq_getElem?_getD, List.getElem?_append_left (by simpa using h3), ← List.getD_eq_getElem?_getD]
    simpa using h2
theorem e_lb_mem {v l : Nat} {q : List (Nat × Nat) × e_X} (h : e_lb v l = some q) : (l, q) ∈ (e_prog.getD (v / 16) []).getD (v % 16) [] := q_find_mem h
/-- THE TREES RUN AS THE MACHINE DOES -/
theorem e_run_ok (ro : MRo) (hA : ∀ v, e_mok v = true) (hB : ∀ v, e_eok v = true) (hH : ∀ v, 0 < e_ht v) : ∀ (n v pc : Nat) (L : List Int) (M : EM) (r : Int × EM), e_run n v pc L M = some r → ∀ q, e_lb v pc = some q → ∀ d, e_ht v ≤ d → ∀ ML1 w, e_lr (q_nl (e_vm v)) q.1 L ML1 → e_wr ro M w → e_ends ro d (e_vm v) v pc ML1 w r := by
  intro n
  induction n with
  | zero => intro v pc L M r h; cases h
  | succ n ih =>
    intro v pc L M r h q hq d hd ML1 w hL hW
    rw [e_run] at h
    have htr : e_tr v pc = q.2 := by unfold e_tr; rw [hq]
    rw [htr] at h
    have hm := List.all_eq_true.mp (hA v) _ (e_lb_mem hq)
    dsimp only at hm
    rw [Bool.and_eq_true] at hm
    have h0 := hH v
    refine e_ct_ok (hv := e_ht v) (fun u as M' r' h' => ?_) (fun l L' M' r' h' q' hq' ML2 w2 hL2 hW2 => ih v l L' M' r' h' q' hq' d hd ML2 w2 hL2 hW2) hd (by omega) (SizeOf.sizeOf q.2) q.2 (Nat.le_refl _) q.1 pc hm.2 L M r h ML1 w hL hW
    split at h'
    · rename_i hr
      refine ⟨hr, fun d' vs w2 hd' hvs hcat hnl hW2 => ?_⟩
      cases hq2 : e_lb u 0 with
      | none =>
        exfalso
        cases n with
        | zero => cases h'
        | succ n =>
          rw [e_run] at h'
          have htr2 : e_tr u 0 = .num 0 := by unfold e_tr; rw [hq2]
          rw [htr2] at h'
          cases h'
      | some q2 =>
        have he := hB u
        unfold e_eok at he
        rw [hq2] at he
        exact ih u 0 _ _ _ h' q2 hq2 d' hd' _ w2 (e_lr_sub (e_lr_ent hvs hcat hnl) he) hW2
    · cases h'
theorem e_V_ok (ro : MRo) (hA : ∀ v, e_mok v = true) (hB : ∀ v, e_eok v = true) (hH : ∀ v, 0 < e_ht v) {v pc : Nat} {L : List Int} {M : EM} {r : Int × EM} (h : E_V v pc L M = some r) {q : List (Nat × Nat) × e_X} (hq : e_lb v pc = some q) {d : Nat} (hd : e_ht v ≤ d) {ML1 : ML} {w : MWd} (hL : e_lr (q_nl (e_vm v)) q.1 L ML1) (hW : e_wr ro M w) : e_ends ro d (e_vm v) v pc ML1 w r := by
  obtain ⟨n, hn⟩ := E_V_ex h
  exact e_run_ok ro hA hB hH n v pc L M r (hn n (Nat.le_refl _)) q hq d hd ML1 w hL hW
end
section
theorem e_mokc0 : ((List.range 16).all fun k => e_mok (0 + k)) = true := by decide +kernel
theorem e_mokc1 : ((List.range 16).all fun k => e_mok (16 + k)) = true := by decide +kernel
theorem e_mokc2 : ((List.range 16).all fun k => e_mok (32 + k)) = true := by decide +kernel
theorem e_mokc3 : ((List.range 16).all fun k => e_mok (48 + k)) = true := by decide +kernel
theorem e_mokc4 : ((List.range 16).all fun k => e_mok (64 + k)) = true := by decide +kernel
theorem e_mokc5 : ((List.range 16).all fun k => e_mok (80 + k)) = true := by decide +kernel
theorem e_mokc6 : ((List.range 16).all fun k => e_mok (96 + k)) = true := by decide +kernel
theorem e_mokc7 : ((List.range 16).all fun k => e_mok (112 + k)) = true := by decide +kernel
theorem e_mokc8 : ((List.range 16).all fun k => e_mok (128 + k)) = true := by decide +kernel
theorem e_mokc9 : ((List.range 16).all fun k => e_mok (144 + k)) = true := by decide +kernel
theorem e_mokc10 : ((List.range 16).all fun k => e_mok (160 + k)) = true := by decide +kernel
theorem e_mokc11 : ((List.range 16).all fun k => e_mok (176 + k)) = true := by decide +kernel
theorem e_mokc12 : ((List.range 16).all fun k => e_mok (192 + k)) = true := by decide +kernel
theorem e_mokc13 : ((List.range 16).all fun k => e_mok (208 + k)) = true := by decide +kernel
theorem e_mokc14 : ((List.range 16).all fun k => e_mok (224 + k)) = true := by decide +kernel
theorem e_mokc15 : ((List.range 16).all fun k => e_mok (240 + k)) = true := by decide +kernel
theorem e_mokc16 : ((List.range 16).all fun k => e_mok (256 + k)) = true := by decide +kernel
theorem e_mokc17 : ((List.range 16).all fun k => e_mok (272 + k)) = true := by decide +kernel
theorem e_mokc18 : ((List.range 16).all fun k => e_mok (288 + k)) = true := by decide +kernel
theorem e_mokc19 : ((List.range 16).all fun k => e_mok (304 + k)) = true := by decide +kernel
theorem e_mok_all (v : Nat) : e_mok v = true := by
  have key : ∀ n, ((List.range 16).all fun k => e_mok (16 * n + k)) = true := fun n => match n with
    | 0 => e_mokc0
    | 1 => e_mokc1
    | 2 => e_mokc2
    | 3 => e_mokc3
    | 4 => e_mokc4
    | 5 => e_mokc5
    | 6 => e_mokc6
    | 7 => e_mokc7
    | 8 => e_mokc8
    | 9 => e_mokc9
    | 10 => e_mokc10
    | 11 => e_mokc11
    | 12 => e_mokc12
    | 13 => e_mokc13
    | 14 => e_mokc14
    | 15 => e_mokc15
    | 16 => e_mokc16
    | 17 => e_mokc17
    | 18 => e_mokc18
    | 19 => e_mokc19
    | n + 20 => by
      refine List.all_eq_true.mpr fun k hk => ?_
      have hk2 := List.mem_range.mp hk
      unfold e_mok
      have e1 : (16 * (n + 20) + k) / 16 = n + 20 := by omega
      rw [e1]
      rfl
  have h := List.all_eq_true.mp (key (v / 16)) (v % 16) (List.mem_range.mpr (by omega))
  rw [show 16 * (v / 16) + v % 16 = v by omega] at h
  exact h
theorem e_eokc : ((List.range 320).all fun v => e_eok v && decide (0 < e_ht v)) = true := by decide +kernel
theorem e_eok_all (v : Nat) : e_eok v = true ∧ 0 < e_ht v := by
  by_cases hv : v < 320
  · have h := List.all_eq_true.mp e_eokc v (List.mem_range.mpr hv)
    rw [Bool.and_eq_true] at h
    exact ⟨h.1, of_decide_eq_true h.2⟩
  · obtain ⟨n, hn⟩ : ∃ n, v / 16 = n + 20 := ⟨v / 16 - 20, by omega⟩
    refine ⟨?_, ?_⟩
    · unfold e_eok e_lb
      rw [hn]; rfl
    · unfold e_ht
      rw [hn]; exact Nat.zero_lt_one
end
section
/-! what the analysis knows of a value: a number lies between two, perhaps not 0; an object is one of some; none: anything; and what a local is bound to -/
abbrev AV : Type := Option ((Int × Int × Bool) ⊕ List Int)
abbrev AT : Type := List (Nat × Bool × Int)
end
